/-! the best plan: the same on both sides -/
def best (E : mT) (n np k : Nat) (D : mT) (B : Nat) : Prop := B < 6 ^ k ∧ (∀ q, q < 6 ^ k → wo E n np k D q ≤ wo E n np k D B) ∧ ∀ q, q < B → wo E n np k D q < wo E n np k D B
theorem best_uniq {E : mT} {n np k : Nat} {D : mT} {A B : Nat} (hA : best E n np k D A) (hB : best E n np k D B) : A = B := by
  obtain ⟨a1, a2, a3⟩ := hA
  obtain ⟨b1, b2, b3⟩ := hB
  rcases Nat.lt_trichotomy A B with q | q | q
  · have := b3 A q; have := a2 B b1; omega
  · exact q
  · have := a3 B q; have := b2 A a1; omega
theorem nm1_lt {m : Nat} (h : m < 2 ^ 31) : (-1 : Int32) < nI m := by
  refine Int32.lt_iff_toInt_lt.mpr ?_
  rw [nI_toInt h, show (-1 : Int32).toInt = -1 by decide]
  omega
theorem wo_le {E : mT} {n np k : Nat} (hE0 : okE E n np) (h1p : 1 ≤ np) (hL : okL E n) (D : mT) (p : Nat) : wo E n np k D p ≤ mv n 0 0 ∧ mv n 0 0 < 2 ^ 31 := by
  obtain ⟨a, b, w, ha, hb, hw, -, -, -, -, e⟩ := pl_val (k := k) hE0 h1p hL D p
  have h12 := hE0.2.1
  rw [e]
  unfold mv
  omega
theorem cls_best {E : mT} {n np k : Nat} (hE0 : okE E n np) (h1p : 1 ≤ np) (hL : okL E n) (hk : k ≤ 3) (D : mT) : ∀ (f p : Nat) (b mo : Int32) (T : mT) (S : Nat → Int32), p + f = 6 ^ k → (∀ t, k ≤ t → t < 4 → S t = E 6 t) →
    ((p = 0 ∧ b = 0 ∧ mo = -1) ∨ ∃ B, B < p ∧ b = nI B ∧ mo = nI (wo E n np k D B) ∧ (∀ q, q < p → wo E n np k D q ≤ wo E n np k D B) ∧ ∀ q, q < B → wo E n np k D q < wo E n np k D B) →
    ∃ B, best E n np k D B ∧ (c_bst E n np k (c_mer (nI n) 0 0) f p b mo T S).1 = nI B ∧ ∀ t, k ≤ t → t < 4 → (c_bst E n np k (c_mer (nI n) 0 0) f p b mo T S).2.2 t = E 6 t := by
  have h12 := hE0.2.1
  have hK : 0 < 6 ^ k := Nat.pow_pos (by decide)
  have hK2 : 6 ^ k ≤ 216 := Nat.pow_le_pow_right (n := 6) (by decide) hk
  have hpf : c_mer (nI n) 0 0 = nI (mv n 0 0) := mer_v (b := 0) (w := 0) h12 (by decide) (by decide)
  intro f
  induction f with
  | zero =>
    intro p b mo T S hp hS H
    rcases H with ⟨h0, -, -⟩ | ⟨B, hB, eb, em, h1, h2⟩
    · omega
    · exact ⟨B, ⟨by omega, fun q hq => h1 q (by omega), h2⟩, eb, hS⟩
  | succ f ih =>
    intro p b mo T S hp hS H
    have hS2 : ∀ t, k ≤ t → t < 4 → c_s2 E n k p S t = E 6 t := fun t h1 h2 => by unfold c_s2; rw [(rp_dg E n k p S 1 t).2 h1]; exact hS t h1 h2
    obtain ⟨r1, r2, r3⟩ := pl_cls hE0 h1p hL (S := S) p 1 hS T D
    have hmr : c_mr n (c_try E (c_s2 E n k p S) n np T) = nI (wo E n np k D p) := by
      obtain ⟨a, b', w, -, -, -, -, -, -, e4, e5⟩ := pl_val (k := k) hE0 h1p hL D p
      rw [e5, ← e4]
      unfold c_mr c_s2
      rw [r1, r2, r3]
    have hw1 := wo_le (k := k) hE0 h1p hL D p
    rw [c_bst, hpf, hmr, ← hpf]
    rcases H with ⟨rfl, rfl, rfl⟩ | ⟨B, hB, rfl, rfl, h1, h2⟩
    · rw [hpf, if_pos (nm1_lt hw1.2), if_neg (by rw [rp_first]; decide), if_pos (nm1_lt (by omega)), ← hpf]
      exact ih 1 _ _ _ _ (by omega) hS2 (Or.inr ⟨0, by omega, rfl, rfl, fun q hq => by rw [show q = 0 by omega]; exact Nat.le_refl _, fun q hq => absurd hq (by omega)⟩)
    · have hw2 := wo_le (k := k) hE0 h1p hL D B
      have elt : nI (wo E n np k D B) < nI (wo E n np k D p) ↔ wo E n np k D B < wo E n np k D p := nI_ltI (by omega) (by omega)
      by_cases hst : nI (wo E n np k D B) < c_mer (nI n) 0 0
      · rw [if_pos hst]
        by_cases hfl : (c_rp E n k p S 1).2 = 0
        · rw [if_pos hfl]
          obtain ⟨p', hp', e'⟩ := pl_skip (np := np) hE0 h1p hL hk D (by omega) hfl
          exact ih _ _ _ _ _ (by omega) hS2 (Or.inr ⟨B, by omega, rfl, rfl, fun q hq => by
            by_cases hqp : q = p
            · rw [hqp, ← e']; exact h1 p' hp'
            · exact h1 q (by omega), h2⟩)
        · rw [if_neg hfl]
          by_cases hlt : wo E n np k D B < wo E n np k D p
          · rw [if_pos (elt.mpr hlt)]
            exact ih _ _ _ _ _ (by omega) hS2 (Or.inr ⟨p, by omega, rfl, rfl, fun q hq => by
              by_cases hqp : q = p
              · rw [hqp]; exact Nat.le_refl _
              · have := h1 q (by omega); omega, fun q hq => by have := h1 q hq; omega⟩)
          · rw [if_neg (fun q => hlt (elt.mp q))]
            exact ih _ _ _ _ _ (by omega) hS2 (Or.inr ⟨B, by omega, rfl, rfl, fun q hq => by
              by_cases hqp : q = p
              · rw [hqp]; omega
              · exact h1 q (by omega), h2⟩)
      · rw [if_neg hst]
        rw [hpf, nI_ltI (by omega) (by omega)] at hst
        exact ⟨B, ⟨by omega, fun q _ => by have := (wo_le (k := k) hE0 h1p hL D q).1; omega, h2⟩, rfl, hS⟩
theorem ref_best {E : mT} {n np k : Nat} (hE0 : okE E n np) (h1p : 1 ≤ np) (hL : okL E n) (hk : k ≤ 3) (D : mT) : ∀ (f p : Nat) (s : q4) (Y M : mT), p + f = 6 ^ k → E6 E Y k →
    ((p = 0 ∧ s.1 = -1) ∨ ∃ B, B < p ∧ s = (nI B, c_sum n (ou E n np k D B), c_inS n 4 (ou E n np k D B), c_wts n (ou E n np k D B)) ∧ (∀ q, q < p → wo E n np k D q ≤ wo E n np k D B) ∧ ∀ q, q < B → wo E n np k D q < wo E n np k D B) →
    ∃ B, best E n np k D B ∧ (m_pls n np k D f p s Y M).1 = (nI B, c_sum n (ou E n np k D B), c_inS n 4 (ou E n np k D B), c_wts n (ou E n np k D B)) ∧ E6 E (m_pls n np k D f p s Y M).2.1 k := by
  have h12 := hE0.2.1
  have hK : 0 < 6 ^ k := Nat.pow_pos (by decide)
  have hK2 : 6 ^ k ≤ 216 := Nat.pow_le_pow_right (n := 6) (by decide) hk
  intro f
  induction f with
  | zero =>
    intro p s Y M hp hY H
    rcases H with ⟨h0, -⟩ | ⟨B, hB, es, h1, h2⟩
    · omega
    · exact ⟨B, ⟨by omega, fun q hq => h1 q (by omega), h2⟩, es, hY⟩
  | succ f ih =>
    intro p s Y M hp hY H
    rw [m_pls]
    obtain ⟨r1, r2, r3⟩ := pl_ref hE0 h1p hL p hY D
    refine ih (p + 1) _ _ _ (by omega) (E6_tell hY p) (Or.inr ?_)
    unfold m_pk
    rw [r1, r2, r3]
    rcases H with ⟨rfl, hs⟩ | ⟨B, hB, rfl, h1, h2⟩
    · rw [if_pos (Or.inl hs)]
      exact ⟨0, by omega, rfl, fun q hq => by rw [show q = 0 by omega]; exact Nat.le_refl _, fun q hq => absurd hq (by omega)⟩
    · obtain ⟨a, b, w, ha, hb, hw, e1, e2, e3, -, e5⟩ := pl_val (k := k) hE0 h1p hL D B
      obtain ⟨a', b', w', ha', hb', hw', e1', e2', e3', -, e5'⟩ := pl_val (k := k) hE0 h1p hL D p
      have em := more_v (a := a) (b := b) (w := w) (a' := a') (b' := b') (w' := w') (by omega) (by omega) (by omega) (by omega) (by omega) (by omega)
      rw [← e5, ← e5', ← e1, ← e2, ← e3, ← e1', ← e2', ← e3'] at em
      by_cases hlt : wo E n np k D B < wo E n np k D p
      · rw [if_pos (Or.inr (em.mpr hlt))]
        exact ⟨p, by omega, rfl, fun q hq => by
          by_cases hqp : q = p
          · rw [hqp]; exact Nat.le_refl _
          · have := h1 q (by omega); omega, fun q hq => by have := h1 q hq; omega⟩
      · rw [if_neg (fun q => q.elim (fun z => nI_m1 (j := B) (by omega) z) (fun z => hlt (em.mp z)))]
        exact ⟨B, by omega, rfl, fun q hq => by
          by_cases hqp : q = p
          · rw [hqp]; omega
          · exact h1 q (by omega), h2⟩
/-- plan: answer and starts -/
theorem plan_eq {E : mT} {n np k : Nat} (hE0 : okE E n np) (h1p : 1 ≤ np) (hL : okL E n) (hk1 : 1 ≤ k) (hk : k ≤ 3) (S : Nat → Int32) (T D M : mT) : a_plan E S T n np (nI k) = (m_all E n np k D M).1.2.1 ∧ e_plan E S T n np (nI k) = me_plan E n np k D M := by
  have hw : ¬ isW (nI k) 1 3 = 0 := by obtain rfl | rfl | rfl : k = 1 ∨ k = 2 ∨ k = 3 := by omega
                                       all_goals decide
  have hK2 : 6 ^ k ≤ 216 := Nat.pow_le_pow_right (n := 6) (by decide) hk
  have hS : ∀ t, k ≤ t → t < 4 → va_cpy (E 6) S 0 0 4 t = E 6 t := fun t _ ht => by rw [pk_cpy_in (Nat.zero_le _) (by omega)]; congr 1; omega
  obtain ⟨A, bA, eA, sA⟩ := cls_best hE0 h1p hL hk D (6 ^ k) 0 0 (-1) T (va_cpy (E 6) S 0 0 4) (by omega) hS (Or.inl ⟨rfl, rfl, rfl⟩)
  obtain ⟨B, bB, eB, yB⟩ := ref_best hE0 h1p hL hk D (6 ^ k) 0 (-1, 0, 0, 0) E M (by omega) E6_self (Or.inl ⟨rfl, rfl⟩)
  obtain rfl := best_uniq bA bB
  have eA : (c_best E n np k T (va_cpy (E 6) S 0 0 4)).1 = nI A := eA
  have sA : ∀ t, k ≤ t → t < 4 → (c_best E n np k T (va_cpy (E 6) S 0 0 4)).2.2 t = E 6 t := sA
  have eB : (m_all E n np k D M).1 = (nI A, c_sum n (ou E n np k D A), c_inS n 4 (ou E n np k D A), c_wts n (ou E n np k D A)) := eB
  have yB : E6 E (m_all E n np k D M).2.1 k := yB
  have hA := bA.1
  have hcl : (nI k).toNatClampNeg = k := nI_clamp (by omega)
  have hca : (nI A).toNatClampNeg = A := nI_clamp (by omega)
  refine ⟨?_, ?_⟩
  · rw [eB, a_plan, if_neg hw, t_plan, if_neg hw, hcl]
    unfold c_pl
    rw [eA, hca]
    exact (pl_cls hE0 h1p hL A 1 sA _ D).1
  · rw [e_plan, if_neg hw, hcl, me_plan, eB]
    unfold c_pl
    rw [eA, hca]
    funext q t
    by_cases hq : q = 6
    · subst hq
      have e1 : ∀ f : Nat → Int32, sRw E 6 f 6 = f := fun f => rfl
      rw [e1]
      by_cases htk : t < k
      · rw [pk_cpy_in (Nat.zero_le _) (by omega), show 0 + (t - 0) = t by omega, (rp_dg E n k A _ 1 t).1 htk, (tell_dg k A _ t).1 htk]
      · rw [pk_cpy_out (Or.inr (by omega)), (tell_dg k A _ t).2 (by omega), yB.2 t (by omega)]
    · have e2 : ∀ f : Nat → Int32, sRw E 6 f q = E q := fun f => by
        unfold sRw
        cases h2 : Nat.beq q 6 with
        | true => exact absurd (Nat.eq_of_beq_eq_true h2) hq
        | false => rfl
      rw [e2, m_tell_q k A _ q hq, yB.1 q hq]
