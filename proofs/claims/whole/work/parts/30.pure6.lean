/-! who could fetch -/
theorem vskip {F : Nat → Int32 → Int32} {hg b : Nat} : ∀ (m a : Nat) (x : Int32), b - a = m → vlp (fun s h => if s < hg then h else F s h) b a x = vlp F b (max a hg) x := by
  intro m
  induction m with
  | zero => intro a x h; rw [vlp_done (by omega), vlp_done (by omega)]
  | succ m ih =>
    intro a x h
    rw [vlp_step (f := fun s h => if s < hg then h else F s h) (by omega), ih (a + 1) _ (by omega)]
    by_cases hlt : a < hg
    · rw [if_pos hlt, show max (a + 1) hg = max a hg by omega]
    · rw [if_neg hlt, show max (a + 1) hg = a + 1 by omega, show max a hg = a by omega]
      exact (vlp_step (f := F) (by omega)).symm
theorem vlp_congr2 {α : Type} {f g : Nat → α → α} {n : Nat} (h : ∀ i a, i < n → f i a = g i a) : ∀ (m i : Nat) (a : α), n - i = m → vlp f n i a = vlp g n i a := by
  intro m
  induction m with
  | zero => intro i a h; rw [vlp_done (by omega), vlp_done (by omega)]
  | succ m ih => intro i a hm; rw [vlp_step (f := f) (by omega), vlp_step (f := g) (by omega), h i a (by omega)]; exact ih (i + 1) _ (by omega)
theorem ht_eq {E C : mT} {i ac lo hg : Nat} {ho : Int32} (hcm : C 1 i = nI (cmp C i) ∧ cmp C i ≤ 6) (hac : ac ≤ 6) (hhg : E 8 1 = nI hg) (hg6 : hg ≤ 6) (hl : (ho = 0 ∧ lo = 0) ∨ (ho = 1 ∧ lo = hg)) : c_ht E i ac lo C = m_ht E i ac ho C := by
  have e1 : ∀ (b a : Nat) (x : Int32), b ≤ 6 → vlp (g1 E i ho) b a x = vlp (fun s h => h + (E 0 s + E 4 i)) b (max a lo) x := fun b a x hb => by
    rcases hl with ⟨rfl, rfl⟩ | ⟨rfl, rfl⟩
    · rw [show max a 0 = a by omega]
      exact vlp_congr2 (fun s h _ => by unfold g1; rw [if_pos rfl]) _ a x rfl
    · rw [← vskip (F := fun s h => h + (E 0 s + E 4 i)) _ a x rfl]
      refine vlp_congr2 (fun s h hs => ?_) _ a x rfl
      unfold g1
      rw [if_neg (by decide), hhg]
      simp only [nI_ltI (a := s) (b := lo) (by omega) (by omega)]
  have e2 : ∀ (b a : Nat) (x : Int32), b ≤ 6 → vlp (g2 E ho) b a x = vlp (fun s h => h + E 0 s) b (max a lo) x := fun b a x hb => by
    rcases hl with ⟨rfl, rfl⟩ | ⟨rfl, rfl⟩
    · rw [show max a 0 = a by omega]
      exact vlp_congr2 (fun s h _ => by unfold g2; rw [if_pos rfl]) _ a x rfl
    · rw [← vskip (F := fun s h => h + E 0 s) _ a x rfl]
      refine vlp_congr2 (fun s h hs => ?_) _ a x rfl
      unfold g2
      rw [if_neg (by decide), hhg]
      simp only [nI_ltI (a := s) (b := lo) (by omega) (by omega)]
  unfold c_ht m_ht
  rw [hcm.1]
  simp only [nI_ltI (a := cmp C i) (b := ac) (by omega) (by omega)]
  by_cases hlt : cmp C i < ac
  · rw [vlp_done (f := g2 E ho) (by omega), e1 ac _ _ hac, show max (cmp C i) ac = ac by omega, show min (cmp C i) ac = cmp C i by omega]
    refine vlp_congr2 (fun s h _ => ?_) _ _ _ rfl
    rw [if_pos hlt]
    unfold c_hf
    rw [if_neg (by decide)]
  · rw [vlp_done (f := g1 E i ho) (by omega), e2 _ _ _ hcm.2, show max (cmp C i) ac = cmp C i by omega, show min (cmp C i) ac = ac by omega]
    refine vlp_congr2 (fun s h _ => ?_) _ _ _ rfl
    rw [if_neg hlt]
    unfold c_hf
    rw [if_pos rfl]
theorem Iv_cmp {np hr : Nat} {C : mT} {i : Nat} (h6 : np ≤ 6) (H : Iv np hr C i) : C 1 i = nI (cmp C i) ∧ cmp C i ≤ 6 := by
  obtain ⟨s, c, t, w, h0, hs, h1, hc, -⟩ := H
  have : cmp C i = c := by unfold cmp; rw [h1]; exact nI_clamp (by omega)
  rw [this]
  exact ⟨h1, by omega⟩
theorem mht_eq {E : mT} {n : Nat} {C D : mT} (he : eqv n C D) {i ac : Nat} (hi : i < n) (ho : Int32) : m_ht E i ac ho D = m_ht E i ac ho C := by
  unfold m_ht cmp
  rw [← he.1 1 i (by decide) hi]
theorem fetch_eq {E : mT} {n np hr hg : Nat} {C D : mT} (h12 : n ≤ 12) (h6 : np ≤ 6) (hn : E 8 2 = nI n) (hhg : E 8 1 = nI hg) (hg6 : hg ≤ 6) (R : Sr n np hr C D) (v : Int32) : a_fetch E n hg v C = ma_fetch E n v D := by
  unfold a_fetch ma_fetch
  split
  · rfl
  · rename_i hv
    rw [hn] at hv
    obtain ⟨j, hj, rfl⟩ := isW_nI1 hv (by omega)
    rw [nI_clamp (by omega), ← R.1.1 0 j (by decide) hj]
    split
    · have ec : cmp D j = cmp C j := by unfold cmp; rw [R.1.1 1 j (by decide) hj]
      rw [ec]
      have hac := (Iv_cmp h6 (R.2.2 j hj)).2
      generalize cmp C j = ac at hac
      have H := vlp_rel (fun m (p : Int32 × Int32) (a : Int32) => p.1 = a ∧ (a = -1 ∨ ∃ q, q < n ∧ a = nI q ∧ p.2 = c_ht E q ac 0 C)) (f := f_fet E ac hg C) (g := f_mf E ac D) (n := n) ?_ n 0 (-1, 0) (-1) (Nat.zero_le _) rfl ⟨rfl, Or.inl rfl⟩
      · exact H.1
      · intro i p a hi ⟨x1, x2⟩
        obtain ⟨s, c, t, w, h0, hs, h1, hc, h2, ht, h5, hw, hgo, h4, h3, hk⟩ := R.2.2 i hi
        have hcm := Iv_cmp h6 (R.2.2 i hi)
        have k1 : m_ht E i ac 1 D = c_ht E i ac hg C := by rw [mht_eq R.1 hi]; exact (ht_eq hcm hac hhg hg6 (Or.inr ⟨rfl, rfl⟩)).symm
        have k0 : m_ht E i ac 0 D = c_ht E i ac 0 C := by rw [mht_eq R.1 hi]; exact (ht_eq hcm hac hhg hg6 (Or.inl ⟨rfl, rfl⟩)).symm
        have ecr : c_cr E i ac hg C = if t = 0 ∧ s ≤ 2 ∧ ¬ C 3 i < 2 * c_ht E i ac hg C then 1 else 0 := by
          unfold c_cr
          rw [h2, h0]
          simp only [l0 (k := t) (by omega), i3 (k := s) (by omega), i4 (k := s) (by omega)]
          by_cases ht0 : 0 < t
          · rw [if_pos ht0, if_neg (fun q => absurd q.1 (by omega))]
          · rw [if_neg ht0]
            by_cases hs3 : s = 3
            · rw [if_pos hs3, if_neg (fun q => absurd q.2.1 (by omega))]
            · rw [if_neg hs3]
              by_cases hs4 : s = 4
              · rw [if_pos hs4, if_neg (fun q => absurd q.2.1 (by omega))]
              · rw [if_neg hs4]
                by_cases hb : C 3 i < 2 * c_ht E i ac hg C
                · rw [if_pos hb, if_neg (fun q => q.2.2 hb)]
                · rw [if_neg hb, if_pos ⟨by omega, by omega, hb⟩]
        have emf : f_mf E ac D i a = if t = 0 ∧ s ≤ 2 ∧ ¬ C 3 i < 2 * c_ht E i ac hg C then (if a = -1 then nI i else if c_ht E i ac 0 C < m_ht E a.toNatClampNeg ac 0 D then nI i else a) else a := by
          unfold f_mf
          rw [k1, k0, ← R.1.1 2 i (by decide) hi, ← R.1.1 0 i (by decide) hi, ← R.1.1 3 i (by decide) hi, h2, h0]
          have l2' : ((2 : Int32) < nI s) = (2 < s) := propext (nI_ltI (a := 2) (by decide) (by omega))
          simp only [i0 (k := t) (by omega), l2']
          by_cases ht0 : t = 0
          · rw [if_pos ht0]
            by_cases hs2 : 2 < s
            · rw [if_pos hs2, if_neg (fun q => absurd q.2.1 (by omega))]
            · rw [if_neg hs2]
              by_cases hb : C 3 i < 2 * c_ht E i ac hg C
              · rw [if_pos hb, if_neg (fun q => q.2.2 hb)]
              · rw [if_neg hb, if_pos (show t = 0 ∧ s ≤ 2 ∧ ¬ C 3 i < 2 * c_ht E i ac hg C from ⟨ht0, by omega, hb⟩)]
          · rw [if_neg ht0, if_neg (fun q => ht0 q.1)]
        unfold f_fet
        rw [ecr, emf]
        by_cases hq : t = 0 ∧ s ≤ 2 ∧ ¬ C 3 i < 2 * c_ht E i ac hg C
        · rw [if_pos hq, if_neg (by decide), if_pos hq, x1]
          by_cases ha : a = -1
          · rw [if_pos ha, if_pos ha]
            exact ⟨rfl, Or.inr ⟨i, hi, rfl, rfl⟩⟩
          · obtain ⟨q, hqn, rfl, hp2⟩ := x2.resolve_left ha
            rw [if_neg ha, if_neg ha, nI_clamp (by omega), mht_eq R.1 hqn, ← ht_eq (lo := 0) (Iv_cmp h6 (R.2.2 q hqn)) hac hhg hg6 (Or.inl ⟨rfl, rfl⟩), hp2]
            split
            · exact ⟨rfl, Or.inr ⟨i, hi, rfl, rfl⟩⟩
            · exact ⟨x1, Or.inr ⟨q, hqn, rfl, hp2⟩⟩
        · rw [if_neg hq, if_pos rfl, if_neg hq]
          exact ⟨x1, x2⟩
    · rfl
/-! a trial that is over -/
def ovr (n : Nat) (C : mT) : Prop := ∀ i, i < n → C 0 i = 3 ∨ C 0 i = 4
theorem vov_all (C : mT) : ∀ (k i : Nat), ¬ vov C k i = 0 → ∀ j, i ≤ j → j < i + k → C 0 j = 3 ∨ C 0 j = 4 := by
  intro k
  induction k with
  | zero => intro i _ j h1 h2; omega
  | succ k ih =>
    intro i h j h1 h2
    rw [vov] at h
    by_cases h3 : C 0 i = 3
    · rw [if_pos h3] at h
      by_cases hj : j = i
      · rw [hj]; exact Or.inl h3
      · exact ih (i + 1) h j (by omega) (by omega)
    · rw [if_neg h3] at h
      by_cases h4 : C 0 i = 4
      · rw [if_pos h4] at h
        by_cases hj : j = i
        · rw [hj]; exact Or.inr h4
        · exact ih (i + 1) h j (by omega) (by omega)
      · rw [if_neg h4] at h; exact absurd rfl h
def rows (n : Nat) (C D : mT) : Prop := ∀ w i, w ≤ 6 → i < n → C w i = D w i
theorem ovr_t {n np hr : Nat} {C : mT} (ho : ovr n C) {i : Nat} (hi : i < n) (H : Iv np hr C i) : C 2 i = 0 := by
  obtain ⟨s, c, t, w, h0, hs, h1, hc, h2, ht, h5, hw, hgo, -⟩ := H
  have hs34 : s = 3 ∨ s = 4 := by
    rcases ho i hi with q | q
    · rw [h0, i3 (by omega)] at q; exact Or.inl q
    · rw [h0, i4 (by omega)] at q; exact Or.inr q
  have : t = 0 := by
    rcases Nat.eq_zero_or_pos t with q | q
    · exact q
    · rcases hgo q with ⟨a, -⟩ | ⟨a, -⟩ <;> omega
  rw [h2, this]; rfl
theorem c_dec_over {E : mT} {St : Nat → Int32} {i : Nat} {Z : mT} (h : Z 0 i = 3 ∨ Z 0 i = 4) : c_dec E St i Z = Z := by
  have h0 : ¬ Z 0 i = 0 := by rcases h with q | q <;> rw [q] <;> decide
  have h1 : ¬ Z 0 i = 1 := by rcases h with q | q <;> rw [q] <;> decide
  have h2 : ¬ Z 0 i = 2 := by rcases h with q | q <;> rw [q] <;> decide
  have e : c_dec1 E St i Z = Z := by
    unfold c_dec1 c_tb
    rw [if_neg (fun z => h0 z.1), if_neg h1, if_neg h0, if_pos rfl]
  unfold c_dec c_dec2
  rw [e, if_neg (fun z => h2 z.1)]
theorem over_ph {E : mT} {St : Nat → Int32} {n np hr : Nat} {C : mT} (h12 : n ≤ 12) (h6 : np ≤ 6) (ho : ovr n C) (hI : ∀ i, i < n → Iv np hr C i) : rows n (c_ph E St n np C) C := by
  have g : ∀ Z : mT, rows n Z C → ∀ i, i < n → Z 2 i = 0 ∧ (Z 0 i = 3 ∨ Z 0 i = 4) := fun Z hZ i hi => ⟨by rw [hZ 2 i (by decide) hi]; exact ovr_t ho hi (hI i hi), by rw [hZ 0 i (by decide) hi]; exact ho i hi⟩
  have lp : ∀ (f : Nat → mT → mT), (∀ i Z, i < n → rows n Z C → rows n (f i Z) C) → ∀ Z, rows n Z C → rows n (vlp f n 0 Z) C := fun f hf Z hZ => vlp_rel (fun _ (a : mT) (_ : Unit) => rows n a C) (g := fun _ u => u) (fun i a _ hi ha => hf i a hi ha) n 0 Z () (Nat.zero_le _) rfl hZ
  have h1 : rows n (vlp p1 n 0 C) C := lp p1 (fun i Z hi hZ => by
    unfold p1
    rw [(g Z hZ i hi).1, if_neg (by decide)]
    exact hZ) C (fun _ _ _ _ => rfl)
  have h2 : rows n (vlp (p2 E St) n 0 (vlp p1 n 0 C)) C := lp (p2 E St) (fun i Z hi hZ => by
    unfold p2
    rw [(g Z hZ i hi).1, if_pos rfl, c_dec_over (g Z hZ i hi).2]
    exact hZ) _ h1
  have h3 : rows n (p3 E St n np (vlp (p2 E St) n 0 (vlp p1 n 0 C))) C := by
    generalize vlp (p2 E St) n 0 (vlp p1 n 0 C) = Z at h2
    unfold p3
    split
    · unfold c_bp
      have hq := vlp_rel (fun m (a : mT) (_ : Unit) => rows n a C ∧ ∀ i, i < m → a 7 i = -1) (f := q1 E St) (g := fun _ u => u) (n := n) (fun i a _ hi ⟨x1, x2⟩ => ⟨fun w j hw hj => by rw [q1_row (by omega) (by omega)]; exact x1 w j hw hj, fun j hj => by
        by_cases hji : j = i
        · subst hji
          unfold q1
          rw [cS_ne (by decide), cS_at, upd_same]
          unfold c_pw
          rw [(g a x1 j hi).1, if_neg (by decide)]
          rcases (g a x1 j hi).2 with q | q
          · rw [q, if_neg (by decide), if_neg (fun z => absurd z.1 (by decide))]
          · rw [q, if_neg (by decide), if_neg (fun z => absurd z.1 (by decide))]
        · rw [q1_col hji]; exact x2 j (by omega)⟩) n 0 Z () (Nat.zero_le _) rfl ⟨h2, fun i h => absurd h (by omega)⟩
      generalize vlp (q1 E St) n 0 Z = Y at hq
      have hfil : ∀ s, s < 7 → c_fil n (nI s) Y = -1 := fun s hs => by
        unfold c_fil
        rw [f_fil_am]
        exact am_none h12 (fun i hi => by
          rw [decide_eq_false_iff_not, hq.2 i hi]
          exact fun z => nI_m1 (j := s) (by omega) z.symm)
      have hlb : ∀ s k, s < 7 → c_lb E n s k Y = Y := fun s k hs => by
        cases k with
        | zero => rfl
        | succ k => rw [c_lb, if_pos (hfil s hs)]
      have hlbs : ∀ s, s ≤ 6 → c_lbs E n s Y = Y := fun s => by
        induction s with
        | zero => intro _; rfl
        | succ s ih => intro hs; rw [c_lbs, hlb s _ (by omega)]; exact ih (by omega)
      rw [hlbs np h6]
      exact hq.1
    · exact h2
  have h4 := lp (c_br E) (fun i Z hi hZ => by
    unfold c_br
    rw [if_pos (g Z hZ i hi).2]
    exact hZ) _ h3
  have h5 := lp p5 (fun i Z hi hZ => by
    unfold p5
    rw [if_neg (fun z => by
      rcases (g Z hZ i hi).2 with q | q
      · rw [q] at z; exact z.2.2.elim (fun y => absurd y (by decide)) (fun y => absurd y (by decide))
      · rw [q] at z; exact z.2.2.elim (fun y => absurd y (by decide)) (fun y => absurd y (by decide)))]
    exact hZ) _ h4
  intro w i hw hi
  unfold c_ph p6
  rw [cS_ne (by omega)]
  exact h5 w i hw hi
