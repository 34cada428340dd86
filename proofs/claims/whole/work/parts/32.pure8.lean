/-! plans by their digits -/
def dg (k p t : Nat) : Nat := p / 6 ^ (k - 1 - t) % 6
theorem dg_s {k p t : Nat} (h : t < k) : dg (k + 1) p t = dg k (p / 6) t := by
  unfold dg
  rw [Nat.div_div_eq_div_mul, show k + 1 - 1 - t = (k - 1 - t) + 1 by omega, Nat.pow_succ, Nat.mul_comm]
theorem dg_l (k p : Nat) : dg (k + 1) p k = p % 6 := by
  unfold dg
  rw [show k + 1 - 1 - k = 0 by omega, Nat.pow_zero, Nat.div_one]
theorem tell_dg : ∀ (k p : Nat) (E : mT) (t : Nat), (t < k → m_tell k p E 6 t = nI (2 * dg k p t)) ∧ (k ≤ t → m_tell k p E 6 t = E 6 t) := by
  intro k
  induction k with
  | zero => intro p E t; exact ⟨fun h => absurd h (by omega), fun _ => rfl⟩
  | succ k ih =>
    intro p E t
    rw [m_tell]
    refine ⟨fun h => ?_, fun h => ?_⟩
    · by_cases htk : t = k
      · subst htk
        rw [(ih _ _ t).2 (Nat.le_refl _), cS_at, upd_same, dg_l]
      · rw [(ih _ _ t).1 (by omega), dg_s (by omega)]
    · rw [(ih _ _ t).2 (by omega), cS_at]
      unfold upd
      rw [if_neg (by omega)]
theorem rp_dg (E : mT) (n : Nat) : ∀ (k p : Nat) (S : Nat → Int32) (w : Int32) (t : Nat), (t < k → (c_rp E n k p S w).1 t = nI (2 * dg k p t)) ∧ (k ≤ t → (c_rp E n k p S w).1 t = S t) := by
  intro k
  induction k with
  | zero => intro p S w t; exact ⟨fun h => absurd h (by omega), fun _ => rfl⟩
  | succ k ih =>
    intro p S w t
    rw [c_rp]
    refine ⟨fun h => ?_, fun h => ?_⟩
    · by_cases htk : t = k
      · subst htk
        rw [(ih _ _ _ t).2 (Nat.le_refl _), upd_same, dg_l, Nat.mul_comm]
      · rw [(ih _ _ _ t).1 (by omega), dg_s (by omega)]
    · rw [(ih _ _ _ t).2 (by omega)]
      unfold upd
      rw [if_neg (by omega)]
/-- a plan that is left out: a team below k without climbers does not start at once -/
theorem rp_flag (E : mT) (n : Nat) : ∀ (k p : Nat) (S : Nat → Int32) (w : Int32), (c_rp E n k p S w).2 = 0 → w = 0 ∨ ∃ t, t < k ∧ 0 < dg k p t ∧ vany E (nI t) n 0 = 0 := by
  intro k
  induction k with
  | zero => intro p S w h; exact Or.inl h
  | succ k ih =>
    intro p S w h
    rw [c_rp] at h
    rcases ih _ _ _ h with q | ⟨t, ht, hd, hv⟩
    · by_cases h0 : 0 < nI (p % 6 * 2)
      · rw [if_pos h0] at q
        by_cases hv : vany E (nI k) n 0 = 0
        · refine Or.inr ⟨k, by omega, ?_, hv⟩
          rw [l0 (by omega)] at h0
          rw [dg_l]
          omega
        · rw [if_neg hv] at q; exact Or.inl q
      · rw [if_neg h0] at q; exact Or.inl q
    · exact Or.inr ⟨t, by omega, by rw [dg_s ht]; exact hd, hv⟩
theorem rp_first (E : mT) (n : Nat) : ∀ (k : Nat) (S : Nat → Int32) (w : Int32), (c_rp E n k 0 S w).2 = w := by
  intro k
  induction k with
  | zero => intro S w; rfl
  | succ k ih => intro S w; rw [c_rp, if_neg (by decide)]; exact ih _ _
theorem vany_no (E : mT) (q : Int32) : ∀ (k i : Nat), vany E q k i = 0 → ∀ j, i ≤ j → j < i + k → ¬ E 3 j = q := by
  intro k
  induction k with
  | zero => intro i _ j h1 h2; omega
  | succ k ih =>
    intro i h j h1 h2
    rw [vany] at h
    by_cases hq : E 3 i = q
    · rw [if_pos hq] at h; exact absurd h (by decide)
    · rw [if_neg hq] at h
      by_cases hj : j = i
      · rw [hj]; exact hq
      · exact ih (i + 1) h j (by omega) (by omega)
/-- the same plan but for one team, which starts at once: an earlier one -/
theorem dg_less {k p t : Nat} (hk : k ≤ 3) (hp : p < 6 ^ k) (ht : t < k) (hd : 0 < dg k p t) : ∃ p', p' < p ∧ ∀ u, u < k → u ≠ t → dg k p' u = dg k p u := by
  obtain rfl | rfl | rfl : k = 1 ∨ k = 2 ∨ k = 3 := by omega
  · exact ⟨0, by unfold dg at hd; rcases Nat.eq_zero_or_pos p with q | q; rw [q] at hd; exact absurd hd (by rw [Nat.zero_div]; decide); exact q, fun u h1 h2 => by omega⟩
  · obtain rfl | rfl : t = 0 ∨ t = 1 := by omega
    · have e : dg 2 p 0 = p / 6 % 6 := rfl
      rw [e] at hd
      refine ⟨p % 6, by omega, fun u h1 h2 => ?_⟩
      obtain rfl : u = 1 := by omega
      show p % 6 / 1 % 6 = p / 1 % 6
      omega
    · have e : dg 2 p 1 = p / 1 % 6 := rfl
      rw [e] at hd
      refine ⟨p / 6 * 6, by omega, fun u h1 h2 => ?_⟩
      obtain rfl : u = 0 := by omega
      show p / 6 * 6 / 6 % 6 = p / 6 % 6
      omega
  · obtain rfl | rfl | rfl : t = 0 ∨ t = 1 ∨ t = 2 := by omega
    · have e : dg 3 p 0 = p / 36 % 6 := rfl
      rw [e] at hd
      refine ⟨p % 36, by omega, fun u h1 h2 => ?_⟩
      obtain rfl | rfl : u = 1 ∨ u = 2 := by omega
      · show p % 36 / 6 % 6 = p / 6 % 6
        omega
      · show p % 36 / 1 % 6 = p / 1 % 6
        omega
    · have e : dg 3 p 1 = p / 6 % 6 := rfl
      rw [e] at hd
      refine ⟨p / 36 * 36 + p % 6, by omega, fun u h1 h2 => ?_⟩
      obtain rfl | rfl : u = 0 ∨ u = 2 := by omega
      · show (p / 36 * 36 + p % 6) / 36 % 6 = p / 36 % 6
        omega
      · show (p / 36 * 36 + p % 6) / 1 % 6 = p / 1 % 6
        omega
    · have e : dg 3 p 2 = p / 1 % 6 := rfl
      rw [e] at hd
      refine ⟨p / 6 * 6, by omega, fun u h1 h2 => ?_⟩
      obtain rfl | rfl : u = 0 ∨ u = 1 := by omega
      · show p / 6 * 6 / 36 % 6 = p / 36 % 6
        omega
      · show p / 6 * 6 / 6 % 6 = p / 6 % 6
        omega
/-! what a plan is worth -/
def E6 (E Y : mT) (k : Nat) : Prop := (∀ q, q ≠ 6 → Y q = E q) ∧ ∀ t, k ≤ t → Y 6 t = E 6 t
theorem E6_tell {E Y : mT} {k : Nat} (h : E6 E Y k) (p : Nat) : E6 E (m_tell k p Y) k := ⟨fun q hq => by rw [m_tell_q k p Y q hq]; exact h.1 q hq, fun t ht => by rw [(tell_dg k p Y t).2 ht]; exact h.2 t ht⟩
def ou (E : mT) (n np k : Nat) (D : mT) (p : Nat) : mT := m_tr (m_tell k p E) n np D
def wo (E : mT) (n np k : Nat) (D : mT) (p : Nat) : Nat := (c_mr n (ou E n np k D p)).toNatClampNeg
theorem pl_ok {E : mT} {n np k : Nat} (hE0 : okE E n np) (h1p : 1 ≤ np) (hL : okL E n) {Y : mT} {St : Nat → Int32} (p : Nat) (hY : E6 E Y k) (hS : ∀ t, t < 4 → St t = m_tell k p E 6 t) : okS E (m_tell k p Y) St n np := ⟨hE0.2.1, hE0.2.2.2.1, h1p, hE0.2.2.2.2.1, hL, fun q hq => (E6_tell hY p).1 q hq, fun i hi => by
  have ht := tm4 (hE0.2.2.1 i hi)
  rw [hS _ ht]
  by_cases htk : tm E i < k
  · rw [(tell_dg k p E _).1 htk, (tell_dg k p Y _).1 htk]
  · rw [(tell_dg k p E _).2 (by omega), (tell_dg k p Y _).2 (by omega), hY.2 _ (by omega)]⟩
theorem E6_self {E : mT} {k : Nat} : E6 E E k := ⟨fun _ _ => rfl, fun _ _ => rfl⟩
/-- every trial of plan p, on either side, answers as the first one's -/
theorem pl_ref {E : mT} {n np k : Nat} (hE0 : okE E n np) (h1p : 1 ≤ np) (hL : okL E n) {Y : mT} (p : Nat) (hY : E6 E Y k) (D : mT) : c_sum n (m_tr (m_tell k p Y) n np D) = c_sum n (ou E n np k D p) ∧ c_inS n 4 (m_tr (m_tell k p Y) n np D) = c_inS n 4 (ou E n np k D p) ∧ c_wts n (m_tr (m_tell k p Y) n np D) = c_wts n (ou E n np k D p) := by
  obtain ⟨a1, a2, a3, -⟩ := try_out (pl_ok hE0 h1p hL (St := m_tell k p E 6) p hY (fun _ _ => rfl)) D D
  obtain ⟨b1, b2, b3, -⟩ := try_out (pl_ok hE0 h1p hL (St := m_tell k p E 6) p E6_self (fun _ _ => rfl)) D D
  exact ⟨a1.symm.trans b1, a2.symm.trans b2, a3.symm.trans b3⟩
theorem pl_cls {E : mT} {n np k : Nat} (hE0 : okE E n np) (h1p : 1 ≤ np) (hL : okL E n) {S : Nat → Int32} (p : Nat) (w : Int32) (hS : ∀ t, k ≤ t → t < 4 → S t = E 6 t) (T D : mT) : c_sum n (c_try E (c_rp E n k p S w).1 n np T) = c_sum n (ou E n np k D p) ∧ c_inS n 4 (c_try E (c_rp E n k p S w).1 n np T) = c_inS n 4 (ou E n np k D p) ∧ c_wts n (c_try E (c_rp E n k p S w).1 n np T) = c_wts n (ou E n np k D p) := by
  have hs : ∀ t, t < 4 → (c_rp E n k p S w).1 t = m_tell k p E 6 t := fun t ht => by
    by_cases htk : t < k
    · rw [(rp_dg E n k p S w t).1 htk, (tell_dg k p E t).1 htk]
    · rw [(rp_dg E n k p S w t).2 (by omega), (tell_dg k p E t).2 (by omega), hS t (by omega) ht]
  obtain ⟨b1, b2, b3, -⟩ := try_out (pl_ok hE0 h1p hL p E6_self hs) T D
  exact ⟨b1, b2, b3⟩
theorem pl_val {E : mT} {n np k : Nat} (hE0 : okE E n np) (h1p : 1 ≤ np) (hL : okL E n) (D : mT) (p : Nat) : ∃ a b w, a ≤ n ∧ b ≤ n ∧ w ≤ n * 100 ∧ c_sum n (ou E n np k D p) = nI a ∧ c_inS n 4 (ou E n np k D p) = nI b ∧ c_wts n (ou E n np k D p) = nI w ∧ c_mr n (ou E n np k D p) = nI (mv a b w) ∧ wo E n np k D p = mv a b w := by
  obtain ⟨-, -, -, a, b, w, ha, hb, hw, e1, e2, e3⟩ := try_out (pl_ok hE0 h1p hL (St := m_tell k p E 6) p E6_self (fun _ _ => rfl)) D D
  have h12 := hE0.2.1
  have e4 : c_mr n (ou E n np k D p) = nI (mv a b w) := by
    show c_mer (c_sum n (m_tr (m_tell k p E) n np D)) (c_inS n 4 (m_tr (m_tell k p E) n np D)) (c_wts n (m_tr (m_tell k p E) n np D)) = _
    rw [e1, e2, e3, mer_v (by omega) (by omega) (by omega)]
  exact ⟨a, b, w, ha, hb, hw, e1, e2, e3, e4, by unfold wo; rw [e4]; exact nI_clamp (by unfold mv; omega)⟩
theorem pl_skip {E : mT} {n np k : Nat} (hE0 : okE E n np) (h1p : 1 ≤ np) (hL : okL E n) (hk : k ≤ 3) (D : mT) {p : Nat} (hp : p < 6 ^ k) {S : Nat → Int32} (h : (c_rp E n k p S 1).2 = 0) : ∃ p', p' < p ∧ wo E n np k D p' = wo E n np k D p := by
  rcases rp_flag E n k p S 1 h with q | ⟨t, ht, hd, hv⟩
  · exact absurd q (by decide)
  · obtain ⟨p', hp', hu⟩ := dg_less hk hp ht hd
    refine ⟨p', hp', ?_⟩
    have ok : okS E (m_tell k p' E) (m_tell k p E 6) n np := ⟨hE0.2.1, hE0.2.2.2.1, h1p, hE0.2.2.2.2.1, hL, fun q hq => m_tell_q k p' E q hq, fun i hi => by
      have h4 := tm4 (hE0.2.2.1 i hi)
      have hne : tm E i ≠ t := fun q => by
        refine vany_no E (nI t) n 0 hv i (Nat.zero_le _) (by omega) ?_
        obtain ⟨a, ha, e⟩ := vp_in_of (hE0.2.2.1 i hi).1 (by decide)
        have : tm E i = a := by unfold tm; rw [e]; exact nI_clamp (by omega)
        rw [e, ← this, q]
      by_cases htk : tm E i < k
      · rw [(tell_dg k p E _).1 htk, (tell_dg k p' E _).1 htk, hu _ htk hne]
      · rw [(tell_dg k p E _).2 (by omega), (tell_dg k p' E _).2 (by omega)]⟩
    obtain ⟨a1, a2, a3, -⟩ := try_out ok D D
    obtain ⟨b1, b2, b3, -⟩ := try_out (pl_ok hE0 h1p hL (St := m_tell k p E 6) p E6_self (fun _ _ => rfl)) D D
    unfold wo c_mr ou
    rw [← a1, ← a2, ← a3, b1, b2, b3]
