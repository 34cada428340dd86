/-! trials -/
theorem iter_over {E E' : mT} {St : Nat → Int32} {n np : Nat} (ok : okS E E' St n np) : ∀ (k : Nat) (C D : mT) (hr : Nat), hr + k ≤ 100 → ovr n C → Sr n np hr C D → rows n (m_iter E' n np k D) C := by
  intro k
  induction k with
  | zero => intro C D hr _ _ R w i hw hi; exact (R.1.1 w i hw hi).symm
  | succ k ih =>
    intro C D hr hk ho R w i hw hi
    rw [m_iter]
    have hp := over_ph (E := E) (St := St) ok.1 ok.2.2.2.1 ho R.2.2
    have ho2 : ovr n (c_ph E St n np C) := fun i hi => by rw [hp 0 i (by decide) hi]; exact ho i hi
    exact (ih _ _ (hr + 1) (by omega) ho2 (step_rel ok (by omega) R) w i hw hi).trans (hp w i hw hi)
theorem to_rel {E E' : mT} {St : Nat → Int32} {n np : Nat} (ok : okS E E' St n np) : ∀ (k : Nat) (C D : mT) (hr : Nat), hr + k ≤ 100 → Sr n np hr C D → ∃ (Z : mT) (h2 : Nat), h2 ≤ 100 ∧ (∀ i, i < n → Iv np h2 Z i) ∧ rows n (c_to E St n np k C) Z ∧ rows n (m_iter E' n np k D) Z := by
  intro k
  induction k with
  | zero => intro C D hr hk R; exact ⟨C, hr, by omega, R.2.2, fun _ _ _ _ => rfl, fun w i hw hi => (R.1.1 w i hw hi).symm⟩
  | succ k ih =>
    intro C D hr hk R
    rw [c_to]
    by_cases ho : c_over n C = 0
    · rw [if_pos ho, m_iter]
      exact ih _ _ (hr + 1) (by omega) (step_rel ok (by omega) R)
    · rw [if_neg ho]
      have hov : ovr n C := fun i hi => vov_all C n 0 ho i (Nat.zero_le _) (by omega)
      exact ⟨C, hr, by omega, R.2.2, fun _ _ _ _ => rfl, iter_over ok (k + 1) C D hr (by omega) hov R⟩
theorem try_rel {E E' : mT} {St : Nat → Int32} {n np : Nat} (ok : okS E E' St n np) (T D : mT) : ∃ (Z : mT) (h2 : Nat), h2 ≤ 100 ∧ (∀ i, i < n → Iv np h2 Z i) ∧ rows n (c_try E St n np T) Z ∧ rows n (m_tr E' n np D) Z := by
  unfold c_try m_tr
  exact to_rel ok 100 _ _ 0 (by omega) (reset_rel (ok.2.2.2.2.2.1 5 (by decide)) n np T D)
theorem sum_v (n : Nat) (C : mT) : ∃ a, a ≤ n ∧ c_sum n C = nI a :=
  vlp_rel (fun m (a : Int32) (_ : Unit) => ∃ k, k ≤ m ∧ a = nI k) (g := fun _ u => u) (fun i a _ hi ⟨k, hk, e⟩ => by
    split
    · exact ⟨k, by omega, e⟩
    · exact ⟨k + 1, by omega, by rw [e, nI_1]⟩) n 0 0 () (Nat.zero_le _) rfl ⟨0, Nat.le_refl _, rfl⟩
theorem inS_v (n : Nat) (q : Int32) (C : mT) : ∃ a, a ≤ n ∧ c_inS n q C = nI a :=
  vlp_rel (fun m (a : Int32) (_ : Unit) => ∃ k, k ≤ m ∧ a = nI k) (g := fun _ u => u) (fun i a _ hi ⟨k, hk, e⟩ => by
    split
    · exact ⟨k + 1, by omega, by rw [e, nI_1]⟩
    · exact ⟨k, by omega, e⟩) n 0 0 () (Nat.zero_le _) rfl ⟨0, Nat.le_refl _, rfl⟩
theorem wts_v {n np hr : Nat} {C : mT} (hI : ∀ i, i < n → Iv np hr C i) (h1 : hr ≤ 100) : ∃ a, a ≤ n * 100 ∧ c_wts n C = nI a :=
  vlp_rel (fun m (a : Int32) (_ : Unit) => ∃ k, k ≤ m * 100 ∧ a = nI k) (g := fun _ u => u) (fun i a _ hi ⟨k, hk, e⟩ => by
    obtain ⟨s, c, t, w, h0, hs, h1, hc, h2, ht, h5, hw, -⟩ := hI i hi
    exact ⟨k + w, by omega, by rw [e, h5, nI_add]⟩) n 0 0 () (Nat.zero_le _) rfl ⟨0, Nat.le_refl _, rfl⟩
/-- what a trial of the class and one of the reference answer: the same three numbers -/
theorem try_out {E E' : mT} {St : Nat → Int32} {n np : Nat} (ok : okS E E' St n np) (T D : mT) : c_sum n (c_try E St n np T) = c_sum n (m_tr E' n np D) ∧ c_inS n 4 (c_try E St n np T) = c_inS n 4 (m_tr E' n np D) ∧ c_wts n (c_try E St n np T) = c_wts n (m_tr E' n np D) ∧ ∃ a b w, a ≤ n ∧ b ≤ n ∧ w ≤ n * 100 ∧ c_sum n (m_tr E' n np D) = nI a ∧ c_inS n 4 (m_tr E' n np D) = nI b ∧ c_wts n (m_tr E' n np D) = nI w := by
  obtain ⟨Z, h2, h100, hI, r1, r2⟩ := try_rel ok T D
  rw [sum_eq r1, sum_eq r2, inS_eq r1, inS_eq r2, wts_eq r1, wts_eq r2]
  obtain ⟨a, ha, ea⟩ := sum_v n Z
  obtain ⟨b, hb, eb⟩ := inS_v n 4 Z
  obtain ⟨w, hw, ew⟩ := wts_v hI h100
  exact ⟨rfl, rfl, rfl, a, b, w, ha, hb, hw, ea, eb, ew⟩
theorem s_try_eq (E : mT) (S : Nat → Int32) (u a b d : Int32) {t : Nat} (ht : t < 4) : s_try E S u a b d t = me_st E u a b d 6 t := by
  have hc : va_cpy (E 6) S 0 0 4 t = E 6 t := by rw [pk_cpy_in (Nat.zero_le _) (by omega)]; congr 1; omega
  unfold s_try me_st
  by_cases h2 : 2 < u
  · rw [if_pos h2, if_pos h2]
    simp only [cS_at, upd]
    rw [hc]
  · rw [if_neg h2, if_neg h2]
    by_cases h1 : 1 < u
    · rw [if_pos h1, if_pos h1]
      simp only [cS_at, upd]
      rw [hc]
    · rw [if_neg h1, if_neg h1]
      simp only [cS_at, upd]
      rw [hc]
theorem tm4 {E : mT} {i : Nat} (h : vix (E 3 i) 4 (tm E i)) : tm E i < 4 := vix_w h (by decide)
theorem tries_r (u a b d w : Int32) : r_tries u a b d w = mr_tries u a b d w := by
  unfold r_tries mr_tries r_tri
  by_cases hu : isW u 1 3 = 0
  · rw [if_pos hu, if_pos hu]
  · rw [if_neg hu, if_neg hu]
    obtain ⟨k, hk1, hk3, rfl⟩ := isW_nI2 (a := 1) (k := 3) (by decide) hu (by decide)
    have e2 : (¬ nI k < 2) = (1 < nI k) := propext ⟨fun q => nI_lt (a := 1) (by rw [l2 (by omega)] at q; omega) (by omega), fun q => by rw [l2 (by omega)]; have := (nI_ltI (a := 1) (by decide) (by omega)).mp q; omega⟩
    have e3 : (¬ nI k < 3) = (2 < nI k) := propext ⟨fun q => nI_lt (a := 2) (by rw [l3 (by omega)] at q; omega) (by omega), fun q => by rw [l3 (by omega)]; have := (nI_ltI (a := 2) (by decide) (by omega)).mp q; omega⟩
    simp only [e2, e3]
    by_cases hw : isW w 0 2 = 0
    · rw [if_pos hw, if_pos hw]
    · rw [if_neg hw, if_neg hw]
      by_cases ha : isW a 0 10 = 0
      · rw [if_pos ha, if_pos rfl]
      · rw [if_neg ha]
        split
        · rw [if_pos rfl]
        · split
          · rw [if_pos rfl]
          · rw [if_neg (by decide)]
theorem tries_eq {E : mT} {n np : Nat} (hE0 : okE E n np) (h1p : 1 ≤ np) (hL : okL E n) (S : Nat → Int32) (T D : mT) (u a b d w : Int32) : a_tries E S n np T u a b d w = ma_tries E n np D u a b d w := by
  unfold a_tries ma_tries
  rw [tries_r]
  split
  · rfl
  · have ok : okS E (me_st E u a b d) (s_try E S u a b d) n np := ⟨hE0.2.1, hE0.2.2.2.1, h1p, hE0.2.2.2.2.1, hL, fun q hq => me_st_q E u a b d hq, fun i hi => s_try_eq E S u a b d (tm4 (hE0.2.2.1 i hi))⟩
    obtain ⟨r1, r2, r3, -⟩ := try_out ok T D
    rw [r1, r2, r3]
/-! the merit -/
def mv (a b w : Nat) : Nat := (a * 13 + 12 - b) * 1201 + 1200 - w
theorem mer_v {a b w : Nat} (ha : a ≤ 12) (hb : b ≤ 12) (hw : w ≤ 1200) : c_mer (nI a) (nI b) (nI w) = nI (mv a b w) := by
  unfold c_mer mv
  rw [show (13 : Int32) = nI 13 from rfl, show (12 : Int32) = nI 12 from rfl, show (1200 : Int32) + 1 = nI 1201 from by decide, show (1200 : Int32) = nI 1200 from rfl, pk_mul, nI_add, pk_sub (by omega), pk_mul, nI_add, pk_sub (by omega)]
theorem mv_lt {a b w a' b' w' : Nat} (hb : b ≤ 12) (hw : w ≤ 1200) (hb' : b' ≤ 12) (hw' : w' ≤ 1200) : mv a b w < mv a' b' w' ↔ a < a' ∨ (a' = a ∧ (b' < b ∨ (b' = b ∧ w' < w))) := by unfold mv; omega
theorem more_v {a b w a' b' w' : Nat} (ha : a ≤ 12) (hb : b ≤ 12) (hw : w ≤ 1200) (ha' : a' ≤ 12) (hb' : b' ≤ 12) (hw' : w' ≤ 1200) : (¬ m_more (nI a') (nI b') (nI w') (nI a) (nI b) (nI w) = 0) ↔ mv a b w < mv a' b' w' := by
  rw [mv_lt hb hw hb' hw']
  unfold m_more
  simp only [nI_ltI (a := a) (b := a') (by omega) (by omega), nI_eq (a := a') (b := a) (by omega) (by omega), nI_ltI (a := b') (b := b) (by omega) (by omega), nI_eq (a := b') (b := b) (by omega) (by omega), nI_ltI (a := w') (b := w) (by omega) (by omega)]
  by_cases h1 : a < a'
  · simp [h1]
  · by_cases h2 : a' = a
    · by_cases h3 : b' < b
      · simp [h1, h2, h3]
      · by_cases h4 : b' = b
        · by_cases h5 : w' < w <;> simp [h2, h4, h5]
        · simp [h1, h2, h3, h4]
    · simp [h1, h2]
