/-! the second step keeps the invariant -/
theorem c_dec_row {E : mT} {St : Nat → Int32} {C : mT} {i w : Nat} (h0 : w ≠ 0) (h4 : w ≠ 4) : c_dec E St i C w = C w := by
  have h1 : c_dec1 E St i C w = C w := by
    unfold c_dec1
    split
    · rw [cS_ne h4, cS_ne h0]
    · split
      · rfl
      · rw [cS_ne h0]
  unfold c_dec c_dec2
  split
  · rw [cS_ne h0, h1]
  · exact h1
theorem p2_Iw {E : mT} {St : Nat → Int32} {C : mT} {np hr i : Nat} (hp : E 8 0 = nI np) (h1p : 1 ≤ np) (h6 : np ≤ 6) (H : Iv np hr C i) : Iw np hr (p2 E St i C) i := by
  obtain ⟨s, c, t, w, h0, hs, h1, hc, h2, ht, h5, hw, hgo, h4, h3, hk⟩ := H
  unfold p2
  rw [h2]
  simp only [i0 (k := t) (by omega)]
  by_cases ht0 : t = 0
  · rw [if_pos ht0]
    obtain ⟨k, hkr, h6k, hk1⟩ := hk ht0
    have r1 : c_dec E St i C 1 i = nI c := by rw [c_dec_row (by decide) (by decide), h1]
    have r2 : c_dec E St i C 2 i = nI t := by rw [c_dec_row (by decide) (by decide), h2]
    have r3 : c_dec E St i C 3 i = C 3 i := by rw [c_dec_row (by decide) (by decide)]
    have r5 : c_dec E St i C 5 i = nI w := by rw [c_dec_row (by decide) (by decide), h5]
    have r6 : c_dec E St i C 6 i = nI k := by rw [c_dec_row (by decide) (by decide), h6k]
    have fin : ∀ s' : Nat, s' ≤ 4 → c_dec E St i C 0 i = nI s' → (s' = 0 → c < np ∧ c_dec E St i C 4 i = -1) → (s' = 2 → 1 ≤ c) → (s' = 4 → s = 4) → (s' = 1 → c = np) → Iw np hr (c_dec E St i C) i := fun s' a1 a2 a3 a4 a5 a6 =>
      ⟨s', c, t, w, a2, a1, r1, hc, r2, ht, r5, hw, fun h => by
        rcases h with h | h | h
        · omega
        · exact Or.inl ⟨h, (a3 h).1⟩
        · exact Or.inr ⟨h, a4 h⟩, fun h => (a3 h).2, fun h => by rw [r3]; exact h3 (a5 h), fun _ => ⟨k, hkr, r6, a6⟩⟩
    have d1 : ∀ X : mT, c_dec1 E St i C = X → X 1 i = nI c → (∀ a : Nat, X 0 i = nI a → a ≤ 4 → c_dec E St i C = if a = 2 ∧ c = 0 then cS X 0 i 3 else X) := fun X hX hX1 a ha ha4 => by
      unfold c_dec c_dec2
      rw [hX, ha, hX1]
      simp only [i2 (k := a) (by omega), i0 (k := c) (by omega)]
    by_cases htop : s = 0 ∧ c = np
    · obtain ⟨rfl, hcn⟩ := htop
      have e1 : c_dec1 E St i C = cS (cS C 0 i 1) 4 i (C 9 0) := by unfold c_dec1; rw [if_pos ⟨by rw [h0]; rfl, by rw [h1, hp, hcn]⟩]
      have e2 := d1 _ e1 (by rw [cS_ne (by decide), cS_ne (by decide), h1]) 1 (by rw [cS_ne (by decide), cS_at, upd_same]; rfl) (by decide)
      rw [if_neg (by omega)] at e2
      exact fin 1 (by decide) (by rw [e2, cS_ne (by decide), cS_at, upd_same]; rfl) (fun h => absurd h (by decide)) (fun h => absurd h (by decide)) (fun h => absurd h (by decide)) (fun _ => hcn)
    · have e0 : ¬ (C 0 i = 0 ∧ C 1 i = E 8 0) := fun q => by
        rw [h0, h1, hp, i0 (by omega), nI_eq (by omega) (by omega)] at q
        exact htop q
      by_cases htb : c_tb E St i C = 0
      · have e1 : c_dec1 E St i C = C := by unfold c_dec1; rw [if_neg e0, if_pos htb]
        have e2 := d1 _ e1 h1 s h0 hs
        by_cases hz : s = 2 ∧ c = 0
        · rw [if_pos hz] at e2
          exact fin 3 (by decide) (by rw [e2, cS_at, upd_same]; rfl) (fun h => absurd h (by decide)) (fun h => absurd h (by decide)) (fun h => absurd h (by decide)) (fun h => absurd h (by decide))
        · rw [if_neg hz] at e2
          exact fin s hs (by rw [e2, h0]) (fun h => ⟨by have : c ≠ np := fun q => htop ⟨h, q⟩; omega, by rw [e2]; exact h4 h⟩) (fun h => by have : c ≠ 0 := fun q => hz ⟨h, q⟩; omega) (fun h => h) (fun h => (hk1 h).1)
      · have e1 : c_dec1 E St i C = cS C 0 i 2 := by unfold c_dec1; rw [if_neg e0, if_neg htb]
        have e2 := d1 _ e1 (by rw [cS_ne (by decide), h1]) 2 (by rw [cS_at, upd_same]; rfl) (by decide)
        by_cases hz : c = 0
        · rw [if_pos ⟨rfl, hz⟩] at e2
          exact fin 3 (by decide) (by rw [e2, cS_at, upd_same]; rfl) (fun h => absurd h (by decide)) (fun h => absurd h (by decide)) (fun h => absurd h (by decide)) (fun h => absurd h (by decide))
        · rw [if_neg (fun q => hz q.2)] at e2
          exact fin 2 (by decide) (by rw [e2, cS_at, upd_same]; rfl) (fun h => absurd h (by decide)) (fun _ => by omega) (fun h => absurd h (by decide)) (fun h => absurd h (by decide))
  · rw [if_neg ht0]
    exact ⟨s, c, t, w, h0, hs, h1, hc, h2, ht, h5, hw, fun _ => hgo (by omega), h4, h3, fun h => absurd h ht0⟩
/-! the fourth and fifth step -/
theorem c_less_eq (x : Int32) : c_less x = m_less x := by
  unfold c_less m_less
  by_cases h : x - 1 < 0
  · rw [if_pos h, if_neg (fun q => Int32.lt_irrefl (Int32.lt_trans h q))]
  · rw [if_neg h]
    by_cases h2 : 0 < x - 1
    · rw [if_pos h2]
    · rw [if_neg h2]
      exact Int32.le_antisymm (Int32.not_lt.mp h2) (Int32.not_lt.mp h)
theorem m_less_0 : m_less 0 = 0 := by decide
theorem c_br_col {E : mT} {C : mT} {i j w : Nat} (h : j ≠ i) : c_br E i C w j = C w j := by
  unfold c_br
  split
  · rfl
  · split
    · rfl
    · split
      · rw [cS_col h, cS_col h]
      · rw [cS_col h]
theorem c_br_9 (E : mT) (i : Nat) (C : mT) : c_br E i C 9 0 = C 9 0 := by unfold c_br; split; rfl; split; rfl; split <;> simp [cS_ne]
theorem c_br_eqv {E E' : mT} {C D : mT} {np hr i : Nat} (hE : ∀ q, q ≠ 6 → E' q = E q) {n : Nat} (hi : i < n) (he : eqv n C D) (H : Iw np hr C i) : eqv n (c_br E i C) (m_br E' i D) := by
  obtain ⟨s, c, t, w, h0, hs, h1, hc, h2, ht, h5, hw, hgo, h4, h3, hk⟩ := H
  have e3 : m_less (D 3 i) = c_less (C 3 i) := by rw [← he.1 3 i (by decide) hi, c_less_eq]
  have ew : m_wh i D = c_wh i C := by
    unfold m_wh c_wh m_po c_pu
    rw [← he.1 2 i (by decide) hi, ← he.1 1 i (by decide) hi, ← he.1 0 i (by decide) hi, h2, h0]
    simp only [i0 (k := t) (by omega), i0 (k := s) (by omega), i2 (k := s) (by omega)]
    by_cases ht0 : t = 0
    · rw [if_pos ht0, if_pos ht0]
    · rw [if_neg ht0, if_neg ht0]
      rcases hgo (Or.inl (by omega)) with ⟨rfl, -⟩ | ⟨rfl, -⟩ <;> simp
  unfold c_br m_br
  rw [e3, ew, hE 8 (by decide), ← he.1 0 i (by decide) hi, ← he.1 2 i (by decide) hi, ← he.2, ← he.1 6 i (by decide) hi, h0]
  simp only [i3 (k := s) (by omega), i4 (k := s) (by omega), l3 (k := s) (by omega)]
  by_cases h34 : s = 3
  · rw [if_pos (Or.inl h34), if_pos h34]; exact he
  · rw [if_neg h34]
    by_cases h44 : s = 4
    · rw [if_pos (Or.inr h44)]
      split
      · exact he
      · rw [if_neg (fun q => absurd q.2.2.1 (by omega))]
        have e4 : c_less (C 3 i) = D 3 i := by rw [c_less_eq, ← he.1 3 i (by decide) hi, h3 h44]; exact m_less_0
        rw [e4, cS_id]
        exact he
    · rw [if_neg (fun q => q.elim h34 h44)]
      have hs3 : s < 3 := by omega
      split
      · exact he
      · by_cases hq : C 2 i = 0 ∧ c_less (C 3 i) = 0 ∧ ¬ C 9 0 - C 6 i < 6
        · rw [if_pos hq, if_pos ⟨hq.1, hq.2.1, hs3, hq.2.2⟩]
          exact eqv_cS (eqv_cS he _ _ _) _ _ _
        · rw [if_neg hq, if_neg (fun q => hq ⟨q.1, q.2.1, q.2.2.2⟩)]
          exact eqv_cS he _ _ _
theorem c_br_Iw {E : mT} {C : mT} {np hr i : Nat} (H : Iw np hr C i) : Iw np hr (c_br E i C) i := by
  have H0 := H
  obtain ⟨s, c, t, w, h0, hs, h1, hc, h2, ht, h5, hw, hgo, h4, h3, hk⟩ := H
  unfold c_br
  rw [h0]
  simp only [i3 (k := s) (by omega), i4 (k := s) (by omega)]
  split
  · exact H0
  · rename_i hn
    have h34 : s ≠ 3 ∧ s ≠ 4 := ⟨fun q => hn (Or.inl q), fun q => hn (Or.inr q)⟩
    split
    · exact H0
    · by_cases hq : C 2 i = 0 ∧ c_less (C 3 i) = 0 ∧ ¬ C 9 0 - C 6 i < 6
      · rw [if_pos hq]
        have ht0 : t = 0 := by have := hq.1; rw [h2, i0 (by omega)] at this; exact this
        obtain ⟨k, hkr, h6k, hk1⟩ := hk ht0
        refine ⟨4, c, t, w, ?_, by decide, ?_, hc, ?_, ht, ?_, hw, fun h => absurd h (by omega), fun h => absurd h (by decide), fun _ => ?_, fun _ => ⟨k, hkr, ?_, fun h => absurd h (by decide)⟩⟩
        · rw [cS_at, upd_same]; rfl
        · simp [cS_ne, h1]
        · simp [cS_ne, h2]
        · simp [cS_ne, h5]
        · rw [cS_ne (by decide), cS_at, upd_same]; exact hq.2.1
        · simp [cS_ne, h6k]
      · rw [if_neg hq]
        refine ⟨s, c, t, w, ?_, hs, ?_, hc, ?_, ht, ?_, hw, hgo, fun h => ?_, fun h => absurd h h34.2, fun h => ?_⟩
        · simp [cS_ne, h0]
        · simp [cS_ne, h1]
        · simp [cS_ne, h2]
        · simp [cS_ne, h5]
        · simp [cS_ne, h4 h]
        · obtain ⟨k, hkr, h6k, hk1⟩ := hk h
          exact ⟨k, hkr, by simp [cS_ne, h6k], hk1⟩
theorem p5_col {C : mT} {i j w : Nat} (h : j ≠ i) : p5 i C w j = C w j := by unfold p5; split; rw [cS_col h]; rfl
theorem p5_eqv {n : Nat} {C D : mT} {i : Nat} (hi : i < n) (he : eqv n C D) : eqv n (p5 i C) (p5 i D) := by
  unfold p5
  rw [← he.1 2 i (by decide) hi, ← he.1 1 i (by decide) hi, ← he.1 0 i (by decide) hi, ← he.1 5 i (by decide) hi]
  split
  · exact eqv_cS he _ _ _
  · exact he
/-- behind the waits, the hour one more: the invariant between hours again -/
theorem p5_Iv {C : mT} {np hr i : Nat} (H : Iw np hr C i) : Iv np (hr + 1) (p5 i C) i := by
  obtain ⟨s, c, t, w, h0, hs, h1, hc, h2, ht, h5, hw, hgo, h4, h3, hk⟩ := H
  unfold p5
  have hk2 : t = 0 → ∃ k, k ≤ hr + 1 ∧ C 6 i = nI k ∧ (s = 1 → c = np ∧ k < hr + 1) := fun h => by
    obtain ⟨k, a, b, d⟩ := hk h
    exact ⟨k, by omega, b, fun q => ⟨d q, by omega⟩⟩
  split
  · refine ⟨s, c, t, w + 1, ?_, hs, ?_, hc, ?_, ht, ?_, by omega, fun h => hgo (Or.inl h), fun h => ?_, fun h => ?_, fun h => ?_⟩
    · simp [cS_ne, h0]
    · simp [cS_ne, h1]
    · simp [cS_ne, h2]
    · rw [cS_at, upd_same, h5]; exact nI_1 w
    · simp [cS_ne, h4 h]
    · simp [cS_ne, h3 h]
    · obtain ⟨k, a, b, d⟩ := hk2 h
      exact ⟨k, a, by simp [cS_ne, b], d⟩
  · exact ⟨s, c, t, w, h0, hs, h1, hc, h2, ht, h5, by omega, fun h => hgo (Or.inl h), h4, h3, hk2⟩
