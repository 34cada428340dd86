/-! the third step, whole; an hour of the class is an hour of the reference -/
theorem lb_rel {E E' : mT} {St : Nat → Int32} {n np hr s : Nat} (h12 : n ≤ 12) (h200 : hr ≤ 200) (h6 : np ≤ 6) (hs : s < np) (hL : okL E n) (hE : ∀ q, q ≠ 6 → E' q = E q) (hSt : ∀ i, i < n → St (tm E i) = E' 6 (tm E i)) : ∀ (k : Nat) (C D : mT), Wr E St n np hr C D → Wr E St n np hr (c_lb E n s k C) (m_so E' n s k D) := by
  intro k
  induction k with
  | zero => intro C D R; exact R
  | succ k ih =>
    intro C D R
    rw [c_lb, m_so]
    rcases pick (E' := E') R.1 h12 h200 h6 hs R.2.2.1 R.2.2.2 R.2.1 hE hSt with ⟨a, b, d⟩ | ⟨j, hj, a, d, q0, q7⟩ | ⟨j, hj, a, b, d, q0, q7⟩
    · rw [if_pos d, if_pos a, if_pos b]
      exact R
    · rw [d, a, if_neg (nI_m1 (by omega)), if_neg (nI_m1 (by omega)), nI_clamp (by omega)]
      refine ih _ _ (lb1_step h12 h6 hs hj hL R (Or.inr q0) ?_)
      unfold c_hf
      rw [q0, if_pos (show (if (2 : Int32) = 0 then (1 : Int32) else 0) = 0 by decide), hE 0 (by decide)]
    · rw [d, a, if_neg (nI_m1 (by omega)), if_pos rfl, b, if_neg (nI_m1 (by omega)), nI_clamp (by omega)]
      refine ih _ _ (lb1_step h12 h6 hs hj hL R (Or.inl q0) ?_)
      unfold c_hf
      rw [q0, if_pos rfl, if_neg (by decide), hE 0 (by decide), hE 4 (by decide)]
theorem lbs_rel {E E' : mT} {St : Nat → Int32} {n np hr : Nat} (h12 : n ≤ 12) (h200 : hr ≤ 200) (h6 : np ≤ 6) (hL : okL E n) (hE : ∀ q, q ≠ 6 → E' q = E q) (hSt : ∀ i, i < n → St (tm E i) = E' 6 (tm E i)) (hwin : E 2 hr = 0) : ∀ (s : Nat) (C D : mT), s ≤ np → Wr E St n np hr C D → Wr E St n np hr (c_lbs E n s C) (m_sos E' n s D) := by
  intro s
  induction s with
  | zero => intro C D _ R; exact R
  | succ s ih =>
    intro C D hs R
    rw [c_lbs, m_sos, if_pos (by rw [← R.1.2, R.2.1, nI_clamp (by omega), hE 2 (by decide)]; exact hwin)]
    have ew : wd E' s = wd E s := by unfold wd; rw [hE 1 (by decide)]
    rw [ew]
    exact ih _ _ (by omega) (lb_rel h12 h200 h6 (by omega) hL hE hSt _ _ _ R)
theorem q1_col {E : mT} {St : Nat → Int32} {C : mT} {i j w : Nat} (h : j ≠ i) : q1 E St i C w j = C w j := by unfold q1; rw [cS_col h, cS_col h]
theorem q1_row {E : mT} {St : Nat → Int32} {C : mT} {i w : Nat} (h7 : w ≠ 7) (h8 : w ≠ 8) : q1 E St i C w = C w := by unfold q1; rw [cS_ne h8, cS_ne h7]
theorem q1_rel {E : mT} {St : Nat → Int32} {C D : mT} {n np hr : Nat} (he : eqv n C D) (h9 : C 9 0 = nI hr) (hI : ∀ i, i < n → Iw np hr C i) : Wr E St n np hr (vlp (q1 E St) n 0 C) D := by
  have H := vlp_rel (fun m (a : mT) (_ : Unit) => eqv n a D ∧ a 9 0 = nI hr ∧ (∀ i, i < n → Iw np hr a i) ∧ ∀ i, i < m → a 7 i = c_pw E St i a ∧ (a 2 i = 0 → a 8 i = if a 0 i = 2 then a 6 i else a 6 i + 201)) (f := q1 E St) (g := fun _ u => u) (n := n) ?_ n 0 C () (Nat.zero_le _) rfl ⟨he, h9, hI, fun i h => absurd h (by omega)⟩
  · exact ⟨H.1, H.2.1, H.2.2.1, H.2.2.2⟩
  · intro m a _ hm ⟨a1, a2, a3, a4⟩
    have epw : ∀ i, c_pw E St i (q1 E St m a) = c_pw E St i a := fun i => by
      unfold c_pw
      rw [q1_row (by decide) (by decide), q1_row (by decide) (by decide), q1_row (by decide) (by decide), q1_row (by decide) (by decide)]
    refine ⟨⟨fun w i hw hi => by rw [q1_row (by omega) (by omega)]; exact a1.1 w i hw hi, by rw [q1_row (by decide) (by decide)]; exact a1.2⟩, by rw [q1_row (by decide) (by decide)]; exact a2, fun i hi => Iw_col (fun w h7 h8 _ => by rw [q1_row h7 h8]) (a3 i hi), fun i hi => ?_⟩
    rw [epw i, q1_row (w := 2) (by decide) (by decide), q1_row (w := 0) (by decide) (by decide), q1_row (w := 6) (by decide) (by decide)]
    by_cases him : i = m
    · subst him
      unfold q1
      refine ⟨?_, fun _ => ?_⟩
      · rw [cS_ne (by decide), cS_at, upd_same]
      · rw [cS_at, upd_same]
    · rw [q1_col him, q1_col him]
      exact a4 i (by omega)
/-- the hypotheses that an hour of the class and of the reference stands on -/
def okS (E E' : mT) (St : Nat → Int32) (n np : Nat) : Prop := n ≤ 12 ∧ E 8 0 = nI np ∧ 1 ≤ np ∧ np ≤ 6 ∧ okL E n ∧ (∀ q, q ≠ 6 → E' q = E q) ∧ ∀ i, i < n → St (tm E i) = E' 6 (tm E i)
def Sr (n np hr : Nat) (C D : mT) : Prop := eqv n C D ∧ C 9 0 = nI hr ∧ ∀ i, i < n → Iv np hr C i
theorem step_rel {E E' : mT} {St : Nat → Int32} {C D : mT} {n np hr : Nat} (ok : okS E E' St n np) (h199 : hr < 200) (R : Sr n np hr C D) : Sr n np (hr + 1) (c_ph E St n np C) (m_step E' n np D) := by
  obtain ⟨h12, hp, h1p, h6, hL, hE, hSt⟩ := ok
  obtain ⟨he, h9, hI⟩ := R
  -- 1
  have A1 := vlp_rel (fun m (a b : mT) => eqv n a b ∧ a 9 0 = nI hr ∧ ∀ i, i < n → Iv np hr a i) (f := p1) (g := m_mv) (n := n) (fun i a b hi ⟨x1, x2, x3⟩ => ⟨p1_eqv hi x1 (x3 i hi), by rw [p1_9]; exact x2, fun j hj => by
    by_cases hji : j = i
    · subst hji; exact p1_Iv x2 (x3 j hj)
    · exact Iv_col (fun w _ _ _ => (p1_col hji).symm) (x3 j hj)⟩) n 0 C D (Nat.zero_le _) rfl ⟨he, h9, hI⟩
  obtain ⟨C1, e1⟩ : ∃ z, z = vlp p1 n 0 C := ⟨_, rfl⟩
  rw [← e1] at A1
  -- 2
  have A2 := vlp_rel (fun m (a b : mT) => eqv n a b ∧ a 9 0 = nI hr ∧ ∀ i, i < n → (i < m → Iw np hr a i) ∧ (m ≤ i → Iv np hr a i)) (f := p2 E St) (g := m_p2 E') (n := n) (fun i a b hi ⟨x1, x2, x3⟩ => ⟨p2_eqv hE (hSt i hi) hp h1p h6 x2 (by omega) hi x1 ((x3 i hi).2 (Nat.le_refl _)), by rw [p2_9]; exact x2, fun j hj => by
    by_cases hji : j = i
    · subst hji; exact ⟨fun _ => p2_Iw hp h1p h6 ((x3 j hj).2 (Nat.le_refl _)), fun h => absurd h (by omega)⟩
    · exact ⟨fun h => Iw_col (fun w _ _ _ => (p2_col hji).symm) ((x3 j hj).1 (by omega)), fun h => Iv_col (fun w _ _ _ => (p2_col hji).symm) ((x3 j hj).2 (by omega))⟩⟩) n 0 C1 (vlp m_mv n 0 D) (Nat.zero_le _) rfl ⟨A1.1, A1.2.1, fun i hi => ⟨fun h => absurd h (by omega), fun _ => A1.2.2 i hi⟩⟩
  have B2 : ∀ i, i < n → Iw np hr (vlp (p2 E St) n 0 C1) i := fun i hi => (A2.2.2 i hi).1 hi
  obtain ⟨C2, e2⟩ : ∃ z, z = vlp (p2 E St) n 0 C1 := ⟨_, rfl⟩
  rw [← e2] at A2 B2
  -- 3
  have hw : c_windy E (C2 9 0) = 0 ↔ E 2 hr = 0 := by
    rw [A2.2.1]
    unfold c_windy
    rw [if_neg (by unfold isW; rw [if_neg (nI_pos (by omega)), if_neg (show ¬ (199 : Int32) < nI hr from nI_nlt (a := 199) (by omega) (by decide))]; decide), nI_clamp (by omega)]
    split
    · exact ⟨fun _ => by assumption, fun _ => rfl⟩
    · exact ⟨fun q => absurd q (by decide), fun q => absurd q (by assumption)⟩
  have A3 : eqv n (p3 E St n np C2) (m_sos E' n np (vlp (m_p2 E') n 0 (vlp m_mv n 0 D))) ∧ p3 E St n np C2 9 0 = nI hr ∧ ∀ i, i < n → Iw np hr (p3 E St n np C2) i := by
    unfold p3
    by_cases hwin : E 2 hr = 0
    · rw [if_pos (hw.mpr hwin), c_bp]
      have := lbs_rel h12 (by omega) h6 hL hE hSt hwin np _ _ (Nat.le_refl _) (q1_rel (E := E) (St := St) A2.1 A2.2.1 B2)
      exact ⟨this.1, this.2.1, this.2.2.1⟩
    · rw [if_neg (fun q => hwin (hw.mp q))]
      refine ⟨?_, A2.2.1, B2⟩
      obtain ⟨k, hk⟩ : ∃ k, np = k + 1 := ⟨np - 1, by omega⟩
      rw [hk, m_sos, if_neg (by rw [← A2.1.2, A2.2.1, nI_clamp (by omega), hE 2 (by decide)]; exact hwin)]
      exact A2.1
  obtain ⟨C3, e3⟩ : ∃ z, z = p3 E St n np C2 := ⟨_, rfl⟩
  rw [← e3] at A3
  -- 4
  have A4 := vlp_rel (fun m (a b : mT) => eqv n a b ∧ a 9 0 = nI hr ∧ ∀ i, i < n → Iw np hr a i) (f := c_br E) (g := m_br E') (n := n) (fun i a b hi ⟨x1, x2, x3⟩ => ⟨c_br_eqv hE hi x1 (x3 i hi), by rw [c_br_9]; exact x2, fun j hj => by
    by_cases hji : j = i
    · subst hji; exact c_br_Iw (x3 j hj)
    · exact Iw_col (fun w _ _ _ => (c_br_col hji).symm) (x3 j hj)⟩) n 0 C3 _ (Nat.zero_le _) rfl A3
  obtain ⟨C4, e4⟩ : ∃ z, z = vlp (c_br E) n 0 C3 := ⟨_, rfl⟩
  rw [← e4] at A4
  -- 5
  have A5 := vlp_rel (fun m (a b : mT) => eqv n a b ∧ a 9 0 = nI hr ∧ ∀ i, i < n → (i < m → Iv np (hr + 1) a i) ∧ (m ≤ i → Iw np hr a i)) (f := p5) (g := p5) (n := n) (fun i a b hi ⟨x1, x2, x3⟩ => ⟨p5_eqv hi x1, by rw [p5_9]; exact x2, fun j hj => by
    by_cases hji : j = i
    · subst hji; exact ⟨fun _ => p5_Iv ((x3 j hj).2 (Nat.le_refl _)), fun h => absurd h (by omega)⟩
    · exact ⟨fun h => Iv_col (fun w _ _ _ => (p5_col hji).symm) ((x3 j hj).1 (by omega)), fun h => Iw_col (fun w _ _ _ => (p5_col hji).symm) ((x3 j hj).2 (by omega))⟩⟩) n 0 C4 _ (Nat.zero_le _) rfl ⟨A4.1, A4.2.1, fun i hi => ⟨fun h => absurd h (by omega), fun _ => A4.2.2 i hi⟩⟩
  obtain ⟨C5, e5⟩ : ∃ z, z = vlp p5 n 0 C4 := ⟨_, rfl⟩
  rw [← e5] at A5
  unfold m_step c_ph
  rw [← e1, ← e2, ← e3, ← e4, ← e5]
  unfold p6
  refine ⟨?_, ?_, fun i hi => ?_⟩
  · rw [A5.1.2]
    exact eqv_cS A5.1 _ _ _
  · rw [cS_at, upd_same, A5.2.1, nI_1]
  · exact Iv_col (fun w _ _ h => by rw [cS_ne h]) ((A5.2.2 i hi).1 hi)
