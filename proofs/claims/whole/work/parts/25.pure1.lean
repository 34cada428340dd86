/-! class and reference as functions: the same but for the rows 7 and 8 (wanted, place) -/
def eqv (n : Nat) (C D : mT) : Prop := (∀ w i, w ≤ 6 → i < n → C w i = D w i) ∧ C 9 0 = D 9 0
theorem eqv_refl (n : Nat) (C : mT) : eqv n C C := ⟨fun _ _ _ _ => rfl, rfl⟩
theorem eqv_cS {n : Nat} {C D : mT} (h : eqv n C D) (k j : Nat) (x : Int32) : eqv n (cS C k j x) (cS D k j x) := by
  refine ⟨fun w i hw hi => ?_, ?_⟩
  · by_cases hk : w = k
    · subst hk; rw [cS_at, cS_at]; unfold upd; split; rfl; exact h.1 w i hw hi
    · rw [cS_ne hk, cS_ne hk]; exact h.1 w i hw hi
  · by_cases hk : 9 = k
    · subst hk; rw [cS_at, cS_at]; unfold upd; split; rfl; exact h.2
    · rw [cS_ne hk, cS_ne hk]; exact h.2
theorem eqv_78 {n : Nat} {C D : mT} (h : eqv n C D) {k j : Nat} {x : Int32} (hk : k = 7 ∨ k = 8) : eqv n (cS C k j x) D := ⟨fun w i hw hi => by rw [cS_ne (by omega)]; exact h.1 w i hw hi, by rw [cS_ne (by omega)]; exact h.2⟩
theorem cS_id (C : mT) (k j : Nat) : cS C k j (C k j) = C := by
  funext w
  by_cases hw : w = k
  · subst hw; rw [cS_at]; funext b; by_cases hb : b = j <;> simp [upd, hb]
  · rw [cS_ne hw]
theorem cS_comm (C : mT) {k l : Nat} (h : k ≠ l) (i j : Nat) (x y : Int32) : cS (cS C k i x) l j y = cS (cS C l j y) k i x := by
  funext w
  by_cases hk : w = k
  · subst hk; rw [cS_ne h, cS_at, cS_at, cS_ne h]
  · by_cases hl : w = l
    · subst hl; rw [cS_at, cS_ne hk, cS_ne hk, cS_at]
    · rw [cS_ne hl, cS_ne hk, cS_ne hk, cS_ne hl]
theorem vlp_rel {α β : Type} (R : Nat → α → β → Prop) {f : Nat → α → α} {g : Nat → β → β} {n : Nat} (h : ∀ i a b, i < n → R i a b → R (i + 1) (f i a) (g i b)) : ∀ (k i : Nat) (a : α) (b : β), i ≤ n → n - i = k → R i a b → R n (vlp f n i a) (vlp g n i b) := by
  intro k
  induction k with
  | zero =>
    intro i a b hi hk hr
    obtain rfl : i = n := by omega
    rw [vlp_done (Nat.le_refl _), vlp_done (Nat.le_refl _)]
    exact hr
  | succ k ih =>
    intro i a b hi hk hr
    rw [vlp_step (f := f) (by omega), vlp_step (f := g) (by omega)]
    exact ih (i + 1) _ _ (by omega) (by omega) (h i a b (by omega) hr)
theorem i0 {k : Nat} (h : k < 1000) : (nI k = 0) = (k = 0) := propext (nI_eq (b := 0) (by omega) (by decide))
theorem i1 {k : Nat} (h : k < 1000) : (nI k = 1) = (k = 1) := propext (nI_eq (b := 1) (by omega) (by decide))
theorem i2 {k : Nat} (h : k < 1000) : (nI k = 2) = (k = 2) := propext (nI_eq (b := 2) (by omega) (by decide))
theorem i3 {k : Nat} (h : k < 1000) : (nI k = 3) = (k = 3) := propext (nI_eq (b := 3) (by omega) (by decide))
theorem i4 {k : Nat} (h : k < 1000) : (nI k = 4) = (k = 4) := propext (nI_eq (b := 4) (by omega) (by decide))
theorem l0 {k : Nat} (h : k < 1000) : ((0 : Int32) < nI k) = (0 < k) := propext (nI_ltI (a := 0) (by decide) (by omega))
theorem l2 {k : Nat} (h : k < 1000) : (nI k < 2) = (k < 2) := propext (nI_ltI (b := 2) (by omega) (by decide))
theorem l3 {k : Nat} (h : k < 1000) : (nI k < 3) = (k < 3) := propext (nI_ltI (b := 3) (by omega) (by decide))
theorem nI_inj {a b : Nat} (ha : a < 2 ^ 31) (hb : b < 2 ^ 31) (h : nI a = nI b) : a = b := (nI_eq ha hb).mp h
theorem nI_k {a k : Nat} (ha : a < 2 ^ 31) (hk : k < 2 ^ 31) : nI a = nI k ↔ a = k := nI_eq ha hk
/-- what holds of a climber between two hours: state, camp, hours to go, waits, since -/
def Iv (np hr : Nat) (C : mT) (j : Nat) : Prop := ∃ s c t w : Nat, C 0 j = nI s ∧ s ≤ 4 ∧ C 1 j = nI c ∧ c ≤ np ∧ C 2 j = nI t ∧ t ≤ 24 ∧ C 5 j = nI w ∧ w ≤ hr ∧ (0 < t → (s = 0 ∧ c < np) ∨ (s = 2 ∧ 1 ≤ c)) ∧ (s = 0 → C 4 j = -1) ∧ (s = 4 → C 3 j = 0) ∧ (t = 0 → ∃ k, k ≤ hr ∧ C 6 j = nI k ∧ (s = 1 → c = np ∧ k < hr))
/-- and behind the deciding of an hour -/
def Iw (np hr : Nat) (C : mT) (j : Nat) : Prop := ∃ s c t w : Nat, C 0 j = nI s ∧ s ≤ 4 ∧ C 1 j = nI c ∧ c ≤ np ∧ C 2 j = nI t ∧ t ≤ 24 ∧ C 5 j = nI w ∧ w ≤ hr ∧ (0 < t ∨ s = 0 ∨ s = 2 → (s = 0 ∧ c < np) ∨ (s = 2 ∧ 1 ≤ c)) ∧ (s = 0 → C 4 j = -1) ∧ (s = 4 → C 3 j = 0) ∧ (t = 0 → ∃ k, k ≤ hr ∧ C 6 j = nI k ∧ (s = 1 → c = np))
theorem Iv_col {np hr : Nat} {C D : mT} {j : Nat} (h : ∀ w, w ≠ 7 → w ≠ 8 → w ≠ 9 → C w j = D w j) (H : Iv np hr C j) : Iv np hr D j := by
  unfold Iv at *
  rw [← h 0 (by decide) (by decide) (by decide), ← h 1 (by decide) (by decide) (by decide), ← h 2 (by decide) (by decide) (by decide), ← h 3 (by decide) (by decide) (by decide), ← h 4 (by decide) (by decide) (by decide), ← h 5 (by decide) (by decide) (by decide), ← h 6 (by decide) (by decide) (by decide)]
  exact H
theorem Iw_col {np hr : Nat} {C D : mT} {j : Nat} (h : ∀ w, w ≠ 7 → w ≠ 8 → w ≠ 9 → C w j = D w j) (H : Iw np hr C j) : Iw np hr D j := by
  unfold Iw at *
  rw [← h 0 (by decide) (by decide) (by decide), ← h 1 (by decide) (by decide) (by decide), ← h 2 (by decide) (by decide) (by decide), ← h 3 (by decide) (by decide) (by decide), ← h 4 (by decide) (by decide) (by decide), ← h 5 (by decide) (by decide) (by decide), ← h 6 (by decide) (by decide) (by decide)]
  exact H
theorem cS_col {C : mT} {k i j w : Nat} {x : Int32} (h : j ≠ i) : cS C k i x w j = C w j := by
  by_cases hw : w = k
  · subst hw; rw [cS_at]; simp [upd, h]
  · rw [cS_ne hw]
theorem upd_same (f : Nat → Int32) (i : Nat) (x : Int32) : upd f i x i = x := by simp [upd]
/-! the first step of an hour -/
theorem p1_col {C : mT} {i j w : Nat} (h : j ≠ i) : p1 i C w j = C w j := by
  unfold p1 c_goOn
  split
  · split
    · rw [cS_col h, cS_col h, cS_col h]
    · rw [cS_col h]
  · rfl
theorem p1_eqv {n : Nat} {C D : mT} {np hr i : Nat} (hi : i < n) (he : eqv n C D) (H : Iv np hr C i) : eqv n (p1 i C) (m_mv i D) := by
  obtain ⟨s, c, t, w, h0, hs, h1, hc, h2, ht, h5, hw, hgo, h4, h3, hk⟩ := H
  unfold p1 m_mv c_goOn
  rw [← he.1 2 i (by decide) hi, ← he.1 0 i (by decide) hi, ← he.1 1 i (by decide) hi, ← he.2, h2, h0, h1]
  cases t with
  | zero => simp only [l0 (k := 0) (by decide), i0 (k := 0) (by decide), Nat.lt_irrefl, if_false, if_true]; exact he
  | succ k =>
    simp only [l0 (k := k + 1) (by omega), i0 (k := k + 1) (by omega), nI_pred, l0 (k := k) (by omega), i0 (k := k) (by omega), i0 (k := s) (by omega), i2 (k := s) (by omega)]
    rw [if_pos (show 0 < k + 1 by omega), if_neg (show ¬ k + 1 = 0 by omega)]
    by_cases hk0 : k = 0
    · rw [if_pos hk0, if_neg (show ¬ 0 < k by omega)]
      rcases hgo (by omega) with ⟨rfl, hcn⟩ | ⟨rfl, hcn⟩
      · rw [if_pos rfl, if_neg (by decide)]
        exact eqv_cS (eqv_cS (eqv_cS he _ _ _) _ _ _) _ _ _
      · rw [if_neg (by decide), if_pos rfl, Int32.sub_eq_add_neg]
        exact eqv_cS (eqv_cS (eqv_cS he _ _ _) _ _ _) _ _ _
    · rw [if_neg hk0, if_pos (show 0 < k by omega)]
      exact eqv_cS he _ _ _
theorem p1_9 (i : Nat) (C : mT) : p1 i C 9 0 = C 9 0 := by unfold p1 c_goOn; split; split <;> simp [cS_ne]; rfl
theorem p1_Iv {C : mT} {np hr i : Nat} (h9 : C 9 0 = nI hr) (H : Iv np hr C i) : Iv np hr (p1 i C) i := by
  obtain ⟨s, c, t, w, h0, hs, h1, hc, h2, ht, h5, hw, hgo, h4, h3, hk⟩ := H
  unfold p1 c_goOn
  cases t with
  | zero =>
    rw [h2, if_neg (by rw [l0 (by decide)]; decide)]
    exact ⟨s, c, 0, w, h0, hs, h1, hc, h2, ht, h5, hw, hgo, h4, h3, hk⟩
  | succ k =>
    rw [h2, if_pos (by rw [l0 (by omega)]; omega), nI_pred]
    by_cases hk0 : k = 0
    · subst hk0
      rw [if_pos nI_0]
      rcases hgo (by omega) with ⟨rfl, hcn⟩ | ⟨rfl, hcn⟩
      · rw [h0, if_pos nI_0, h1]
        refine ⟨0, c + 1, 0, w, ?_, by omega, ?_, by omega, ?_, by omega, ?_, hw, fun h => absurd h (by omega), fun _ => ?_, fun h => absurd h (by omega), fun _ => ⟨hr, by omega, ?_, fun h => absurd h (by omega)⟩⟩
        · simp [cS_ne, h0]
        · rw [cS_ne (by decide), cS_at, upd_same]; exact nI_1 c
        · rw [cS_ne (by decide), cS_ne (by decide), cS_at, upd_same]
        · simp [cS_ne, h5]
        · simp [cS_ne, h4 rfl]
        · rw [cS_at, upd_same, h9]
      · rw [h0, if_neg (show ¬ nI 2 = 0 by decide), h1]
        obtain ⟨d, rfl⟩ : ∃ d, c = d + 1 := ⟨c - 1, by omega⟩
        refine ⟨2, d, 0, w, ?_, by omega, ?_, by omega, ?_, by omega, ?_, hw, fun h => absurd h (by omega), fun h => absurd h (by omega), fun h => absurd h (by omega), fun _ => ⟨hr, by omega, ?_, fun h => absurd h (by omega)⟩⟩
        · simp [cS_ne, h0]
        · rw [cS_ne (by decide), cS_at, upd_same]; exact pk_m1 d
        · rw [cS_ne (by decide), cS_ne (by decide), cS_at, upd_same]
        · simp [cS_ne, h5]
        · rw [cS_at, upd_same, h9]
    · rw [if_neg (by rw [i0 (by omega)]; exact hk0)]
      refine ⟨s, c, k, w, ?_, hs, ?_, hc, ?_, by omega, ?_, hw, fun h => hgo (by omega), fun h => ?_, fun h => ?_, fun h => absurd h hk0⟩
      · simp [cS_ne, h0]
      · simp [cS_ne, h1]
      · rw [cS_at, upd_same]
      · simp [cS_ne, h5]
      · simp [cS_ne, h4 h]
      · simp [cS_ne, h3 h]
/-! the second step -/
theorem c_dec_col {E : mT} {St : Nat → Int32} {C : mT} {i j w : Nat} (h : j ≠ i) : c_dec E St i C w j = C w j := by
  have h1 : c_dec1 E St i C w j = C w j := by
    unfold c_dec1
    split
    · rw [cS_col h, cS_col h]
    · split
      · rfl
      · rw [cS_col h]
  unfold c_dec c_dec2
  split
  · rw [cS_col h, h1]
  · exact h1
theorem p2_col {E : mT} {St : Nat → Int32} {C : mT} {i j w : Nat} (h : j ≠ i) : p2 E St i C w j = C w j := by
  unfold p2; split; exact c_dec_col h; rfl
theorem c_dec_9 (E : mT) (St : Nat → Int32) (i : Nat) (C : mT) : c_dec E St i C 9 0 = C 9 0 := by
  have h1 : c_dec1 E St i C 9 0 = C 9 0 := by
    unfold c_dec1
    split
    · simp [cS_ne]
    · split
      · rfl
      · simp [cS_ne]
  unfold c_dec c_dec2
  split
  · rw [cS_ne (by decide), h1]
  · exact h1
theorem p2_9 (E : mT) (St : Nat → Int32) (i : Nat) (C : mT) : p2 E St i C 9 0 = C 9 0 := by unfold p2; split; exact c_dec_9 E St i C; rfl
theorem p2_eqv {E E' : mT} {St : Nat → Int32} {C D : mT} {np hr i : Nat} (hE : ∀ q, q ≠ 6 → E' q = E q) (hSt : St (tm E i) = E' 6 (tm E i)) (hp : E 8 0 = nI np) (h1p : 1 ≤ np) (h6 : np ≤ 6) (h9 : C 9 0 = nI hr) (h200 : hr ≤ 200) {n : Nat} (hi : i < n) (he : eqv n C D) (H : Iv np hr C i) : eqv n (p2 E St i C) (m_p2 E' i D) := by
  obtain ⟨s, c, t, w, h0, hs, h1, hc, h2, ht, h5, hw, hgo, h4, h3, hk⟩ := H
  have etm : tm E' i = tm E i := by unfold tm; rw [hE 3 (by decide)]
  unfold p2 m_p2
  rw [← he.1 2 i (by decide) hi, ← he.1 0 i (by decide) hi, h2, h0]
  simp only [i0 (k := t) (by omega), l3 (k := s) (by omega)]
  by_cases ht0 : t = 0
  · rw [if_pos ht0, if_pos ht0]
    obtain ⟨k, hkr, h6k, hk1⟩ := hk ht0
    by_cases hs3 : s < 3
    · rw [if_pos hs3]
      have key : ∀ X Y : mT, eqv n X Y → eqv n (c_dec2 i X) (m_d2 i Y) := fun X Y hXY => by
        unfold c_dec2 m_d2
        rw [← hXY.1 0 i (by decide) hi, ← hXY.1 1 i (by decide) hi]
        split
        · exact eqv_cS hXY _ _ _
        · exact hXY
      by_cases htop : s = 0 ∧ c = np
      · obtain ⟨rfl, rfl⟩ := htop
        have e1 : c_dec1 E St i C = cS (cS C 0 i 1) 4 i (C 9 0) := by unfold c_dec1; rw [if_pos ⟨by rw [h0]; rfl, by rw [h1, hp]⟩]
        have e2 : m_dec E' i D = cS (cS D 0 i 1) 4 i (D 9 0) := by
          unfold m_dec
          rw [if_pos ⟨by rw [← he.1 0 i (by decide) hi, h0]; rfl, by rw [← he.1 1 i (by decide) hi, hE 8 (by decide), h1, hp]⟩, if_pos (by rw [← he.1 4 i (by decide) hi, h4 rfl])]
        rw [c_dec, e1, e2, c_dec2, if_neg (fun q => absurd q.1 (by rw [cS_ne (by decide), cS_at, upd_same]; decide)), he.2]
        exact eqv_cS (eqv_cS he _ _ _) _ _ _
      · have e0 : ¬ (C 0 i = 0 ∧ C 1 i = E 8 0) := fun q => by
          rw [h0, h1, hp, i0 (by omega), nI_eq (by omega) (by omega)] at q
          exact htop q
        have e2 : m_dec E' i D = m_d2 i (m_d1 E' i D) := by
          unfold m_dec
          rw [if_neg (by rw [← he.1 0 i (by decide) hi, ← he.1 1 i (by decide) hi, hE 8 (by decide)]; exact e0)]
        rw [c_dec, e2]
        refine key _ _ ?_
        unfold c_dec1 m_d1
        rw [if_neg e0, ← he.1 0 i (by decide) hi, ← he.1 1 i (by decide) hi, ← he.1 3 i (by decide) hi, hE 8 (by decide), h0, h1, hp]
        have el : m_late E' i D = if nI hr < E 7 (tm E i) then 0 else if nI hr < St (tm E i) then 0 else 1 := by
          unfold m_late
          rw [etm, hE 7 (by decide), ← hSt, ← he.2, h9]
        have et : c_tb E St i C = if s = 1 then (if nI k < nI hr then 1 else 0) else if s = 0 then (if C 3 i = 0 then 1 else if nI hr < E 7 (tm E i) then 0 else if nI hr < St (tm E i) then 0 else 1) else 0 := by
          unfold c_tb
          rw [h0, h6k, h9]
          simp only [i0 (k := s) (by omega), i1 (k := s) (by omega)]
        rw [el, et]
        simp only [l2 (k := s) (by omega), nI_eq (a := c) (b := np) (by omega) (by omega)]
        obtain rfl | rfl | rfl : s = 0 ∨ s = 1 ∨ s = 2 := by omega
        · have hcn : ¬ c = np := fun q => htop ⟨rfl, q⟩
          by_cases hb : C 3 i = 0 <;> by_cases ha : nI hr < E 7 (tm E i) <;> by_cases hd : nI hr < St (tm E i) <;> simp [-Int32.not_lt, hb, ha, hd, hcn] <;> first | exact he | exact eqv_cS he _ _ _
        · obtain ⟨hcn, hlt⟩ := hk1 rfl
          simp [hcn, nI_lt hlt (show hr < 2 ^ 31 by omega)]
          exact eqv_cS he _ _ _
        · simp
          exact he
    · rw [if_neg hs3]
      unfold c_dec c_dec1 c_dec2 c_tb
      rw [h0]
      simp only [i0 (k := s) (by omega), i1 (k := s) (by omega), show ¬ s = 0 by omega, show ¬ s = 1 by omega, false_and, if_false, if_true, h0, i2 (k := s) (by omega), show ¬ s = 2 by omega]
      exact he
  · rw [if_neg ht0, if_neg ht0]
    exact he
