/-! runs, begin, what is asked -/
theorem Sr_E {n np hr : Nat} {C D : mT} (R : Sr n np hr C D) : eqv n C D := R.1
theorem paf_lay (E : mT) (i : Nat) (C : mT) : c_paf E i C = m_lay E (C 9 0) i C := by
  unfold c_paf m_lay
  rw [cS_comm (cS (cS (cS (cS C 0 i 0) 1 i 0) 2 i 0) 3 i (E 5 i)) (k := 6) (l := 4) (by decide), cS_comm _ (k := 6) (l := 5) (by decide)]
theorem lay_Iv (E : mT) (x : Int32) (np hr i k : Nat) (hk : x = nI k) (hkr : k ≤ hr) (C : mT) : Iv np hr (m_lay E x i C) i := by
  refine ⟨0, 0, 0, 0, ?_, by decide, ?_, Nat.zero_le _, ?_, by decide, ?_, Nat.zero_le _, fun h => absurd h (by decide), fun _ => ?_, fun h => absurd h (by decide), fun _ => ⟨k, hkr, ?_, fun h => absurd h (by decide)⟩⟩
  · simp [m_lay, cS_same, cS_ne]; rfl
  · simp [m_lay, cS_same, cS_ne]; rfl
  · simp [m_lay, cS_same, cS_ne]; rfl
  · simp [m_lay, cS_same, cS_ne]; rfl
  · simp [m_lay, cS_same, cS_ne]
  · simp [m_lay, cS_same, hk]
theorem lay_col {E : mT} {x : Int32} {i j w : Nat} {C : mT} (h : j ≠ i) : m_lay E x i C w j = C w j := by
  unfold m_lay
  rw [cS_col h, cS_col h, cS_col h, cS_col h, cS_col h, cS_col h, cS_col h]
theorem lay_at {E E' : mT} (h5 : E' 5 = E 5) (x : Int32) (i w : Nat) (hw : w ≤ 6) (C D : mT) : m_lay E x i C w i = m_lay E' x i D w i := by
  obtain rfl | rfl | rfl | rfl | rfl | rfl | rfl : w = 0 ∨ w = 1 ∨ w = 2 ∨ w = 3 ∨ w = 4 ∨ w = 5 ∨ w = 6 := by omega
  all_goals simp [m_lay, cS_same, cS_ne, h5]
theorem reset_rel {E E' : mT} (h5 : E' 5 = E 5) (n np : Nat) (T D : mT) : Sr n np 0 (c_reset E n T) (m_beg E' n D) := by
  have H := vlp_rel (fun m (a b : mT) => (∀ w i, w ≤ 6 → i < m → a w i = b w i) ∧ a 9 0 = b 9 0 ∧ a 9 0 = nI 0 ∧ ∀ i, i < m → Iv np 0 a i) (f := c_paf E) (g := m_lay E' 0) (n := n) ?_ n 0 (cS T 9 0 0) (cS D 9 0 0) (Nat.zero_le _) rfl ⟨fun w i _ h => absurd h (by omega), by rw [cS_same, cS_same], by rw [cS_same]; rfl, fun i h => absurd h (by omega)⟩
  · exact ⟨⟨H.1, H.2.1⟩, H.2.2.1, H.2.2.2⟩
  · intro i a b hi ⟨x1, x2, x3, x4⟩
    have e : c_paf E i a = m_lay E 0 i a := by rw [paf_lay, x3]; rfl
    rw [e]
    refine ⟨fun w j hw hj => ?_, by rw [m_lay_9, m_lay_9]; exact x2, by rw [m_lay_9]; exact x3, fun j hj => ?_⟩
    · by_cases hji : j = i
      · subst hji; exact lay_at h5 0 j w hw a b
      · rw [lay_col hji, lay_col hji]; exact x1 w j hw (by omega)
    · by_cases hji : j = i
      · subst hji; exact lay_Iv E 0 np 0 j 0 rfl (Nat.le_refl _) a
      · exact Iv_col (fun w _ _ _ => (lay_col hji).symm) (x4 j (by omega))
theorem l200 {k : Nat} (h : k < 1000) : (nI k < 200) = (k < 200) := propext (nI_ltI (b := 200) (by omega) (by decide))
theorem run_rel {E : mT} {n np : Nat} (ok : okS E E (E 6) n np) : ∀ (k : Nat) (C D : mT) (hr : Nat), hr ≤ 200 → Sr n np hr C D → ∃ hr', hr' ≤ 200 ∧ Sr n np hr' (c_run E n np k C) (m_run E n np k D) := by
  intro k
  induction k with
  | zero => intro C D hr h R; exact ⟨hr, h, R⟩
  | succ k ih =>
    intro C D hr h R
    rw [c_run, m_run, ← R.1.2, R.2.1]
    by_cases hlt : hr < 200
    · rw [if_pos (by rw [l200 (by omega)]; exact hlt), if_pos (by rw [l200 (by omega)]; exact hlt)]
      exact ih _ _ (hr + 1) (by omega) (step_rel ok hlt R)
    · rw [if_neg (by rw [l200 (by omega)]; exact hlt), if_neg (by rw [l200 (by omega)]; exact hlt)]
      exact ⟨hr, h, R⟩
theorem vlp_congr {α : Type} {f g : Nat → α → α} {n : Nat} (h : ∀ i a, i < n → f i a = g i a) (a : α) : vlp f n 0 a = vlp g n 0 a := vlp_rel (fun _ (x y : α) => x = y) (fun i x y hi e => by rw [e]; exact h i y hi) n 0 a a (Nat.zero_le _) rfl rfl
theorem sum_eq {n : Nat} {C D : mT} (h : ∀ w i, w ≤ 6 → i < n → C w i = D w i) : c_sum n C = c_sum n D := vlp_congr (fun i a hi => by rw [h 4 i (by decide) hi]) 0
theorem inS_eq {n : Nat} {C D : mT} (h : ∀ w i, w ≤ 6 → i < n → C w i = D w i) (q : Int32) : c_inS n q C = c_inS n q D := vlp_congr (fun i a hi => by rw [h 0 i (by decide) hi]) 0
theorem wts_eq {n : Nat} {C D : mT} (h : ∀ w i, w ≤ 6 → i < n → C w i = D w i) : c_wts n C = c_wts n D := vlp_congr (fun i a hi => by rw [h 5 i (by decide) hi]) 0
theorem atC_eq {n : Nat} {C D : mT} (h : ∀ w i, w ≤ 6 → i < n → C w i = D w i) (q : Int32) : c_atC n q C = c_atC n q D := vlp_congr (fun i a hi => by rw [h 2 i (by decide) hi, h 1 i (by decide) hi]) 0
theorem on_eq {n np hr : Nat} {C D : mT} (R : Sr n np hr C D) (q : Int32) : c_on n q C = vlp (m_onF q D) n 0 0 := by
  refine vlp_congr (fun i a hi => ?_) 0
  obtain ⟨s, c, t, w, h0, hs, h1, hc, h2, ht, h5, hw, hgo, h4, h3, hk⟩ := R.2.2 i hi
  unfold m_onF c_pu m_po
  rw [← R.1.1 2 i (by decide) hi, ← R.1.1 0 i (by decide) hi, ← R.1.1 1 i (by decide) hi, h2, h0]
  simp only [l0 (k := t) (by omega), i0 (k := t) (by omega), i0 (k := s) (by omega), i2 (k := s) (by omega)]
  by_cases ht0 : t = 0
  · rw [if_neg (by omega), if_pos ht0]
  · rw [if_pos (by omega), if_neg ht0]
    rcases hgo (by omega) with ⟨rfl, -⟩ | ⟨rfl, -⟩ <;> simp
theorem count_eq {E : mT} {n np hr : Nat} {C D : mT} (R : Sr n np hr C D) (v : Int32) : a_count E n v C = a_count E n v D := by
  unfold a_count
  rw [sum_eq R.1.1, inS_eq R.1.1, inS_eq R.1.1, wts_eq R.1.1, R.1.2]
/-! bottles -/
theorem need_eq {E : mT} {hg np : Nat} (hhg : E 8 1 = nI hg) (h6 : hg ≤ 6) (hp : E 8 0 = nI np) (hp6 : np ≤ 6) (v y : Int32) : a_need E hg v y = ma_need E v y := by
  have key : ∀ (j : Nat) (a : Int32), j ≤ 6 → c_nd hg j a = m_nd E j a := by
    intro j
    induction j with
    | zero => intro a _; rfl
    | succ j ih =>
      intro a hj
      rw [c_nd, m_nd, hhg]
      by_cases hlt : j < hg
      · rw [if_pos hlt, if_pos (nI_lt hlt (by omega)), ← ih a (by omega), c_nd_le (by omega)]
      · rw [if_neg hlt, if_neg (nI_nlt (by omega) (by omega)), ih _ (by omega), show a + 4 - 2 = a + 2 by rw [Int32.sub_eq_add_neg, Int32.add_assoc]; rfl]
  unfold a_need ma_need
  split
  · rfl
  · rename_i h
    split
    · rfl
    · rw [hp] at h
      obtain ⟨j, hj, rfl⟩ := isW_nI h (by omega)
      exact key _ _ (by rw [nI_clamp (by omega)]; omega)
theorem comes_eq {E : mT} {hg np : Nat} (hhg : E 8 1 = nI hg) (h6 : hg ≤ 6) (hp : E 8 0 = nI np) (hp6 : np ≤ 6) (v y : Int32) : a_comes E hg v y = ma_comes E v y := by
  have key : ∀ (m k i : Nat) (a : Int32), k ≤ 6 → k - i = m → i ≤ hg → vlp (fun s a => if nI s < E 8 1 then a else a - (a + 3) / 4) k i a = vlp (fun _ a => a - (a + 4 - 1) / 4) k hg a := by
    intro m
    induction m with
    | zero => intro k i a hk hm hi; rw [vlp_done (by omega), vlp_done (by omega)]
    | succ m ih =>
      intro k i a hk hm hi
      by_cases hlt : i < hg
      · rw [vlp_step (by omega), hhg, if_pos (nI_lt hlt (by omega)), ← hhg]
        exact ih k (i + 1) a hk (by omega) (by omega)
      · obtain rfl : i = hg := by omega
        clear ih hlt
        have : ∀ (m j : Nat) (a : Int32), k - j = m → i ≤ j → vlp (fun s a => if nI s < E 8 1 then a else a - (a + 3) / 4) k j a = vlp (fun _ a => a - (a + 4 - 1) / 4) k j a := by
          intro m
          induction m with
          | zero => intro j a hm hj; rw [vlp_done (by omega), vlp_done (by omega)]
          | succ m ih =>
            intro j a hm hj
            rw [vlp_step (f := fun s a => if nI s < E 8 1 then a else a - (a + 3) / 4) (by omega), vlp_step (f := fun _ a => a - (a + 4 - 1) / 4) (by omega), hhg, if_neg (nI_nlt hj (by omega)), ← hhg, ih (j + 1) _ (by omega) (by omega), show a + 4 - 1 = a + 3 by rw [Int32.sub_eq_add_neg, Int32.add_assoc]; rfl]
        exact this _ i a rfl (Nat.le_refl _)
  unfold a_comes ma_comes
  split
  · rfl
  · rename_i h
    split
    · rfl
    · rw [hp] at h
      obtain ⟨j, hj, rfl⟩ := isW_nI h (by omega)
      exact (key _ _ 0 _ (by rw [nI_clamp (by omega)]; omega) rfl (Nat.zero_le _)).symm
/-! wind -/
theorem wind_eq (f t : Int32) : r_wind f t = mr_wind f t := by
  unfold r_wind mr_wind isW
  by_cases hf : f < 0
  · rw [if_pos hf]
    by_cases ht : t < 0
    · rw [if_pos ht, if_pos rfl]
    · rw [if_neg ht]
      by_cases h9 : 199 < t
      · rw [if_pos h9, if_pos rfl]
      · rw [if_neg h9, if_neg (by decide), if_pos hf, if_pos rfl]
  · rw [if_neg hf]
    by_cases htf : t < f
    · rw [if_pos htf]
      by_cases ht : t < 0
      · rw [if_pos ht, if_pos rfl]
      · rw [if_neg ht]
        by_cases h9 : 199 < t
        · rw [if_pos h9, if_pos rfl]
        · rw [if_neg h9, if_neg (by decide), if_neg hf, if_pos htf, if_pos rfl]
    · rw [if_neg htf]
      have ht : ¬ t < 0 := fun q => htf (Int32.lt_of_lt_of_le q (Int32.not_lt.mp hf))
      rw [if_neg ht]
      by_cases h2 : t < 200
      · have h9 : ¬ 199 < t := fun q => by
          have a := Int32.lt_iff_toInt_lt.mp q
          have b := Int32.lt_iff_toInt_lt.mp h2
          have c1 : (199 : Int32).toInt = 199 := by decide
          have c2 : (200 : Int32).toInt = 200 := by decide
          omega
        rw [if_pos h2, if_neg h9, if_neg (by decide), if_neg hf, if_neg htf, if_neg (by decide)]
      · have h9 : 199 < t := by
          refine Int32.lt_iff_toInt_lt.mpr ?_
          have b := mt Int32.lt_iff_toInt_lt.mpr h2
          have c1 : (199 : Int32).toInt = 199 := by decide
          have c2 : (200 : Int32).toInt = 200 := by decide
          omega
        rw [if_neg h2, if_pos h9, if_pos rfl]
theorem ewind_eq (E : mT) (f t z : Int32) : e_wind E f t z = me_wind E f t z := by unfold e_wind me_wind; rw [wind_eq]
