/-! the third step: the first of a line, by a general least one -/
def am (P : Nat → Bool) (key : Nat → Int32) (i : Nat) (a : Int32) : Int32 := if P i = true then (if a = -1 then nI i else if key i < key a.toNatClampNeg then nI i else a) else a
def amS (P : Nat → Bool) (key : Nat → Int32) (m : Nat) (a : Int32) : Prop := (a = -1 ∧ ∀ i, i < m → P i = false) ∨ ∃ j, j < m ∧ a = nI j ∧ P j = true ∧ (∀ i, i < m → P i = true → ¬ key i < key j) ∧ ∀ i, i < j → P i = true → key j < key i
theorem nI_m1 {j : Nat} (h : j < 1000) : ¬ nI j = -1 := fun q => by
  have h1 := nI_toInt (n := j) (by omega)
  rw [q] at h1
  have h2 : (-1 : Int32).toInt = -1 := by decide
  omega
theorem am_spec (P : Nat → Bool) (key : Nat → Int32) {n : Nat} (hn : n ≤ 12) : amS P key n (vlp (am P key) n 0 (-1)) := by
  refine vlp_rel (fun m (a : Int32) (_ : Unit) => amS P key m a) (g := fun _ u => u) ?_ n 0 (-1) () (Nat.zero_le _) rfl (Or.inl ⟨rfl, fun i h => absurd h (by omega)⟩)
  intro m a _ hm H
  by_cases hP : P m = true
  · rcases H with ⟨ha, hno⟩ | ⟨j, hj, ha, hPj, h1, h2⟩
    · refine Or.inr ⟨m, by omega, ?_, hP, fun i hi hPi => ?_, fun i hi hPi => ?_⟩
      · unfold am; rw [if_pos hP, if_pos ha]
      · by_cases him : i = m
        · rw [him]; exact Int32.lt_irrefl
        · rw [hno i (by omega)] at hPi; cases hPi
      · rw [hno i (by omega)] at hPi; cases hPi
    · have hcl : a.toNatClampNeg = j := by rw [ha]; exact nI_clamp (by omega)
      have hm1 : ¬ a = -1 := by rw [ha]; exact nI_m1 (by omega)
      by_cases hlt : key m < key j
      · refine Or.inr ⟨m, by omega, ?_, hP, fun i hi hPi => ?_, fun i hi hPi => ?_⟩
        · unfold am; rw [if_pos hP, if_neg hm1, hcl, if_pos hlt]
        · by_cases him : i = m
          · rw [him]; exact Int32.lt_irrefl
          · exact fun q => h1 i (by omega) hPi (Int32.lt_trans q hlt)
        · exact Int32.lt_of_lt_of_le hlt (Int32.not_lt.mp (h1 i hi hPi))
      · refine Or.inr ⟨j, by omega, ?_, hPj, fun i hi hPi => ?_, h2⟩
        · unfold am; rw [if_pos hP, if_neg hm1, hcl, if_neg hlt]; exact ha
        · by_cases him : i = m
          · rw [him]; exact hlt
          · exact h1 i (by omega) hPi
  · have e : am P key m a = a := by unfold am; rw [if_neg hP]
    have hPf : P m = false := by cases h : P m; rfl; exact absurd h hP
    rw [e]
    rcases H with ⟨ha, hno⟩ | ⟨j, hj, ha, hPj, h1, h2⟩
    · refine Or.inl ⟨ha, fun i hi => ?_⟩
      by_cases him : i = m
      · rw [him]; exact hPf
      · exact hno i (by omega)
    · refine Or.inr ⟨j, by omega, ha, hPj, fun i hi hPi => ?_, h2⟩
      by_cases him : i = m
      · rw [him, hPf] at hPi; cases hPi
      · exact h1 i (by omega) hPi
theorem am_none {P : Nat → Bool} {key : Nat → Int32} {n : Nat} (hn : n ≤ 12) (h : ∀ i, i < n → P i = false) : vlp (am P key) n 0 (-1) = -1 := by
  rcases am_spec P key hn with ⟨ha, -⟩ | ⟨j, hj, -, hP, -⟩
  · exact ha
  · rw [h j hj] at hP; cases hP
theorem am_eq {P : Nat → Bool} {key : Nat → Int32} {n j : Nat} (hn : n ≤ 12) (hj : j < n) (hP : P j = true) (h1 : ∀ i, i < n → P i = true → ¬ key i < key j) (h2 : ∀ i, i < j → P i = true → key j < key i) : vlp (am P key) n 0 (-1) = nI j := by
  rcases am_spec P key hn with ⟨-, hno⟩ | ⟨k, hk, ha, hPk, g1, g2⟩
  · rw [hno j hj] at hP; cases hP
  · rw [ha]
    rcases Nat.lt_trichotomy j k with q | q | q
    · exact absurd (g2 j q hP) (h1 k hk hPk)
    · rw [q]
    · exact absurd (h2 k q hPk) (g1 j hj hP)
theorem f_fil_am (C : mT) (q : Int32) : f_fil C q = am (fun i => decide (C 7 i = q)) (C 8) := by
  funext i a
  unfold f_fil am
  simp only [decide_eq_true_eq]
theorem f_ff_am (E : mT) (q d : Int32) (C : mT) : f_ff E q d C = am (fun i => m_ok E q d i C) (C 6) := rfl
/-- what stands while pitches are begun -/
def Wt (E : mT) (St : Nat → Int32) (n : Nat) (C : mT) : Prop := ∀ i, i < n → C 7 i = c_pw E St i C ∧ (C 2 i = 0 → C 8 i = if C 0 i = 2 then C 6 i else C 6 i + 201)
theorem pick_d {E E' : mT} {St : Nat → Int32} {C D : mT} {n np hr s i : Nat} (hi : i < n) (he : eqv n C D) (h200 : hr ≤ 200) (h6 : np ≤ 6) (hs : s < np) (H : Iw np hr C i) (hW : C 7 i = c_pw E St i C ∧ (C 2 i = 0 → C 8 i = if C 0 i = 2 then C 6 i else C 6 i + 201)) (h9 : C 9 0 = nI hr) (hE : ∀ q, q ≠ 6 → E' q = E q) (hSt : St (tm E i) = E' 6 (tm E i)) :
    (m_ok E' (nI s) 1 i D = true → C 7 i = nI s ∧ C 0 i = 2 ∧ ∃ k, k ≤ 200 ∧ C 6 i = nI k ∧ C 8 i = nI k) ∧ (m_ok E' (nI s) 0 i D = true → C 7 i = nI s ∧ C 0 i = 0 ∧ ∃ k, k ≤ 200 ∧ C 6 i = nI k ∧ C 8 i = nI (k + 201)) ∧ (C 7 i = nI s → m_ok E' (nI s) 1 i D = true ∨ m_ok E' (nI s) 0 i D = true) := by
  obtain ⟨st, c, t, w, h0, hs4, h1, hc, h2, ht, h5, hw, hgo, h4, h3, hk⟩ := H
  have etm : tm E' i = tm E i := by unfold tm; rw [hE 3 (by decide)]
  have hk3 : t = 0 → ∃ k, k ≤ 200 ∧ C 6 i = nI k := fun h => by obtain ⟨k, a, b, -⟩ := hk h; exact ⟨k, by omega, b⟩
  have hm1 : m_ok E' (nI s) 1 i D = true ↔ t = 0 ∧ st = 2 ∧ c = s + 1 := by
    unfold m_ok
    rw [decide_eq_true_eq, ← he.1 2 i (by decide) hi, ← he.1 0 i (by decide) hi, ← he.1 1 i (by decide) hi, h2, h0, h1, if_neg (by decide), if_neg (by decide), i0 (by omega), i2 (by omega), nI_1, nI_eq (by omega) (by omega)]
    exact ⟨fun q => ⟨q.1, q.2.1, q.2.2.1⟩, fun q => ⟨q.1, q.2.1, q.2.2, fun z => absurd z.1 (by decide)⟩⟩
  have hm0 : m_ok E' (nI s) 0 i D = true ↔ t = 0 ∧ st = 0 ∧ c = s ∧ ¬ (s = 0 ∧ nI hr < St (tm E i)) := by
    unfold m_ok
    rw [decide_eq_true_eq, ← he.1 2 i (by decide) hi, ← he.1 0 i (by decide) hi, ← he.1 1 i (by decide) hi, ← he.2, h2, h0, h1, h9, if_pos rfl, if_pos rfl, i0 (by omega), i0 (by omega), i0 (by omega), nI_eq (by omega) (by omega), etm, ← hSt]
    exact ⟨fun q => ⟨q.1, q.2.1, q.2.2.1, fun z => q.2.2.2 ⟨rfl, z⟩⟩, fun q => ⟨q.1, q.2.1, q.2.2.1, fun z => q.2.2.2 z.2⟩⟩
  have hpw : c_pw E St i C = if 0 < t then -1 else if st = 2 then nI c - 1 else if st = 0 ∧ (0 < c ∨ ¬ nI hr < St (tm E i)) then nI c else -1 := by
    unfold c_pw
    rw [h2, h0, h1, h9]
    simp only [l0 (k := t) (by omega), l0 (k := c) (by omega), i0 (k := st) (by omega), i2 (k := st) (by omega)]
  refine ⟨fun q => ?_, fun q => ?_, fun q => ?_⟩
  · obtain ⟨rfl, rfl, rfl⟩ := hm1.mp q
    obtain ⟨k, a, b⟩ := hk3 rfl
    refine ⟨?_, by rw [h0]; rfl, k, a, b, ?_⟩
    · rw [hW.1, hpw, if_neg (by decide), if_pos rfl, nI_pred]
    · rw [hW.2 (by rw [h2]; rfl), if_pos (by rw [h0]; rfl), b]
  · obtain ⟨rfl, rfl, rfl, hz⟩ := hm0.mp q
    obtain ⟨k, a, b⟩ := hk3 rfl
    refine ⟨?_, by rw [h0]; rfl, k, a, b, ?_⟩
    · have hor : 0 < c ∨ ¬ nI hr < St (tm E i) := by
        by_cases hc0 : c = 0
        · exact Or.inr (fun z => hz ⟨hc0, z⟩)
        · exact Or.inl (by omega)
      rw [hW.1, hpw, if_neg (by decide), if_neg (by decide), if_pos ⟨rfl, hor⟩]
    · rw [hW.2 (by rw [h2]; rfl), if_neg (by rw [h0]; decide), b]
      exact nI_add k 201
  · rw [hW.1, hpw] at q
    by_cases ht0 : 0 < t
    · rw [if_pos ht0] at q; exact absurd q.symm (nI_m1 (by omega))
    · rw [if_neg ht0] at q
      by_cases hs2 : st = 2
      · rw [if_pos hs2] at q
        rcases hgo (Or.inr (Or.inr hs2)) with ⟨z, -⟩ | ⟨-, hc1⟩
        · omega
        · obtain ⟨d, rfl⟩ : ∃ d, c = d + 1 := ⟨c - 1, by omega⟩
          rw [nI_pred] at q
          have := nI_inj (by omega) (by omega) q
          exact Or.inl (hm1.mpr ⟨by omega, hs2, by omega⟩)
      · rw [if_neg hs2] at q
        by_cases hz : st = 0 ∧ (0 < c ∨ ¬ nI hr < St (tm E i))
        · rw [if_pos hz] at q
          have := nI_inj (by omega) (by omega) q
          exact Or.inr (hm0.mpr ⟨by omega, hz.1, this, fun y => hz.2.elim (fun y2 => by omega) (fun y2 => y2 y.2)⟩)
        · rw [if_neg hz] at q; exact absurd q.symm (nI_m1 (by omega))
theorem vlt201 {a b : Nat} (ha : a ≤ 200) (hb : b ≤ 200) : nI a < nI (b + 201) := nI_lt (by omega) (by omega)
/-- who begins a pitch: the class's first in line is the reference's first going down, else its first going up -/
theorem pick {E E' : mT} {St : Nat → Int32} {C D : mT} {n np hr s : Nat} (he : eqv n C D) (h12 : n ≤ 12) (h200 : hr ≤ 200) (h6 : np ≤ 6) (hs : s < np) (H : ∀ i, i < n → Iw np hr C i) (hW : Wt E St n C) (h9 : C 9 0 = nI hr) (hE : ∀ q, q ≠ 6 → E' q = E q) (hSt : ∀ i, i < n → St (tm E i) = E' 6 (tm E i)) :
    (m_fil E' n (nI s) 1 D = -1 ∧ m_fil E' n (nI s) 0 D = -1 ∧ c_fil n (nI s) C = -1) ∨ (∃ j, j < n ∧ m_fil E' n (nI s) 1 D = nI j ∧ c_fil n (nI s) C = nI j ∧ C 0 j = 2 ∧ C 7 j = nI s) ∨ (∃ j, j < n ∧ m_fil E' n (nI s) 1 D = -1 ∧ m_fil E' n (nI s) 0 D = nI j ∧ c_fil n (nI s) C = nI j ∧ C 0 j = 0 ∧ C 7 j = nI s) := by
  have hp := fun i (hi : i < n) => pick_d (E' := E') (s := s) (n := n) hi he h200 h6 hs (H i hi) (hW i hi) h9 hE (hSt i hi)
  have e6 : ∀ i, i < n → D 6 i = C 6 i := fun i hi => (he.1 6 i (by decide) hi).symm
  unfold m_fil c_fil
  rw [f_fil_am, f_ff_am, f_ff_am]
  rcases am_spec (fun i => m_ok E' (nI s) 1 i D) (D 6) h12 with ⟨ha, hno⟩ | ⟨j, hj, ha, hPj, g1, g2⟩
  · rcases am_spec (fun i => m_ok E' (nI s) 0 i D) (D 6) h12 with ⟨hb, hno2⟩ | ⟨j, hj, hb, hPj, g1, g2⟩
    · refine Or.inl ⟨ha, hb, am_none h12 (fun i hi => ?_)⟩
      rw [decide_eq_false_iff_not]
      intro q
      rcases (hp i hi).2.2 q with z | z
      · have := hno i hi; dsimp only at this; rw [z] at this; cases this
      · have := hno2 i hi; dsimp only at this; rw [z] at this; cases this
    · obtain ⟨q7, q0, kj, hkj, k6, k8⟩ := (hp j hj).2.1 hPj
      refine Or.inr (Or.inr ⟨j, hj, ha, hb, am_eq h12 hj (decide_eq_true q7) (fun i hi hPi => ?_) (fun i hi hPi => ?_), q0, q7⟩)
      · have hPi := of_decide_eq_true hPi
        rcases (hp i hi).2.2 hPi with z | z
        · have := hno i hi; dsimp only at this; rw [z] at this; cases this
        · obtain ⟨-, -, ki, hki, i6, i8⟩ := (hp i hi).2.1 z
          have g := g1 i hi z
          rw [e6 i (by omega), e6 j (by omega), i6, k6, nI_ltI (by omega) (by omega)] at g
          rw [i8, k8, nI_ltI (by omega) (by omega)]
          omega
      · have hPi := of_decide_eq_true hPi
        rcases (hp i (by omega)).2.2 hPi with z | z
        · have := hno i (by omega); dsimp only at this; rw [z] at this; cases this
        · obtain ⟨-, -, ki, hki, i6, i8⟩ := (hp i (by omega)).2.1 z
          have g := g2 i hi z
          rw [e6 i (by omega), e6 j (by omega), i6, k6, nI_ltI (by omega) (by omega)] at g
          rw [i8, k8, nI_ltI (by omega) (by omega)]
          omega
  · obtain ⟨q7, q0, kj, hkj, k6, k8⟩ := (hp j hj).1 hPj
    refine Or.inr (Or.inl ⟨j, hj, ha, am_eq h12 hj (decide_eq_true q7) (fun i hi hPi => ?_) (fun i hi hPi => ?_), q0, q7⟩)
    · have hPi := of_decide_eq_true hPi
      rcases (hp i hi).2.2 hPi with z | z
      · obtain ⟨-, -, ki, hki, i6, i8⟩ := (hp i hi).1 z
        have g := g1 i hi z
        rw [e6 i (by omega), e6 j (by omega), i6, k6] at g
        rw [i8, k8]
        exact g
      · obtain ⟨-, -, ki, hki, i6, i8⟩ := (hp i hi).2.1 z
        rw [i8, k8, nI_ltI (by omega) (by omega)]
        omega
    · have hPi := of_decide_eq_true hPi
      rcases (hp i (by omega)).2.2 hPi with z | z
      · obtain ⟨-, -, ki, hki, i6, i8⟩ := (hp i (by omega)).1 z
        have g := g2 i hi z
        rw [e6 i (by omega), e6 j (by omega), i6, k6] at g
        rw [i8, k8]
        exact g
      · obtain ⟨-, -, ki, hki, i6, i8⟩ := (hp i (by omega)).2.1 z
        rw [i8, k8]
        exact vlt201 hkj hki
/-- lengths and paces as told -/
def okL (E : mT) (n : Nat) : Prop := (∀ s, s < 6 → ∃ l, 1 ≤ l ∧ l ≤ 8 ∧ E 0 s = nI l) ∧ ∀ i, i < n → ∃ q, q ≤ 4 ∧ E 4 i = nI q
def Wr (E : mT) (St : Nat → Int32) (n np hr : Nat) (C D : mT) : Prop := eqv n C D ∧ C 9 0 = nI hr ∧ (∀ i, i < n → Iw np hr C i) ∧ Wt E St n C
theorem c_hf_v {E : mT} {n s f : Nat} (hL : okL E n) (hs : s < 6) (hf : f < n) (u : Int32) : ∃ h, 1 ≤ h ∧ h ≤ 12 ∧ c_hf E f s u = nI h := by
  obtain ⟨a, a1, a2, a3⟩ := hL.1 s hs
  obtain ⟨b, b1, b2⟩ := hL.2 f hf
  unfold c_hf
  split
  · exact ⟨a, a1, by omega, a3⟩
  · exact ⟨a + b, by omega, by omega, by rw [a3, b2, nI_add]⟩
theorem lb1_step {E : mT} {St : Nat → Int32} {C D : mT} {n np hr s f : Nat} {h : Int32} (h12 : n ≤ 12) (h6 : np ≤ 6) (hs : s < np) (hf : f < n) (hL : okL E n) (R : Wr E St n np hr C D) (hst : C 0 f = 0 ∨ C 0 f = 2) (hh : h = c_hf E f s (if C 0 f = 0 then 1 else 0)) : Wr E St n np hr (c_lb1 E s f C) (m_so1 h f D) := by
  obtain ⟨he, h9, hI, hW⟩ := R
  obtain ⟨v, v1, v2, hv⟩ := c_hf_v hL (s := s) (by omega) hf (if C 0 f = 0 then 1 else 0)
  obtain ⟨t', ht1, ht2, ht3⟩ : ∃ t', 0 < t' ∧ t' ≤ 24 ∧ (if C 3 f = 0 then 2 * c_hf E f s (if C 0 f = 0 then 1 else 0) else c_hf E f s (if C 0 f = 0 then 1 else 0)) = nI t' := by
    rw [hv]
    split
    · exact ⟨2 * v, by omega, by omega, v2mul v⟩
    · exact ⟨v, by omega, by omega, rfl⟩
  have ec : c_lb1 E s f C = cS (cS (cS C 7 f (-1)) 6 f (-1)) 2 f (nI t') := by unfold c_lb1; rw [ht3]
  have ed : m_so1 h f D = cS (cS D 2 f (nI t')) 6 f (-1) := by
    unfold m_so1
    rw [hh, ← he.1 3 f (by decide) hf, ht3]
  rw [ec, ed]
  refine ⟨?_, ?_, fun i hi => ?_, fun i hi => ?_⟩
  · rw [cS_comm D (by decide)]
    exact eqv_cS (eqv_cS (eqv_78 he (Or.inl rfl)) _ _ _) _ _ _
  · simp [cS_ne, h9]
  · by_cases hif : i = f
    · subst hif
      obtain ⟨st, c, t, w, h0, hs4, h1, hc, h2, ht, h5, hw, hgo, h4, h3, hk⟩ := hI i hi
      have hst2 : st = 0 ∨ st = 2 := by
        rcases hst with q | q
        · rw [h0, i0 (by omega)] at q; exact Or.inl q
        · rw [h0, i2 (by omega)] at q; exact Or.inr q
      refine ⟨st, c, t', w, ?_, hs4, ?_, hc, ?_, ht2, ?_, hw, fun _ => hgo (Or.inr hst2), fun q => ?_, fun q => ?_, fun q => absurd q (by omega)⟩
      · simp [cS_ne, h0]
      · simp [cS_ne, h1]
      · rw [cS_at, upd_same]
      · simp [cS_ne, h5]
      · simp [cS_ne, h4 q]
      · simp [cS_ne, h3 q]
    · exact Iw_col (fun w _ _ _ => by rw [cS_col hif, cS_col hif, cS_col hif]) (hI i hi)
  · by_cases hif : i = f
    · subst hif
      have e2 : cS (cS (cS C 7 i (-1)) 6 i (-1)) 2 i (nI t') 2 i = nI t' := by rw [cS_at, upd_same]
      refine ⟨?_, fun q => ?_⟩
      · unfold c_pw
        rw [e2, if_pos (by rw [l0 (by omega)]; exact ht1)]
        rw [cS_ne (by decide), cS_ne (by decide), cS_at, upd_same]
      · rw [e2, i0 (by omega)] at q
        omega
    · have hcol : ∀ w, cS (cS (cS C 7 f (-1)) 6 f (-1)) 2 f (nI t') w i = C w i := fun w => by rw [cS_col hif, cS_col hif, cS_col hif]
      have h90 : cS (cS (cS C 7 f (-1)) 6 f (-1)) 2 f (nI t') 9 0 = C 9 0 := by simp [cS_ne]
      have epw : c_pw E St i (cS (cS (cS C 7 f (-1)) 6 f (-1)) 2 f (nI t')) = c_pw E St i C := by
        unfold c_pw
        rw [hcol 2, hcol 0, hcol 1, h90]
      rw [epw, hcol 7, hcol 2, hcol 8, hcol 0, hcol 6]
      exact hW i hi
