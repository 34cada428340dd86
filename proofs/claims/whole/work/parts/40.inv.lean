/-! the invariant of the law's loop, call by call -/
def Jr (n np hr hg : Nat) (E C D : mT) : Prop := okE E n np ∧ 1 ≤ np ∧ okL E n ∧ E 8 1 = nI hg ∧ hg ≤ np ∧ hr ≤ 200 ∧ Sr n np hr C D
theorem okE_cg {E E' : mT} {n np : Nat} (h1 : E' 1 = E 1) (h3 : E' 3 = E 3) (h80 : E' 8 0 = E 8 0) (h82 : E' 8 2 = E 8 2) (ok : okE E n np) : okE E' n np := by
  obtain ⟨a, b, c, d, e, f⟩ := ok
  refine ⟨h82.trans a, b, fun i hi => ?_, h80.trans d, e, fun s hs => ?_⟩
  · unfold tm; rw [h3]; exact c i hi
  · unfold wd; rw [h1]; exact f s hs
theorem okL_cg {E E' : mT} {n : Nat} (h0 : E' 0 = E 0) (h4 : E' 4 = E 4) (ok : okL E n) : okL E' n := by
  unfold okL; rw [h0, h4]; exact ok
theorem cS8 {E : mT} {j i : Nat} {x : Int32} (h : i ≠ j) : cS E 8 j x 8 i = E 8 i := by simp [cS, upd, h]
theorem cS_hit {E : mT} {k j : Nat} {x : Int32} : cS E k j x k j = x := cS_same
theorem cS_off {E : mT} {k j i : Nat} {x : Int32} (h : i ≠ j) : cS E k j x k i = E k i := by simp [cS, upd, h]
theorem Jr_rows {n np hr hg : Nat} {E E' C D : mT} (h0 : E' 0 = E 0) (h1 : E' 1 = E 1) (h3 : E' 3 = E 3) (h4 : E' 4 = E 4) (h8 : E' 8 = E 8) (J : Jr n np hr hg E C D) : Jr n np hr hg E' C D := by
  obtain ⟨a, b, c, d, e, f, g⟩ := J
  exact ⟨okE_cg h1 h3 (by rw [h8]) (by rw [h8]) a, b, okL_cg h0 h4 c, by rw [h8]; exact d, e, f, g⟩
theorem m_lev_q (E : mT) {q : Nat} (h : 2 ≤ q) : m_lev E q = E q := by
  have e : m_lev E = f_lev 6 (f_lev 5 (f_lev 4 (f_lev 3 (f_lev 2 (f_lev 1 (f_lev 0 E)))))) := rfl
  rw [e]
  simp only [f_lev]
  repeat rw [cS_ne (by omega)]
theorem m_lev_0 (E : mT) {j : Nat} (h : j < 7) : m_lev E 0 j = 2 := by
  match j, h with
  | 0, _ => rfl
  | 1, _ => rfl
  | 2, _ => rfl
  | 3, _ => rfl
  | 4, _ => rfl
  | 5, _ => rfl
  | 6, _ => rfl
theorem m_lev_1 (E : mT) {j : Nat} (h : j < 7) : m_lev E 1 j = 1 := by
  match j, h with
  | 0, _ => rfl
  | 1, _ => rfl
  | 2, _ => rfl
  | 3, _ => rfl
  | 4, _ => rfl
  | 5, _ => rfl
  | 6, _ => rfl
theorem mtn_q (E : mT) (v : Int32) {q : Nat} (h : 2 ≤ q) (h8 : q ≠ 8) : me_mtn E v q = E q := by
  unfold me_mtn
  rw [cS_ne h8, m_lev_q _ h, cS_ne h8]
theorem mtn_8 (E : mT) (v : Int32) : me_mtn E v 8 0 = v ∧ me_mtn E v 8 1 = (if v < E 8 1 then v else E 8 1) ∧ me_mtn E v 8 2 = E 8 2 := by
  unfold me_mtn
  refine ⟨?_, ?_, ?_⟩
  · rw [cS8 (by decide), m_lev_q _ (by decide), cS_hit]
  · rw [cS_hit, m_lev_q _ (by decide), cS8 (by decide)]
  · rw [cS8 (by decide), m_lev_q _ (by decide), cS8 (by decide)]
theorem lay_mtn0 (E : mT) (v : Int32) : ∀ j, j < 6 → layE E v 0 j = me_mtn E v 0 j := fun j hj => by
  have e1 : me_mtn E v 0 j = 2 := by unfold me_mtn; rw [cS_ne (by decide)]; exact m_lev_0 _ (by omega)
  have e2 : layE E v 0 = ffl (E 0) 2 6 := rfl
  rw [e1, e2]; unfold ffl; rw [if_pos hj]
theorem lay_mtn1 (E : mT) (v : Int32) : ∀ j, j < 6 → layE E v 1 j = me_mtn E v 1 j := fun j hj => by
  have e1 : me_mtn E v 1 j = 1 := by unfold me_mtn; rw [cS_ne (by decide)]; exact m_lev_1 _ (by omega)
  have e2 : layE E v 1 = ffl (E 1) 1 6 := rfl
  rw [e1, e2]; unfold ffl; rw [if_pos hj]
theorem lay_q (E : mT) (v : Int32) {q : Nat} (h : 2 ≤ q) (h8 : q ≠ 8) : layE E v q = me_mtn E v q := by
  rw [mtn_q E v h h8]
  unfold layE
  have e : ∀ (F : mT) (k : Nat) (f : Nat → Int32), q ≠ k → sRw F k f q = F q := fun F k f h => by unfold sRw; rw [show Nat.beq q k = false from by cases hb : Nat.beq q k; rfl; exact absurd (Nat.eq_of_beq_eq_true hb) h]; rfl
  rw [e _ 1 _ (by omega), e _ 0 _ (by omega), cS_ne h8, cS_ne h8]
theorem lay_8 (E : mT) (v : Int32) : layE E v 8 0 = me_mtn E v 8 0 ∧ layE E v 8 1 = me_mtn E v 8 1 ∧ layE E v 8 2 = me_mtn E v 8 2 := by
  obtain ⟨a, b, c⟩ := mtn_8 E v
  rw [a, b, c]
  exact ⟨rfl, rfl, rfl⟩
theorem J_mountain {n np hr hg : Nat} {E C D : mT} (J : Jr n np hr hg E C D) {v : Int32} (h : ¬ isW v 1 6 = 0) : ∃ np' hg', Jr n np' 0 hg' (me_mtn E v) (c_reset (layE E v) n C) (m_beg (me_mtn E v) n D) := by
  obtain ⟨ok, h1p, hL, hhg, hgp, h200, R⟩ := J
  obtain ⟨k, hk1, hk6, rfl⟩ := isW_nI2 (a := 1) (k := 6) (by decide) h (by decide)
  obtain ⟨e0, e1, e2⟩ := mtn_8 E (nI k)
  obtain ⟨o1, o2, o3, o4, o5, o6⟩ := ok
  refine ⟨k, min k hg, ⟨e2.trans o1, o2, fun i hi => ?_, e0, hk6, fun s hs => ?_⟩, hk1, ⟨fun s hs => ⟨2, by decide, by decide, ?_⟩, fun i hi => ?_⟩, ?_, by omega, by decide, reset_rel (lay_q E (nI k) (q := 5) (by decide) (by decide)).symm n k C D⟩
  · unfold tm; rw [mtn_q E _ (by decide) (by decide)]; exact o3 i hi
  · have : me_mtn E (nI k) 1 s = 1 := by unfold me_mtn; rw [cS_ne (by decide)]; exact m_lev_1 _ (by omega)
    unfold wd
    rw [this]
    exact ⟨rfl, by decide⟩
  · unfold me_mtn; rw [cS_ne (by decide)]; exact m_lev_0 _ (by omega)
  · rw [mtn_q E _ (by decide) (by decide)]; exact hL.2 i hi
  · rw [e1, hhg]
    by_cases hlt : k < hg
    · rw [if_pos (nI_lt hlt (by omega)), Nat.min_eq_left (by omega)]
    · rw [if_neg (fun q => hlt ((nI_ltI (by omega) (by omega)).mp q)), Nat.min_eq_right (by omega)]
theorem J_pitch {n np hr hg : Nat} {E C D : mT} (J : Jr n np hr hg E C D) (v x y : Int32) : Jr n np hr hg (e_pitch E v x y) C D := by
  unfold e_pitch
  by_cases h : r_pitch E v x y = 0
  · rw [if_pos h]; exact J
  · rw [if_neg h]
    unfold r_pitch at h
    have h1 : ¬ isW v 0 (E 8 0 - 1) = 0 := fun q => h (by rw [if_pos q])
    have h2 : ¬ isW x 1 8 = 0 := fun q => h (by rw [if_neg h1, if_pos q])
    have h3 : ¬ isW y 1 6 = 0 := fun q => h (by rw [if_neg h1, if_neg h2, if_pos q])
    obtain ⟨⟨o1, o2, o3, o4, o5, o6⟩, h1p, hL, hhg, hgp, h200, R⟩ := J
    obtain ⟨a, ha1, ha8, rfl⟩ := isW_nI2 (a := 1) (k := 8) (by decide) h2 (by decide)
    obtain ⟨b, hb1, hb6, rfl⟩ := isW_nI2 (a := 1) (k := 6) (by decide) h3 (by decide)
    refine ⟨⟨?_, o2, fun i hi => ?_, ?_, o5, fun s hs => ?_⟩, h1p, ⟨fun s hs => ?_, fun i hi => ?_⟩, ?_, hgp, h200, R⟩
    · rw [cS_ne (by decide), cS_ne (by decide)]; exact o1
    · unfold tm; rw [cS_ne (by decide), cS_ne (by decide)]; exact o3 i hi
    · rw [cS_ne (by decide), cS_ne (by decide)]; exact o4
    · by_cases e : s = v.toNatClampNeg
      · subst e
        unfold wd
        rw [cS_hit, nI_clamp (by omega)]
        exact ⟨rfl, hb6⟩
      · unfold wd
        rw [cS_off e, cS_ne (by decide)]
        exact o6 s hs
    · rw [cS_ne (by decide)]
      by_cases e : s = v.toNatClampNeg
      · subst e
        rw [cS_hit]
        exact ⟨a, ha1, ha8, rfl⟩
      · rw [cS_off e]
        exact hL.1 s hs
    · rw [cS_ne (by decide), cS_ne (by decide)]; exact hL.2 i hi
    · rw [cS_ne (by decide), cS_ne (by decide)]; exact hhg
theorem J_high {n np hr hg : Nat} {E C D : mT} (J : Jr n np hr hg E C D) (v : Int32) : ∃ hg', Jr n np hr hg' (if isW v 0 (E 8 0) = 0 then E else cS E 8 1 v) C D := by
  by_cases h : isW v 0 (E 8 0) = 0
  · rw [if_pos h]; exact ⟨hg, J⟩
  · rw [if_neg h]
    obtain ⟨ok, h1p, hL, hhg, hgp, h200, R⟩ := J
    rw [ok.2.2.2.1] at h
    obtain ⟨j, hj, rfl⟩ := isW_nI h (by have := ok.2.2.2.2.1; omega)
    exact ⟨j, okE_cg (cS_ne (by decide)) (cS_ne (by decide)) (cS8 (by decide)) (cS8 (by decide)) ok, h1p, okL_cg (cS_ne (by decide)) (cS_ne (by decide)) hL, cS_hit, hj, h200, R⟩
theorem vlp_q {f : Nat → mT → mT} {q : Nat} (h : ∀ i E, f i E q = E q) : ∀ (m n i : Nat) (E : mT), n - i = m → vlp f n i E q = E q := by
  intro m
  induction m with
  | zero => intro n i E hm; rw [vlp_done (by omega)]
  | succ m ih => intro n i E hm; rw [vlp_step (by omega), ih n (i + 1) _ (by omega), h]
theorem J_wind {n np hr hg : Nat} {E C D : mT} (J : Jr n np hr hg E C D) (f t z : Int32) : Jr n np hr hg (e_wind E f t z) C D := by
  have h : ∀ q, q ≠ 2 → e_wind E f t z q = E q := fun q hq => by
    unfold e_wind
    split
    · rfl
    · exact vlp_q (fun i E => cS_ne hq) _ _ _ _ rfl
  exact Jr_rows (h 0 (by decide)) (h 1 (by decide)) (h 3 (by decide)) (h 4 (by decide)) (h 8 (by decide)) J
theorem J_team {n np hr hg : Nat} {E C D : mT} (J : Jr n np hr hg E C D) (t w v : Int32) : Jr n np hr hg (e_team E t w v) C D := by
  have h : ∀ q, q ≠ 6 → q ≠ 7 → e_team E t w v q = E q := fun q h6 h7 => by
    unfold e_team
    split
    · rfl
    · split
      · exact cS_ne h6
      · exact cS_ne h7
  exact Jr_rows (h 0 (by decide) (by decide)) (h 1 (by decide) (by decide)) (h 3 (by decide) (by decide)) (h 4 (by decide) (by decide)) (h 8 (by decide) (by decide)) J
theorem J_climber {n np hr hg : Nat} {E C D : mT} (J : Jr n np hr hg E C D) {t q r : Int32} (h : ¬ (r_ok3 t q r = 0 ∨ ¬ n < 12)) : Jr (n + 1) np hr hg (e_join E n t q r) (c_paf (e_join E n t q r) n C) (m_lay (e_join E n t q r) (D 9 0) n D) := by
  obtain ⟨⟨o1, o2, o3, o4, o5, o6⟩, h1p, hL, hhg, hgp, h200, ⟨he, h9, hI⟩⟩ := J
  have hn : n < 12 := Decidable.byContradiction fun q => h (Or.inr q)
  have h0 : ¬ r_ok3 t q r = 0 := fun q => h (Or.inl q)
  unfold r_ok3 at h0
  have h1 : ¬ isW t 0 3 = 0 := fun z => h0 (by rw [if_pos z])
  have h2 : ¬ isW q 0 4 = 0 := fun z => h0 (by rw [if_neg h1, if_pos z])
  obtain ⟨a, ha, rfl⟩ := isW_nI (k := 3) h1 (by decide)
  obtain ⟨b, hb, rfl⟩ := isW_nI (k := 4) h2 (by decide)
  have e3 : ∀ i, e_join E n (nI a) (nI b) r 3 i = if i = n then nI a else E 3 i := fun i => by
    unfold e_join
    rw [cS_ne (by decide), cS_ne (by decide), cS_ne (by decide)]
    split
    · rename_i e; rw [e, cS_hit]
    · rename_i e; rw [cS_off e]
  have e4 : ∀ i, e_join E n (nI a) (nI b) r 4 i = if i = n then nI b else E 4 i := fun i => by
    unfold e_join
    rw [cS_ne (by decide), cS_ne (by decide)]
    split
    · rename_i e; rw [e, cS_hit]
    · rename_i e; rw [cS_off e, cS_ne (by decide)]
  have eq : ∀ k, k ≠ 3 → k ≠ 4 → k ≠ 5 → k ≠ 8 → e_join E n (nI a) (nI b) r k = E k := fun k h3 h4 h5 h8 => by
    unfold e_join
    rw [cS_ne h8, cS_ne h5, cS_ne h4, cS_ne h3]
  have e8 : e_join E n (nI a) (nI b) r 8 0 = E 8 0 ∧ e_join E n (nI a) (nI b) r 8 1 = E 8 1 ∧ e_join E n (nI a) (nI b) r 8 2 = nI (n + 1) := by
    unfold e_join
    refine ⟨?_, ?_, ?_⟩
    · rw [cS8 (by decide), cS_ne (by decide), cS_ne (by decide), cS_ne (by decide)]
    · rw [cS8 (by decide), cS_ne (by decide), cS_ne (by decide), cS_ne (by decide)]
    · rw [cS_hit, nI_1]
  generalize e_join E n (nI a) (nI b) r = F at e3 e4 eq e8 ⊢
  rw [paf_lay]
  refine ⟨⟨e8.2.2, by omega, fun i hi => ?_, e8.1.trans o4, o5, fun s hs => ?_⟩, h1p, ⟨fun s hs => ?_, fun i hi => ?_⟩, e8.2.1.trans hhg, hgp, h200, ⟨⟨fun w i hw hi => ?_, ?_⟩, ?_, fun i hi => ?_⟩⟩
  · unfold tm
    rw [e3 i]
    split
    · exact ⟨(vix_nI (n := 4) (j := a) (by omega) (by decide)).1, rfl⟩
    · exact o3 i (by omega)
  · unfold wd; rw [eq 1 (by decide) (by decide) (by decide) (by decide)]; exact o6 s hs
  · rw [eq 0 (by decide) (by decide) (by decide) (by decide)]; exact hL.1 s hs
  · rw [e4 i]
    split
    · exact ⟨b, hb, rfl⟩
    · exact hL.2 i (by omega)
  · by_cases e : i = n
    · subst e
      rw [he.2]
      exact lay_at rfl _ _ _ hw C D
    · rw [lay_col e, lay_col e]
      exact he.1 w i hw (by omega)
  · have : ∀ (x : Int32) (Z : mT), m_lay F x n Z 9 0 = Z 9 0 := fun x Z => by
      unfold m_lay
      rw [cS_ne (by decide), cS_ne (by decide), cS_ne (by decide), cS_ne (by decide), cS_ne (by decide), cS_ne (by decide), cS_ne (by decide)]
    rw [this, this]; exact he.2
  · unfold m_lay
    rw [cS_ne (by decide), cS_ne (by decide), cS_ne (by decide), cS_ne (by decide), cS_ne (by decide), cS_ne (by decide), cS_ne (by decide)]
    exact h9
  · by_cases e : i = n
    · subst e
      exact lay_Iv F _ np hr _ hr h9 (Nat.le_refl _) C
    · exact Iv_col (fun w _ _ _ => (lay_col e).symm) (hI i (by omega))
theorem J_begin {n np hr hg : Nat} {E C D : mT} (J : Jr n np hr hg E C D) : Jr n np 0 hg E (c_reset E n C) (m_beg E n D) := by
  obtain ⟨ok, h1p, hL, hhg, hgp, h200, R⟩ := J
  exact ⟨ok, h1p, hL, hhg, hgp, by decide, reset_rel rfl n np C D⟩
theorem J_ok {n np hr hg : Nat} {E C D : mT} (J : Jr n np hr hg E C D) : okS E E (E 6) n np := by
  obtain ⟨ok, h1p, hL, hhg, hgp, h200, R⟩ := J
  exact ⟨ok.2.1, ok.2.2.2.1, h1p, ok.2.2.2.2.1, hL, fun _ _ => rfl, fun _ _ => rfl⟩
theorem J_run {n np hr hg : Nat} {E C D : mT} (J : Jr n np hr hg E C D) (v : Int32) : a_run E n np v C = ma_run E n np v D ∧ ∃ hr', Jr n np hr' hg E (e_run E n np v C) (me_run E n np v D) := by
  unfold a_run ma_run e_run me_run
  by_cases h : isW v 0 100 = 0
  · simp only [if_pos h]; exact ⟨trivial, hr, J⟩
  · simp only [if_neg h]
    obtain ⟨hr', h2, R'⟩ := run_rel (J_ok J) v.toNatClampNeg C D hr J.2.2.2.2.2.1 J.2.2.2.2.2.2
    exact ⟨R'.1.2, hr', J.1, J.2.1, J.2.2.1, J.2.2.2.1, J.2.2.2.2.1, h2, R'⟩
theorem J_h90 {n np hr hg : Nat} {E C D : mT} (J : Jr n np hr hg E C D) : ¬ D 9 0 < 0 := by
  obtain ⟨ok, h1p, hL, hhg, hgp, h200, ⟨he, h9, hI⟩⟩ := J
  rw [← he.2, h9]
  exact Int32.not_lt.mpr (nI_pos' (by omega))
theorem J_plan {n np hr hg : Nat} {E C D : mT} (J : Jr n np hr hg E C D) {k : Nat} (hk1 : 1 ≤ k) (hk : k ≤ 3) (S : Nat → Int32) (T M : mT) : Jr n np 0 hg (me_plan E n np k D M) (c_reset (me_plan E n np k D M) n C) (m_beg (me_plan E n np k D M) n D) := by
  have e := (plan_eq J.1 J.2.1 J.2.2.1 hk1 hk S T D M).2
  have h : ∀ q, q ≠ 6 → me_plan E n np k D M q = E q := fun q hq => by
    rw [← e]
    unfold e_plan
    split
    · rfl
    · unfold sRw; rw [show Nat.beq q 6 = false from by cases hb : Nat.beq q 6; rfl; exact absurd (Nat.eq_of_beq_eq_true hb) hq]; rfl
  exact J_begin (Jr_rows (h 0 (by decide)) (h 1 (by decide)) (h 3 (by decide)) (h 4 (by decide)) (h 8 (by decide)) J)
theorem J_of {n np hr hg : Nat} {E C D : mT} (J : Jr n np hr hg E C D) {v y : Int32} (h : ¬ r_of E v y = 0) : C y.toNatClampNeg v.toNatClampNeg = ma_of E D v y := by
  unfold ma_of
  rw [if_neg h]
  unfold r_of at h
  have h1 : ¬ isW v 0 (E 8 2 - 1) = 0 := fun z => h (by rw [if_pos z])
  have h2 : ¬ isW y 0 6 = 0 := fun z => h (by rw [if_neg h1, if_pos z])
  have h12 := J.1.2.1
  rw [J.1.1] at h1
  obtain ⟨i, hi, rfl⟩ := isW_nI1 h1 (by omega)
  obtain ⟨w, hw, rfl⟩ := isW_nI (k := 6) h2 (by decide)
  rw [nI_clamp (by omega), nI_clamp (by omega)]
  exact J.2.2.2.2.2.2.1.1 w i hw hi
theorem J_cmC {n np hr hg : Nat} {E C D : mT} (J : Jr n np hr hg E C D) : ∀ i, i < n → C 1 i = nI (cmp C i) ∧ cmp C i ≤ 6 := fun i hi => Iv_cmp J.1.2.2.2.2.1 (J.2.2.2.2.2.2.2.2 i hi)
theorem J_cmD {n np hr hg : Nat} {E C D : mT} (J : Jr n np hr hg E C D) : ∀ i, i < n → D 1 i = nI (cmp D i) ∧ cmp D i ≤ 6 := fun i hi => by
  have h := J_cmC J i hi
  have e : C 1 i = D 1 i := J.2.2.2.2.2.2.1.1 1 i (by decide) hi
  unfold cmp at h ⊢
  rw [← e]; exact h
/-! at the start -/
theorem J_start : Jr 0 2 0 1 E1 C0 C0 := by
  refine ⟨⟨?_, by decide, fun i hi => absurd hi (Nat.not_lt_zero _), ?_, by decide, fun s hs => ?_⟩, by decide, ⟨fun s hs => ⟨2, by decide, by decide, ?_⟩, fun i hi => absurd hi (Nat.not_lt_zero _)⟩, ?_, by decide, by decide, ⟨eqv_refl _ _, rfl, fun i hi => absurd hi (Nat.not_lt_zero _)⟩⟩
  · rw [E1, m_lev_q _ (by decide)]; rfl
  · rw [E1, m_lev_q _ (by decide)]; rfl
  · have : E1 1 s = 1 := m_lev_1 _ (by omega)
    unfold wd; rw [this]; exact ⟨rfl, by decide⟩
  · exact m_lev_0 _ (by omega)
  · rw [E1, m_lev_q _ (by decide)]; rfl
theorem E01_0 : ∀ j, j < 6 → E0 0 j = E1 0 j := fun j hj => by
  have e1 : E1 0 j = 2 := m_lev_0 _ (by omega)
  have e2 : E0 0 = ffl (fun _ => 0) 2 6 := rfl
  rw [e1, e2]; unfold ffl; rw [if_pos hj]
theorem E01_1 : ∀ j, j < 6 → E0 1 j = E1 1 j := fun j hj => by
  have e1 : E1 1 j = 1 := m_lev_1 _ (by omega)
  have e2 : E0 1 = ffl (fun _ => 0) 1 6 := rfl
  rw [e1, e2]; unfold ffl; rw [if_pos hj]
theorem E01_7 : ∀ j, j < 4 → E0 7 j = E1 7 j := fun j hj => by
  rw [E1, m_lev_q _ (by decide)]
  match j, hj with
  | 0, _ => rfl
  | 1, _ => rfl
  | 2, _ => rfl
  | 3, _ => rfl
