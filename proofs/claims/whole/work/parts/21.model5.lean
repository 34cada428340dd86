/-! the reference: a run set aside, trials, plans -/
theorem arr_rng {cA : ClassId} {n : Nat} {f g : Nat → Int32} (h : ∀ j, j < n → f j = g j) : vp_cell cA (n, .inl f) = vp_cell cA (n, .inl g) := by
  unfold vp_cell arrV
  dsimp only
  congr 2
  funext j
  exact congrArg Value.int (h j.1 j.2)
theorem vP_rng {D : va_G} {cl : List vw_C} {ws : va_W} {H : Heap} {q a : Nat} {cA : ClassId} {n : Nat} {f g : Nat → Int32} (hq : ws[q]? = some (a, .inl (cA, n, .inl f))) (h : ∀ j, j < n → f j = g j) (hP : va_P D cl ws H) : va_P D cl (ws.set q (a, .inl (cA, n, .inl g))) H := by
  intro k e hk
  by_cases hkq : q = k
  · subst hkq
    rw [vset_eq hq] at hk
    cases hk
    have h1 := hP q _ hq
    show H[a]? = some (vp_cell cA (n, .inl g))
    rw [← arr_rng h]
    exact h1
  · rw [List.getElem?_set_ne hkq] at hk
    exact hP k e hk
theorem vV_rng {D : va_G} {tys : List (ClassId × FieldType)} {A : Nat → Prop} {nL : Nat} {p : Program} {l : Launch} {e : Env} {R : Room} {s : State} {m : MethodId} {args : Array Value} {below : List Frame} {meth : Method} {c : Code} {cells slots : Nat} {Q : State → Prop} {L : List Value} {pc : Nat} {st : List Value} {ws ws' : va_W} {q a : Nat} {cA : ClassId} {n : Nat} {f : Nat → Int32} (g : Nat → Int32) (hq : ws[q]? = some (a, .inl (cA, n, .inl f))) (h : ∀ j, j < n → f j = g j) (hw : ws.set q (a, .inl (cA, n, .inl g)) = ws') (k : vV D tys A nL p l e R s m args below meth c cells slots Q ws' L pc st) : vV D tys A nL p l e R s m args below meth c cells slots Q ws L pc st := fun H locs ls hP hD hS hl => k H locs ls (hw ▸ vP_rng hq h hP) (hw ▸ hD.set hq) hS hl
theorem nk_now {cI cZ : ClassId} {ad : Nat → Nat} {E C N : mT} {j : Nat} {x : Int32} : (wN cI cZ ad E C N).set 9 (ad 9, .inl (cI, 84, .inl (upd (nw C) j x))) = wN cI cZ ad E (cS C (j % 7) (j / 7) x) N := by
  have := nk_now0 (cI := cI) (cZ := cZ) (ad := ad) (E := E) (C := C) (N := N) (i := j / 7) (w := j % 7) (Nat.mod_lt _ (by decide)) (x := x)
  rwa [show 7 * (j / 7) + j % 7 = j by omega] at this
theorem vlp_row (k : Nat) (f : Nat → Int32) (n : Nat) : ∀ (m i : Nat) (N : mT), n - i = m → (∀ j, vlp (fun j N => cS N k j (f j)) n i N k j = if i ≤ j ∧ j < n then f j else N k j) ∧ ∀ q, q ≠ k → vlp (fun j N => cS N k j (f j)) n i N q = N q := by
  intro m
  induction m with
  | zero =>
    intro i N h
    rw [vlp_done (by omega)]
    exact ⟨fun j => by rw [if_neg (by omega)], fun q _ => rfl⟩
  | succ m ih =>
    intro i N h
    rw [vlp_step (by omega)]
    obtain ⟨h1, h2⟩ := ih (i + 1) (cS N k i (f i)) (by omega)
    refine ⟨fun j => ?_, fun q hq => (h2 q hq).trans (cS_ne hq)⟩
    rw [h1 j, cS_at]
    unfold upd
    by_cases hj : j = i
    · subst hj
      rw [if_neg (by omega), if_pos rfl, if_pos (by omega)]
    · by_cases hj2 : i + 1 ≤ j ∧ j < n
      · rw [if_pos hj2, if_pos (by omega)]
      · rw [if_neg hj2, if_neg hj, if_neg (by omega)]
def m_cp (C N : mT) : mT := vlp (fun j N => cS N 0 j (nw C j)) 84 0 N
theorem m_cp_0 (C N : mT) {j : Nat} (h : j < 84) : m_cp C N 0 j = nw C j := by
  rw [m_cp, (vlp_row 0 (nw C) 84 84 0 N rfl).1 j, if_pos (by omega)]
theorem m_cp_q (C N : mT) {q : Nat} (h : q ≠ 0) : m_cp C N q = N q := (vlp_row 0 (nw C) 84 84 0 N rfl).2 q h
def m_back (A : Nat → Int32) (j : Nat) (Z : mT) : mT := cS Z (j % 7) (j / 7) (A j)
theorem nw_up2 (C : mT) (j : Nat) (x : Int32) : nw (cS C (j % 7) (j / 7) x) = upd (nw C) j x := by
  have := nw_up C (i := j / 7) (w := j % 7) (Nat.mod_lt _ (by decide)) x
  rw [show 7 * (j / 7) + j % 7 = j by omega] at this
  exact this.symm
theorem m_back_nw (A : Nat → Int32) (n : Nat) : ∀ (m i : Nat) (Z : mT), n - i = m → ∀ j, nw (vlp (m_back A) n i Z) j = if i ≤ j ∧ j < n then A j else nw Z j := by
  intro m
  induction m with
  | zero => intro i Z h j; rw [vlp_done (by omega), if_neg (by omega)]
  | succ m ih =>
    intro i Z h j
    rw [vlp_step (by omega), ih (i + 1) _ (by omega), m_back, nw_up2]
    unfold upd
    by_cases hj : j = i
    · subst hj
      rw [if_neg (by omega), if_pos rfl, if_pos (by omega)]
    · by_cases hj2 : i + 1 ≤ j ∧ j < n
      · rw [if_pos hj2, if_pos (by omega)]
      · rw [if_neg hj2, if_neg hj, if_neg (by omega)]
def m_iter (E : mT) (n np : Nat) : Nat → mT → mT
  | 0, C => C
  | k + 1, C => m_iter E n np k (m_step E n np C)
def m_tr (E : mT) (n np : Nat) (C : mT) : mT := m_iter E n np 100 (m_beg E n C)
def m_as (E : mT) (n np : Nat) (C N : mT) : mT := cS (cS (cS (m_cp C N) 2 1 (c_sum n (m_tr E n np C))) 2 2 (c_inS n 4 (m_tr E n np C))) 2 3 (c_wts n (m_tr E n np C))
theorem m_lay_9 (E : mT) (z : Int32) (i : Nat) (C : mT) : m_lay E z i C 9 0 = C 9 0 := by simp [m_lay, cS_ne]
theorem m_beg_9 (E : mT) (n : Nat) (C : mT) : m_beg E n C 9 0 = 0 := by rw [m_beg, vlp_9 (m_lay_9 E 0), cS_same]
theorem m_as_0 (E : mT) (n np : Nat) (C N : mT) : m_as E n np C N 0 = m_cp C N 0 := by rw [m_as, cS_ne (by decide), cS_ne (by decide), cS_ne (by decide)]
def okE (E : mT) (n np : Nat) : Prop := E 8 2 = nI n ∧ n ≤ 12 ∧ (∀ i, i < n → vix (E 3 i) 4 (tm E i)) ∧ E 8 0 = nI np ∧ np ≤ 6 ∧ (∀ s, s < 6 → E 1 s = nI (wd E s) ∧ wd E s ≤ 6)
theorem okE_6 {E E' : mT} {n np : Nat} (h : ∀ q, q ≠ 6 → E' q = E q) (ok : okE E n np) : okE E' n np := by
  unfold okE tm wd at *
  rw [h 8 (by decide), h 3 (by decide), h 1 (by decide)]
  exact ok
def m_tell : Nat → Nat → mT → mT
  | 0, _, E => E
  | t + 1, r, E => m_tell t (r / 6) (cS E 6 t (nI (2 * (r % 6))))
theorem m_tell_q : ∀ (t r : Nat) (E : mT) (q : Nat), q ≠ 6 → m_tell t r E q = E q := by
  intro t
  induction t with
  | zero => intro r E q _; rfl
  | succ t ih => intro r E q h; rw [m_tell, ih _ _ _ h, cS_ne h]
theorem v2mul (r : Nat) : 2 * nI r = nI (2 * r) := pk_mul 2 r
abbrev rX4_runAside : Room := { frames := 5, cells := 0, slots := 0, locals := 113 }
set_option maxRecDepth 100000 in
set_option maxHeartbeats 4000000 in
theorem KX4_runAside {l : Launch} {D : va_G} {cI cZ : ClassId} {ad : Nat → Nat} {A : Nat → Prop} {E C N : mT} {n np : Nat} (ok : okE E n np) : vKv l D (vtys cI cZ) A yX4_runAside (uT yX4_runAside cX4_runAside 3 (none)) rX4_runAside (wN cI cZ ad E (C) (N)) [.ref (ad 0)] (wN cI cZ ad E (C) (m_as E n np C N)) := by
  refine vKv_of (cc := cX4_runAside) (maxL := 3) (ret := none) (by decide) rfl rfl (Nat.le_of_ble_eq_true rfl) ?_
  intro p e s m below meth c Cx hr hlk
  obtain ⟨hn, h12n, ht, hp, hp6, hw⟩ := ok
  have L80 : ∀ (fuel i : Nat) (Z : mT), i ≤ 84 → 84 - i < fuel → vV D (vtys cI cZ) A 3 p l e rX4_runAside s m ([.ref (ad 0)] : List Value).toArray below meth c 0 0 (MQ below (vQv D A (wN cI cZ ad E (C) (m_as E n np C N))) ([.ref (ad 0)] : List Value).toArray s 0 0 A) (wN cI cZ ad E (vlp (m_back (m_as E n np C N 0)) 84 i Z) (m_as E n np C N)) [.ref (ad 0), .int (C 9 0)] 104 [] → vV D (vtys cI cZ) A 3 p l e rX4_runAside s m ([.ref (ad 0)] : List Value).toArray below meth c 0 0 (MQ below (vQv D A (wN cI cZ ad E (C) (m_as E n np C N))) ([.ref (ad 0)] : List Value).toArray s 0 0 A) (wN cI cZ ad E (Z) (m_as E n np C N)) [.ref (ad 0), .int (C 9 0), .int (nI i)] 80 [] := by
    intro fuel
    induction fuel with
    | zero => intro i Z h1 h2; exact absurd h2 (Nat.not_lt_zero _)
    | succ fuel ih =>
      intro i Z h1 h2 h3
      refine vV_iload_n Cx 2 dX4_runAside_80 rfl rfl ?_
      refine vV_bipush (v := 84) Cx dX4_runAside_81 (by decide) ?_
      refine vV_icmp_ge (tgt := 104) Cx dX4_runAside_83 (by decide) (fun h83 => ?_) (fun h83 => ?_)
      · have hin : i = 84 := vix_ge (n := 84) h83 (by decide) h1
        refine vV_take 2 rfl ?_
        rw [hin, vlp_done (Nat.le_refl _)] at h3
        exact h3
      · have hlt : i < 84 := vix_lt (n := 84) h83 (by decide) h1
        have hi : vix (nI i) 84 i := vix_nI (by omega) (by decide)
        refine vV_aload_n Cx 0 dX4_runAside_86 rfl rfl ?_
        refine vU_get Cx hinX4 0 rfl rfl 12 (by decide) u2_239 rfl dX4_runAside_87 ?_
        refine vV_iload_n Cx 2 dX4_runAside_90 rfl rfl ?_
        refine vV_aload_n Cx 0 dX4_runAside_91 rfl rfl ?_
        refine vU_get Cx hinX4 0 rfl rfl 13 (by decide) u3_0 rfl dX4_runAside_92 ?_
        refine vV_iload_n Cx 2 dX4_runAside_95 rfl rfl ?_
        refine vV_iald Cx 10 0 rfl rfl (by assumption) dX4_runAside_96 ?_
        refine vV_iast Cx 9 0 rfl rfl (by assumption) dX4_runAside_97 nk_now ?_
        refine vV_iinc Cx dX4_runAside_98 rfl (vinc _) (by decide) ?_
        refine vV_goto (tgt := 80) Cx dX4_runAside_101 (by decide) ?_
        exact ih (i + 1) _ (by omega) (by omega) (by rw [vlp_step hlt] at h3; exact h3)
  have L37 : ∀ (fuel i : Nat) (Z : mT), i ≤ 100 → 100 - i < fuel → Z 9 0 = nI i → m_iter E n np (100 - i) Z = m_tr E n np C → vV D (vtys cI cZ) A 3 p l e rX4_runAside s m ([.ref (ad 0)] : List Value).toArray below meth c 0 0 (MQ below (vQv D A (wN cI cZ ad E (C) (m_as E n np C N))) ([.ref (ad 0)] : List Value).toArray s 0 0 A) (wN cI cZ ad E (m_tr E n np C) (m_cp C N)) [.ref (ad 0), .int (C 9 0)] 53 [] → vV D (vtys cI cZ) A 3 p l e rX4_runAside s m ([.ref (ad 0)] : List Value).toArray below meth c 0 0 (MQ below (vQv D A (wN cI cZ ad E (C) (m_as E n np C N))) ([.ref (ad 0)] : List Value).toArray s 0 0 A) (wN cI cZ ad E (Z) (m_cp C N)) [.ref (ad 0), .int (C 9 0), .int (nI i)] 37 [] := by
    intro fuel
    induction fuel with
    | zero => intro i Z h1 h2; exact absurd h2 (Nat.not_lt_zero _)
    | succ fuel ih =>
      intro i Z h1 h2 h9 h4 h3
      refine vV_iload_n Cx 2 dX4_runAside_37 rfl rfl ?_
      refine vV_bipush (v := 100) Cx dX4_runAside_38 (by decide) ?_
      refine vV_icmp_ge (tgt := 53) Cx dX4_runAside_40 (by decide) (fun h40 => ?_) (fun h40 => ?_)
      · have hin : i = 100 := vix_ge (n := 100) h40 (by decide) h1
        refine vV_take 2 rfl ?_
        rw [hin, Nat.sub_self, m_iter] at h4
        rw [h4]
        exact h3
      · have hlt : i < 100 := vix_lt (n := 100) h40 (by decide) h1
        have hi : vix (nI i) 100 i := vix_nI (by omega) (by decide)
        have hh : vix (Z 9 0) 201 (Z 9 0).toNatClampNeg := by rw [h9, nI_clamp (by omega)]; exact vix_nI (by omega) (by decide)
        rw [show 100 - i = (100 - (i + 1)) + 1 by omega, m_iter] at h4
        refine vV_aload_n Cx 0 dX4_runAside_43 rfl rfl ?_
        refine vV_callVv Cx (KX4_step hn h12n ht hp hp6 hw hh) (cwV 0 Cx.1.2.2.2.2 (uGV u3_101 u3_103 us_21 u1_7 u3_104) rfl rfl rfl hdX4_step ⟨Nat.le_of_ble_eq_true rfl, Nat.le_of_ble_eq_true rfl⟩) 0 rfl rfl rfl rfl (Nat.le_of_ble_eq_true rfl) ⟨Nat.zero_le _, Nat.zero_le _⟩ dX4_runAside_44 ?_
        refine vV_iinc Cx dX4_runAside_47 rfl (vinc _) (by decide) ?_
        refine vV_goto (tgt := 37) Cx dX4_runAside_50 (by decide) ?_
        exact ih (i + 1) _ (by omega) (by omega) (by rw [m_step_9, h9, nI_1]) h4 h3
  have L7 : ∀ (fuel i : Nat) (Y : mT), i ≤ 84 → 84 - i < fuel → vV D (vtys cI cZ) A 3 p l e rX4_runAside s m ([.ref (ad 0)] : List Value).toArray below meth c 0 0 (MQ below (vQv D A (wN cI cZ ad E (C) (m_as E n np C N))) ([.ref (ad 0)] : List Value).toArray s 0 0 A) (wN cI cZ ad E (C) (vlp (fun j N => cS N 0 j (nw C j)) 84 i Y)) [.ref (ad 0), .int (C 9 0)] 31 [] → vV D (vtys cI cZ) A 3 p l e rX4_runAside s m ([.ref (ad 0)] : List Value).toArray below meth c 0 0 (MQ below (vQv D A (wN cI cZ ad E (C) (m_as E n np C N))) ([.ref (ad 0)] : List Value).toArray s 0 0 A) (wN cI cZ ad E (C) (Y)) [.ref (ad 0), .int (C 9 0), .int (nI i)] 7 [] := by
    intro fuel
    induction fuel with
    | zero => intro i Y h1 h2; exact absurd h2 (Nat.not_lt_zero _)
    | succ fuel ih =>
      intro i Y h1 h2 h3
      refine vV_iload_n Cx 2 dX4_runAside_7 rfl rfl ?_
      refine vV_bipush (v := 84) Cx dX4_runAside_8 (by decide) ?_
      refine vV_icmp_ge (tgt := 31) Cx dX4_runAside_10 (by decide) (fun h10 => ?_) (fun h10 => ?_)
      · have hin : i = 84 := vix_ge (n := 84) h10 (by decide) h1
        refine vV_take 2 rfl ?_
        rw [hin, vlp_done (Nat.le_refl _)] at h3
        exact h3
      · have hlt : i < 84 := vix_lt (n := 84) h10 (by decide) h1
        have hi : vix (nI i) 84 i := vix_nI (by omega) (by decide)
        refine vV_aload_n Cx 0 dX4_runAside_13 rfl rfl ?_
        refine vU_get Cx hinX4 0 rfl rfl 13 (by decide) u3_0 rfl dX4_runAside_14 ?_
        refine vV_iload_n Cx 2 dX4_runAside_17 rfl rfl ?_
        refine vV_aload_n Cx 0 dX4_runAside_18 rfl rfl ?_
        refine vU_get Cx hinX4 0 rfl rfl 12 (by decide) u2_239 rfl dX4_runAside_19 ?_
        refine vV_iload_n Cx 2 dX4_runAside_22 rfl rfl ?_
        refine vV_iald Cx 9 0 rfl rfl (by assumption) dX4_runAside_23 ?_
        refine vV_iast Cx 10 0 rfl rfl (by assumption) dX4_runAside_24 nk_aside ?_
        refine vV_iinc Cx dX4_runAside_25 rfl (vinc _) (by decide) ?_
        refine vV_goto (tgt := 7) Cx dX4_runAside_28 (by decide) ?_
        exact ih (i + 1) _ (by omega) (by omega) (by rw [vlp_step hlt] at h3; exact h3)
  refine vV_aload_n Cx 0 dX4_runAside_0 rfl rfl ?_
  refine vU_get Cx hinX4 0 rfl rfl 4 (by decide) u2_231 rfl dX4_runAside_1 ?_
  refine vV_istore_n Cx 1 dX4_runAside_4 rfl (by decide) ?_
  refine vV_iconst (v := 0) Cx dX4_runAside_5 (by decide) ?_
  refine vV_istore_n Cx 2 dX4_runAside_6 rfl (by decide) ?_
  refine L7 85 0 _ (by omega) (by omega) ?_
  refine vV_aload_n Cx 0 dX4_runAside_31 rfl rfl ?_
  refine vV_callVv Cx (KX4_beginAll hn h12n) (cwV 0 Cx.1.2.2.2.2 (uGV u3_57 u3_59 us_17 u1_7 u3_60) rfl rfl rfl hdX4_beginAll ⟨Nat.le_of_ble_eq_true rfl, Nat.le_of_ble_eq_true rfl⟩) 0 rfl rfl rfl rfl (Nat.le_of_ble_eq_true rfl) ⟨Nat.zero_le _, Nat.zero_le _⟩ dX4_runAside_32 ?_
  refine vV_iconst (v := 0) Cx dX4_runAside_35 (by decide) ?_
  refine vV_istore_n Cx 2 dX4_runAside_36 rfl (by decide) ?_
  refine L37 101 0 _ (by omega) (by omega) (m_beg_9 E n C) (by rw [m_tr]) ?_
  refine vV_aload_n Cx 0 dX4_runAside_53 rfl rfl ?_
  refine vV_aload_n Cx 0 dX4_runAside_54 rfl rfl ?_
  refine vV_callVi Cx (KX4_summits hn h12n) (cwV 0 Cx.1.2.2.2.2 (uGV u3_146 u3_148 us_31 u1_7 u3_149) rfl rfl rfl hdX4_summits ⟨Nat.le_of_ble_eq_true rfl, Nat.le_of_ble_eq_true rfl⟩) 0 rfl rfl rfl rfl (Nat.le_of_ble_eq_true rfl) ⟨Nat.zero_le _, Nat.zero_le _⟩ dX4_runAside_55 ?_
  refine vU_put Cx hinX4 tyX4_ok nmX4 0 rfl rfl 16 (by decide) u3_3 rfl (by decide +kernel) (Nat.le_of_ble_eq_true rfl) dX4_runAside_58 np_triedSummits ?_
  refine vV_aload_n Cx 0 dX4_runAside_61 rfl rfl ?_
  refine vV_aload_n Cx 0 dX4_runAside_62 rfl rfl ?_
  refine vV_iconst (v := 4) Cx dX4_runAside_63 (by decide) ?_
  refine vV_callVi Cx (KX4_inState hn h12n _) (cwV 1 Cx.1.2.2.2.2 (uGV u3_150 u3_152 us_32 u1_7 u3_153) rfl rfl rfl hdX4_inState ⟨Nat.le_of_ble_eq_true rfl, Nat.le_of_ble_eq_true rfl⟩) 0 rfl rfl rfl rfl (Nat.le_of_ble_eq_true rfl) ⟨Nat.zero_le _, Nat.zero_le _⟩ dX4_runAside_64 ?_
  refine vU_put Cx hinX4 tyX4_ok nmX4 0 rfl rfl 17 (by decide) u3_4 rfl (by decide +kernel) (Nat.le_of_ble_eq_true rfl) dX4_runAside_67 np_triedStranded ?_
  refine vV_aload_n Cx 0 dX4_runAside_70 rfl rfl ?_
  refine vV_aload_n Cx 0 dX4_runAside_71 rfl rfl ?_
  refine vV_callVi Cx (KX4_waits hn h12n) (cwV 0 Cx.1.2.2.2.2 (uGV u3_154 u3_156 us_33 u1_7 u3_157) rfl rfl rfl hdX4_waits ⟨Nat.le_of_ble_eq_true rfl, Nat.le_of_ble_eq_true rfl⟩) 0 rfl rfl rfl rfl (Nat.le_of_ble_eq_true rfl) ⟨Nat.zero_le _, Nat.zero_le _⟩ dX4_runAside_72 ?_
  refine vU_put Cx hinX4 tyX4_ok nmX4 0 rfl rfl 18 (by decide) u3_5 rfl (by decide +kernel) (Nat.le_of_ble_eq_true rfl) dX4_runAside_75 np_triedWaits ?_
  refine vV_iconst (v := 0) Cx dX4_runAside_78 (by decide) ?_
  refine vV_istore_n Cx 2 dX4_runAside_79 rfl (by decide) ?_
  refine vV_ws (w1 := wN cI cZ ad E (m_tr E n np C) (m_as E n np C N)) (by rw [m_as]) ?_
  refine L80 85 0 _ (by omega) (by omega) ?_
  refine vV_aload_n Cx 0 dX4_runAside_104 rfl rfl ?_
  refine vV_iload_n Cx 1 dX4_runAside_105 rfl rfl ?_
  refine vU_put Cx hinX4 tyX4_ok nmX4 0 rfl rfl 4 (by decide) u2_231 rfl (by decide +kernel) (Nat.le_of_ble_eq_true rfl) dX4_runAside_106 np_hour ?_
  refine vV_rng (q := 9) (nw C) rfl (fun j hj => by rw [nw_hour, m_back_nw _ 84 84 0 _ rfl, if_pos (by omega), m_as_0, m_cp_0 C N hj]) (ws' := wN cI cZ ad E C (m_as E n np C N)) (by unfold wN; rw [cS_same]; rfl) ?_
  exact vV_vret Cx hr hlk dX4_runAside_109 (by rfl)
abbrev rX4_tell : Room := { frames := 0, cells := 0, slots := 0, locals := 0 }
set_option maxRecDepth 100000 in
set_option maxHeartbeats 4000000 in
theorem KX4_tell {l : Launch} {D : va_G} {cI cZ : ClassId} {ad : Nat → Nat} {A : Nat → Prop} {E C N : mT} {q k : Nat} (hq : q < 2 ^ 31) (hk : k ≤ 3) : vKv l D (vtys cI cZ) A yX4_tell (uT yX4_tell cX4_tell 5 (none)) rX4_tell (wN cI cZ ad E (C) (N)) [.ref (ad 0), .int (nI k), .int (nI q)] (wN cI cZ ad (m_tell k q E) C N) := by
  refine vKv_of (cc := cX4_tell) (maxL := 5) (ret := none) (by decide) rfl rfl (Nat.le_of_ble_eq_true rfl) ?_
  intro p e s m below meth c Cx hr hlk
  have Lp : ∀ (fuel j r : Nat) (x : Int32) (Y : mT), j ≤ 3 → j < fuel → x = nI j - 1 → r < 2 ^ 31 → m_tell j r Y = m_tell k q E → vV D (vtys cI cZ) A 5 p l e rX4_tell s m ([.ref (ad 0), .int (nI k), .int (nI q)] : List Value).toArray below meth c 0 0 (MQ below (vQv D A (wN cI cZ ad (m_tell k q E) C N)) ([.ref (ad 0), .int (nI k), .int (nI q)] : List Value).toArray s 0 0 A) (wN cI cZ ad Y C N) [.ref (ad 0), .int (nI k), .int (nI q), .int (nI r), .int x] 7 [] := by
    intro fuel
    induction fuel with
    | zero => intro j r x Y _ h2; exact absurd h2 (Nat.not_lt_zero _)
    | succ fuel ih =>
      intro j r x Y h1 h2 hx hr2 h3
      refine vV_iload Cx dX4_tell_7 rfl ?_
      refine vV_if_lt (tgt := 36) Cx dX4_tell_9 (by decide) (fun h9 => ?_) (fun h9 => ?_)
      · obtain rfl := (vdn hx (by omega)).1 h9
        exact vV_vret Cx hr hlk dX4_tell_36 (by rw [← h3]; rfl)
      · obtain ⟨i, rfl, rfl⟩ := (vdn hx (by omega)).2 h9
        have hj : vix (nI i) 4 i := vix_nI (by omega) (by decide)
        rw [m_tell] at h3
        refine vV_aload_n Cx 0 dX4_tell_12 rfl rfl ?_
        refine vU_get Cx hinX4 0 rfl rfl 6 (by decide) u2_233 rfl dX4_tell_13 ?_
        refine vV_iload Cx dX4_tell_16 rfl ?_
        refine vV_iconst (v := 2) Cx dX4_tell_18 (by decide) ?_
        refine vV_iload_n Cx 3 dX4_tell_19 rfl rfl ?_
        refine vV_bipush (v := 6) Cx dX4_tell_20 (by decide) ?_
        refine vV_irem Cx dX4_tell_22 (by decide) ?_
        rw [vrem6 hr2]
        refine vV_imul Cx dX4_tell_23 ?_
        rw [v2mul]
        refine vV_iast Cx 4 0 rfl rfl (by assumption) dX4_tell_24 nk_start ?_
        refine vV_iload_n Cx 3 dX4_tell_25 rfl rfl ?_
        refine vV_bipush (v := 6) Cx dX4_tell_26 (by decide) ?_
        refine vV_idiv Cx dX4_tell_28 (by decide) ?_
        rw [vdiv6 hr2]
        refine vV_istore_n Cx 3 dX4_tell_29 rfl (by decide) ?_
        refine vV_iinc Cx dX4_tell_30 rfl rfl (by decide) ?_
        refine vV_goto (tgt := 7) Cx dX4_tell_33 (by decide) ?_
        exact ih i (r / 6) _ _ (by omega) (by omega) (vm1 i) (by omega) h3
  refine vV_iload_n Cx 2 dX4_tell_0 rfl rfl ?_
  refine vV_istore_n Cx 3 dX4_tell_1 rfl (by decide) ?_
  refine vV_iload_n Cx 1 dX4_tell_2 rfl rfl ?_
  refine vV_iconst (v := 1) Cx dX4_tell_3 (by decide) ?_
  refine vV_isub Cx dX4_tell_4 ?_
  refine vV_istore Cx dX4_tell_5 (by decide) ?_
  exact Lp 4 k q _ E (by omega) (by omega) rfl hq rfl
