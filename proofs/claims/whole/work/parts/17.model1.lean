/-! the reference: leaves -/
def m_lay (E : mT) (x : Int32) (i : Nat) (C : mT) : mT := cS (cS (cS (cS (cS (cS (cS C 0 i 0) 1 i 0) 2 i 0) 3 i (E 5 i)) 4 i (-1)) 5 i 0) 6 i x
def f_lev (s : Nat) (E : mT) : mT := cS (cS E 0 s 2) 1 s 1
def m_lev (E : mT) : mT := vlp f_lev 7 0 E
def m_beg (E : mT) (n : Nat) (C : mT) : mT := vlp (m_lay E 0) n 0 (cS C 9 0 0)
def m_ac (i : Nat) (C : mT) : Int32 := if C 2 i = 0 then 1 else 0
def m_wk (i : Nat) (C : mT) : Int32 := if C 3 i = 0 then 1 else 0
def m_po (i : Nat) (C : mT) : Int32 := if C 0 i = 2 then C 1 i - 1 else C 1 i
def m_mv (i : Nat) (C : mT) : mT := if C 2 i = 0 then C else if 0 < C 2 i - 1 then cS C 2 i (C 2 i - 1) else cS (cS (cS C 2 i (C 2 i - 1)) 1 i (if C 0 i = 2 then C 1 i - 1 else C 1 i + 1)) 6 i (C 9 0)
def m_late (E : mT) (i : Nat) (C : mT) : Int32 := if C 9 0 < E 7 (tm E i) then 0 else if C 9 0 < E 6 (tm E i) then 0 else 1
def m_d1 (E : mT) (i : Nat) (C : mT) : mT := if C 0 i < 2 then (if C 1 i = E 8 0 then cS C 0 i 2 else if m_late E i C = 0 then (if C 3 i = 0 then cS C 0 i 2 else C) else cS C 0 i 2) else C
def m_d2 (i : Nat) (C : mT) : mT := if C 0 i = 2 ∧ C 1 i = 0 then cS C 0 i 3 else C
def m_dec (E : mT) (i : Nat) (C : mT) : mT := if C 0 i = 0 ∧ C 1 i = E 8 0 then (if C 4 i = -1 then cS (cS C 0 i 1) 4 i (C 9 0) else cS C 0 i 1) else m_d2 i (m_d1 E i C)
def m_wh (i : Nat) (C : mT) : Int32 := if C 2 i = 0 then C 1 i else m_po i C
def m_less (x : Int32) : Int32 := if 0 < x - 1 then x - 1 else 0
def m_br (E : mT) (i : Nat) (C : mT) : mT := if C 0 i = 3 then C else if m_wh i C < E 8 1 then C else if C 2 i = 0 ∧ m_less (C 3 i) = 0 ∧ C 0 i < 3 ∧ ¬ C 9 0 - C 6 i < 6 then cS (cS C 3 i (m_less (C 3 i))) 0 i 4 else cS C 3 i (m_less (C 3 i))
abbrev rX4_in : Room := { frames := 0, cells := 0, slots := 0, locals := 0 }
set_option maxRecDepth 100000 in
set_option maxHeartbeats 4000000 in
theorem KX4_in {l : Launch} {D : va_G} {cI cZ : ClassId} {ad : Nat → Nat} {A : Nat → Prop} (w : va_W) (v x y : Int32) : vKi l D (vtys cI cZ) A yX4_in (uT yX4_in cX4_in 3 (some .boolean)) rX4_in (w) [.int v, .int x, .int y] (isW v x y) (w) := by
  refine vKi_of (cc := cX4_in) (maxL := 3) (ret := some .boolean) (by decide) rfl rfl (Nat.le_of_ble_eq_true rfl) ?_
  intro p e s m below meth c Cx hr hlk
  refine vV_iload_n Cx 0 dX4_in_0 rfl rfl ?_
  refine vV_iload_n Cx 1 dX4_in_1 rfl rfl ?_
  refine vV_icmp_lt (tgt := 14) Cx dX4_in_2 (by decide) (fun h2 => ?_) (fun h2 => ?_)
  · refine vV_iconst (v := 0) Cx dX4_in_14 (by decide) ?_
    exact vV_zret Cx hr hlk dX4_in_15 (by first | rfl | decide) (by simp [-Int32.not_lt, isW, h2]) (by rfl)
  · refine vV_iload_n Cx 0 dX4_in_5 rfl rfl ?_
    refine vV_iload_n Cx 2 dX4_in_6 rfl rfl ?_
    refine vV_icmp_gt (tgt := 14) Cx dX4_in_7 (by decide) (fun h7 => ?_) (fun h7 => ?_)
    · refine vV_iconst (v := 0) Cx dX4_in_14 (by decide) ?_
      exact vV_zret Cx hr hlk dX4_in_15 (by first | rfl | decide) (by simp [-Int32.not_lt, isW, h2, h7]) (by rfl)
    · refine vV_iconst (v := 1) Cx dX4_in_10 (by decide) ?_
      refine vV_goto (tgt := 15) Cx dX4_in_11 (by decide) ?_
      exact vV_zret Cx hr hlk dX4_in_15 (by first | rfl | decide) (by simp [-Int32.not_lt, isW, h2, h7]) (by rfl)
abbrev rX4_get : Room := { frames := 0, cells := 0, slots := 0, locals := 0 }
set_option maxRecDepth 100000 in
set_option maxHeartbeats 4000000 in
theorem KX4_get {l : Launch} {D : va_G} {cI cZ : ClassId} {ad : Nat → Nat} {A : Nat → Prop} {E C N : mT} {x : Int32} {i : Nat} (hi : vix x 12 i) {y : Int32} {w : Nat} (hw : vix y 7 w) : vKi l D (vtys cI cZ) A yX4_get (uT yX4_get cX4_get 3 (some .int)) rX4_get (wN cI cZ ad E C N) [.ref (ad 0), .int x, .int y] (C w i) (wN cI cZ ad E C N) := by
  refine vKi_of (cc := cX4_get) (maxL := 3) (ret := some .int) (by decide) rfl rfl (Nat.le_of_ble_eq_true rfl) ?_
  intro p e s m below meth c Cx hr hlk
  refine vV_aload_n Cx 0 dX4_get_0 rfl rfl ?_
  refine vU_get Cx hinX4 0 rfl rfl 12 (by decide) u2_239 rfl dX4_get_1 ?_
  refine vV_bipush (v := 7) Cx dX4_get_4 (by decide) ?_
  refine vV_iload_n Cx 1 dX4_get_6 rfl rfl ?_
  refine vV_imul Cx dX4_get_7 ?_
  refine vV_iload_n Cx 2 dX4_get_8 rfl rfl ?_
  refine vV_iadd Cx dX4_get_9 ?_
  refine vV_iald Cx 9 0 rfl rfl (v7_84 hi hw) dX4_get_10 ?_
  exact vV_iret Cx hr hlk dX4_get_11 (by exact nw_at C (vix_w hw (by decide))) (by rfl)
abbrev rX4_put : Room := { frames := 0, cells := 0, slots := 0, locals := 0 }
set_option maxRecDepth 100000 in
set_option maxHeartbeats 4000000 in
theorem KX4_put {l : Launch} {D : va_G} {cI cZ : ClassId} {ad : Nat → Nat} {A : Nat → Prop} {E C N : mT} {x : Int32} {i : Nat} (hi : vix x 12 i) {y : Int32} {w : Nat} (hw : vix y 7 w) (v : Int32) : vKv l D (vtys cI cZ) A yX4_put (uT yX4_put cX4_put 4 (none)) rX4_put (wN cI cZ ad E C N) [.ref (ad 0), .int x, .int y, .int v] (wN cI cZ ad (E) (cS C w i v) (N)) := by
  refine vKv_of (cc := cX4_put) (maxL := 4) (ret := none) (by decide) rfl rfl (Nat.le_of_ble_eq_true rfl) ?_
  intro p e s m below meth c Cx hr hlk
  refine vV_aload_n Cx 0 dX4_put_0 rfl rfl ?_
  refine vU_get Cx hinX4 0 rfl rfl 12 (by decide) u2_239 rfl dX4_put_1 ?_
  refine vV_bipush (v := 7) Cx dX4_put_4 (by decide) ?_
  refine vV_iload_n Cx 1 dX4_put_6 rfl rfl ?_
  refine vV_imul Cx dX4_put_7 ?_
  refine vV_iload_n Cx 2 dX4_put_8 rfl rfl ?_
  refine vV_iadd Cx dX4_put_9 ?_
  refine vV_iload_n Cx 3 dX4_put_10 rfl rfl ?_
  refine vV_iast Cx 9 0 rfl rfl (v7_84 hi hw) dX4_put_11 (nk_now0 (vix_w hw (by decide))) ?_
  exact vV_vret Cx hr hlk dX4_put_12 (by rfl)
abbrev rX4_thrown : Room := { frames := 0, cells := 0, slots := 0, locals := 0 }
set_option maxRecDepth 100000 in
set_option maxHeartbeats 4000000 in
theorem KX4_thrown {l : Launch} {D : va_G} {cI cZ : ClassId} {ad : Nat → Nat} {A : Nat → Prop} {E C N : mT} : vKi l D (vtys cI cZ) A yX4_thrown (uT yX4_thrown cX4_thrown 1 (some .int)) rX4_thrown (wN cI cZ ad E C N) [.ref (ad 0)] (N 2 0) (wN cI cZ ad E C N) := by
  refine vKi_of (cc := cX4_thrown) (maxL := 1) (ret := some .int) (by decide) rfl rfl (Nat.le_of_ble_eq_true rfl) ?_
  intro p e s m below meth c Cx hr hlk
  refine vV_aload_n Cx 0 dX4_thrown_0 rfl rfl ?_
  refine vU_get Cx hinX4 0 rfl rfl 15 (by decide) u3_2 rfl dX4_thrown_1 ?_
  exact vV_iret Cx hr hlk dX4_thrown_4 (by rfl) (by rfl)
abbrev rX4_lay : Room := { frames := 1, cells := 0, slots := 0, locals := 23 }
set_option maxRecDepth 100000 in
set_option maxHeartbeats 4000000 in
theorem KX4_lay {l : Launch} {D : va_G} {cI cZ : ClassId} {ad : Nat → Nat} {A : Nat → Prop} {E C N : mT} {x : Int32} {i : Nat} (hi : vix x 12 i) (z : Int32) : vKv l D (vtys cI cZ) A yX4_lay (uT yX4_lay cX4_lay 3 (none)) rX4_lay (wN cI cZ ad E C N) [.ref (ad 0), .int x, .int z] (wN cI cZ ad (E) (m_lay E z i C) (N)) := by
  refine vKv_of (cc := cX4_lay) (maxL := 3) (ret := none) (by decide) rfl rfl (Nat.le_of_ble_eq_true rfl) ?_
  intro p e s m below meth c Cx hr hlk
  refine vV_aload_n Cx 0 dX4_lay_0 rfl rfl ?_
  refine vV_iload_n Cx 1 dX4_lay_1 rfl rfl ?_
  refine vV_iconst (v := 0) Cx dX4_lay_2 (by decide) ?_
  refine vV_iconst (v := 0) Cx dX4_lay_3 (by decide) ?_
  refine vV_callVv Cx (KX4_put hi v7_0 _) (cwV 3 Cx.1.2.2.2.2 (uGV u3_65 u3_67 us_19 u1_7 u3_68) rfl rfl rfl hdX4_put ⟨Nat.le_of_ble_eq_true rfl, Nat.le_of_ble_eq_true rfl⟩) 0 rfl rfl rfl rfl (Nat.le_of_ble_eq_true rfl) ⟨Nat.zero_le _, Nat.zero_le _⟩ dX4_lay_4 ?_
  refine vV_aload_n Cx 0 dX4_lay_7 rfl rfl ?_
  refine vV_iload_n Cx 1 dX4_lay_8 rfl rfl ?_
  refine vV_iconst (v := 1) Cx dX4_lay_9 (by decide) ?_
  refine vV_iconst (v := 0) Cx dX4_lay_10 (by decide) ?_
  refine vV_callVv Cx (KX4_put hi v7_1 _) (cwV 3 Cx.1.2.2.2.2 (uGV u3_65 u3_67 us_19 u1_7 u3_68) rfl rfl rfl hdX4_put ⟨Nat.le_of_ble_eq_true rfl, Nat.le_of_ble_eq_true rfl⟩) 0 rfl rfl rfl rfl (Nat.le_of_ble_eq_true rfl) ⟨Nat.zero_le _, Nat.zero_le _⟩ dX4_lay_11 ?_
  refine vV_aload_n Cx 0 dX4_lay_14 rfl rfl ?_
  refine vV_iload_n Cx 1 dX4_lay_15 rfl rfl ?_
  refine vV_iconst (v := 2) Cx dX4_lay_16 (by decide) ?_
  refine vV_iconst (v := 0) Cx dX4_lay_17 (by decide) ?_
  refine vV_callVv Cx (KX4_put hi v7_2 _) (cwV 3 Cx.1.2.2.2.2 (uGV u3_65 u3_67 us_19 u1_7 u3_68) rfl rfl rfl hdX4_put ⟨Nat.le_of_ble_eq_true rfl, Nat.le_of_ble_eq_true rfl⟩) 0 rfl rfl rfl rfl (Nat.le_of_ble_eq_true rfl) ⟨Nat.zero_le _, Nat.zero_le _⟩ dX4_lay_18 ?_
  refine vV_aload_n Cx 0 dX4_lay_21 rfl rfl ?_
  refine vV_iload_n Cx 1 dX4_lay_22 rfl rfl ?_
  refine vV_iconst (v := 3) Cx dX4_lay_23 (by decide) ?_
  refine vV_aload_n Cx 0 dX4_lay_24 rfl rfl ?_
  refine vU_get Cx hinX4 0 rfl rfl 11 (by decide) u2_238 rfl dX4_lay_25 ?_
  refine vV_iload_n Cx 1 dX4_lay_28 rfl rfl ?_
  refine vV_iald Cx 8 0 rfl rfl (by assumption) dX4_lay_29 ?_
  refine vV_callVv Cx (KX4_put hi v7_3 _) (cwV 3 Cx.1.2.2.2.2 (uGV u3_65 u3_67 us_19 u1_7 u3_68) rfl rfl rfl hdX4_put ⟨Nat.le_of_ble_eq_true rfl, Nat.le_of_ble_eq_true rfl⟩) 0 rfl rfl rfl rfl (Nat.le_of_ble_eq_true rfl) ⟨Nat.zero_le _, Nat.zero_le _⟩ dX4_lay_30 ?_
  refine vV_aload_n Cx 0 dX4_lay_33 rfl rfl ?_
  refine vV_iload_n Cx 1 dX4_lay_34 rfl rfl ?_
  refine vV_iconst (v := 4) Cx dX4_lay_35 (by decide) ?_
  refine vV_iconst (v := -1) Cx dX4_lay_36 (by decide) ?_
  refine vV_callVv Cx (KX4_put hi v7_4 _) (cwV 3 Cx.1.2.2.2.2 (uGV u3_65 u3_67 us_19 u1_7 u3_68) rfl rfl rfl hdX4_put ⟨Nat.le_of_ble_eq_true rfl, Nat.le_of_ble_eq_true rfl⟩) 0 rfl rfl rfl rfl (Nat.le_of_ble_eq_true rfl) ⟨Nat.zero_le _, Nat.zero_le _⟩ dX4_lay_37 ?_
  refine vV_aload_n Cx 0 dX4_lay_40 rfl rfl ?_
  refine vV_iload_n Cx 1 dX4_lay_41 rfl rfl ?_
  refine vV_iconst (v := 5) Cx dX4_lay_42 (by decide) ?_
  refine vV_iconst (v := 0) Cx dX4_lay_43 (by decide) ?_
  refine vV_callVv Cx (KX4_put hi v7_5 _) (cwV 3 Cx.1.2.2.2.2 (uGV u3_65 u3_67 us_19 u1_7 u3_68) rfl rfl rfl hdX4_put ⟨Nat.le_of_ble_eq_true rfl, Nat.le_of_ble_eq_true rfl⟩) 0 rfl rfl rfl rfl (Nat.le_of_ble_eq_true rfl) ⟨Nat.zero_le _, Nat.zero_le _⟩ dX4_lay_44 ?_
  refine vV_aload_n Cx 0 dX4_lay_47 rfl rfl ?_
  refine vV_iload_n Cx 1 dX4_lay_48 rfl rfl ?_
  refine vV_bipush (v := 6) Cx dX4_lay_49 (by decide) ?_
  refine vV_iload_n Cx 2 dX4_lay_51 rfl rfl ?_
  refine vV_callVv Cx (KX4_put hi v7_6 _) (cwV 3 Cx.1.2.2.2.2 (uGV u3_65 u3_67 us_19 u1_7 u3_68) rfl rfl rfl hdX4_put ⟨Nat.le_of_ble_eq_true rfl, Nat.le_of_ble_eq_true rfl⟩) 0 rfl rfl rfl rfl (Nat.le_of_ble_eq_true rfl) ⟨Nat.zero_le _, Nat.zero_le _⟩ dX4_lay_52 ?_
  exact vV_vret Cx hr hlk dX4_lay_55 (by rfl)
abbrev rX4_levelAll : Room := { frames := 0, cells := 0, slots := 0, locals := 0 }
set_option maxRecDepth 100000 in
set_option maxHeartbeats 4000000 in
theorem KX4_levelAll {l : Launch} {D : va_G} {cI cZ : ClassId} {ad : Nat → Nat} {A : Nat → Prop} {E C N : mT} : vKv l D (vtys cI cZ) A yX4_levelAll (uT yX4_levelAll cX4_levelAll 2 (none)) rX4_levelAll (wN cI cZ ad E C N) [.ref (ad 0)] (wN cI cZ ad (m_lev E) (C) (N)) := by
  refine vKv_of (cc := cX4_levelAll) (maxL := 2) (ret := none) (by decide) rfl rfl (Nat.le_of_ble_eq_true rfl) ?_
  intro p e s m below meth c Cx hr hlk
  have Lp : ∀ (fuel i : Nat) (Z : mT), i ≤ 7 → 7 - i < fuel → vlp f_lev 7 i Z = m_lev E → vV D (vtys cI cZ) A 2 p l e rX4_levelAll s m ([.ref (ad 0)] : List Value).toArray below meth c 0 0 (MQ below (vQv D A (wN cI cZ ad (m_lev E) (C) (N))) ([.ref (ad 0)] : List Value).toArray s 0 0 A) (wN cI cZ ad (Z) (C) (N)) [.ref (ad 0), .int (nI i)] 2 [] := by
    intro fuel
    induction fuel with
    | zero => intro i Z h1 h2; exact absurd h2 (Nat.not_lt_zero _)
    | succ fuel ih =>
      intro i Z h1 h2 h3
      refine vV_iload_n Cx 1 dX4_levelAll_2 rfl rfl ?_
      refine vV_bipush (v := 7) Cx dX4_levelAll_3 (by decide) ?_
      refine vV_icmp_ge (tgt := 28) Cx dX4_levelAll_5 (by decide) (fun h5 => ?_) (fun h5 => ?_)
      · have hin : i = 7 := vix_ge (n := 7) h5 (by decide) h1
        exact vV_vret Cx hr hlk dX4_levelAll_28 (by rw [hin, vlp_done (Nat.le_refl _)] at h3; rw [h3])
      · have hlt : i < 7 := vix_lt (n := 7) h5 (by decide) h1
        have hi : vix (nI i) 7 i := vix_nI (by omega) (by decide)
        refine vV_aload_n Cx 0 dX4_levelAll_8 rfl rfl ?_
        refine vU_get Cx hinX4 0 rfl rfl 1 (by decide) u2_228 rfl dX4_levelAll_9 ?_
        refine vV_iload_n Cx 1 dX4_levelAll_12 rfl rfl ?_
        refine vV_iconst (v := 2) Cx dX4_levelAll_13 (by decide) ?_
        refine vV_iast Cx 1 0 rfl rfl (by assumption) dX4_levelAll_14 nk_length ?_
        refine vV_aload_n Cx 0 dX4_levelAll_15 rfl rfl ?_
        refine vU_get Cx hinX4 0 rfl rfl 2 (by decide) u2_229 rfl dX4_levelAll_16 ?_
        refine vV_iload_n Cx 1 dX4_levelAll_19 rfl rfl ?_
        refine vV_iconst (v := 1) Cx dX4_levelAll_20 (by decide) ?_
        refine vV_iast Cx 2 0 rfl rfl (by assumption) dX4_levelAll_21 nk_width ?_
        refine vV_iinc Cx dX4_levelAll_22 rfl (vinc _) (by decide) ?_
        refine vV_goto (tgt := 2) Cx dX4_levelAll_25 (by decide) ?_
        exact ih (i + 1) _ (by omega) (by omega) ((vlp_step hlt).symm.trans h3)
  refine vV_iconst (v := 0) Cx dX4_levelAll_0 (by decide) ?_
  refine vV_istore_n Cx 1 dX4_levelAll_1 rfl (by decide) ?_
  exact Lp 8 0 _ (by omega) (by omega) rfl
abbrev rX4_beginAll : Room := { frames := 2, cells := 0, slots := 0, locals := 45 }
set_option maxRecDepth 100000 in
set_option maxHeartbeats 4000000 in
theorem KX4_beginAll {l : Launch} {D : va_G} {cI cZ : ClassId} {ad : Nat → Nat} {A : Nat → Prop} {E C N : mT} {n : Nat} (hn : E 8 2 = nI n) (h12n : n ≤ 12) : vKv l D (vtys cI cZ) A yX4_beginAll (uT yX4_beginAll cX4_beginAll 2 (none)) rX4_beginAll (wN cI cZ ad E C N) [.ref (ad 0)] (wN cI cZ ad (E) (m_beg E n C) (N)) := by
  refine vKv_of (cc := cX4_beginAll) (maxL := 2) (ret := none) (by decide) rfl rfl (Nat.le_of_ble_eq_true rfl) ?_
  intro p e s m below meth c Cx hr hlk
  have Lp : ∀ (fuel i : Nat) (Z : mT), i ≤ n → n - i < fuel → vV D (vtys cI cZ) A 2 p l e rX4_beginAll s m ([.ref (ad 0)] : List Value).toArray below meth c 0 0 (MQ below (vQv D A (wN cI cZ ad (E) (m_beg E n C) (N))) ([.ref (ad 0)] : List Value).toArray s 0 0 A) (wN cI cZ ad (E) (vlp (m_lay E 0) n i Z) (N)) [.ref (ad 0)] 27 [] → vV D (vtys cI cZ) A 2 p l e rX4_beginAll s m ([.ref (ad 0)] : List Value).toArray below meth c 0 0 (MQ below (vQv D A (wN cI cZ ad (E) (m_beg E n C) (N))) ([.ref (ad 0)] : List Value).toArray s 0 0 A) (wN cI cZ ad (E) (Z) (N)) [.ref (ad 0), .int (nI i)] 7 [] := by
    intro fuel
    induction fuel with
    | zero => intro i Z h1 h2; exact absurd h2 (Nat.not_lt_zero _)
    | succ fuel ih =>
      intro i Z h1 h2 h3
      refine vV_iload_n Cx 1 dX4_beginAll_7 rfl rfl ?_
      refine vV_aload_n Cx 0 dX4_beginAll_8 rfl rfl ?_
      refine vU_get Cx hinX4 0 rfl rfl 8 (by decide) u2_235 rfl dX4_beginAll_9 ?_
      refine vV_icmp_ge (tgt := 27) Cx dX4_beginAll_12 (by decide) (fun h12 => ?_) (fun h12 => ?_)
      · rw [hn] at h12
        have hin := vix_ge h12 (by omega) h1
        refine vV_take 1 rfl ?_
        rw [hin, vlp_done (Nat.le_refl _)] at h3
        exact h3
      · rw [hn] at h12
        have hlt := vix_lt h12 (by omega) h1
        have hi : vix (nI i) 12 i := vix_nI (by omega) (by decide)
        refine vV_aload_n Cx 0 dX4_beginAll_15 rfl rfl ?_
        refine vV_iload_n Cx 1 dX4_beginAll_16 rfl rfl ?_
        refine vV_iconst (v := 0) Cx dX4_beginAll_17 (by decide) ?_
        refine vV_callVv Cx (KX4_lay hi 0) (cwV 2 Cx.1.2.2.2.2 (uGV u3_61 u3_63 us_18 u1_7 u3_64) rfl rfl rfl hdX4_lay ⟨Nat.le_of_ble_eq_true rfl, Nat.le_of_ble_eq_true rfl⟩) 0 rfl rfl rfl rfl (Nat.le_of_ble_eq_true rfl) ⟨Nat.zero_le _, Nat.zero_le _⟩ dX4_beginAll_18 ?_
        refine vV_iinc Cx dX4_beginAll_21 rfl (vinc _) (by decide) ?_
        refine vV_goto (tgt := 7) Cx dX4_beginAll_24 (by decide) ?_
        refine vV_take 2 rfl ?_
        exact ih (i + 1) _ (by omega) (by omega) (vV_wN ((vlp_step hlt).trans (congrArg (vlp _ n (i + 1)) (by first | rfl | (clear Cx hr hlk; simp_all [-Int32.not_lt, -Int32.not_le])))) h3)
  refine vV_aload_n Cx 0 dX4_beginAll_0 rfl rfl ?_
  refine vV_iconst (v := 0) Cx dX4_beginAll_1 (by decide) ?_
  refine vU_put Cx hinX4 tyX4_ok nmX4 0 rfl rfl 4 (by decide) u2_231 rfl (by decide +kernel) (Nat.le_of_ble_eq_true rfl) dX4_beginAll_2 np_hour ?_
  refine vV_iconst (v := 0) Cx dX4_beginAll_5 (by decide) ?_
  refine vV_istore_n Cx 1 dX4_beginAll_6 rfl (by decide) ?_
  refine Lp (n + 1) 0 _ (by omega) (by omega) ?_
  exact vV_vret Cx hr hlk dX4_beginAll_27 (by rfl)
abbrev rX4_isPitch : Room := { frames := 1, cells := 0, slots := 0, locals := 22 }
set_option maxRecDepth 100000 in
set_option maxHeartbeats 4000000 in
theorem KX4_isPitch {l : Launch} {D : va_G} {cI cZ : ClassId} {ad : Nat → Nat} {A : Nat → Prop} {E C N : mT} (v : Int32) : vKi l D (vtys cI cZ) A yX4_isPitch (uT yX4_isPitch cX4_isPitch 2 (some .boolean)) rX4_isPitch (wN cI cZ ad E C N) [.ref (ad 0), .int v] (isW v 0 (E 8 0 - 1)) (wN cI cZ ad E C N) := by
  refine vKi_of (cc := cX4_isPitch) (maxL := 2) (ret := some .boolean) (by decide) rfl rfl (Nat.le_of_ble_eq_true rfl) ?_
  intro p e s m below meth c Cx hr hlk
  refine vV_iload_n Cx 1 dX4_isPitch_0 rfl rfl ?_
  refine vV_iconst (v := 0) Cx dX4_isPitch_1 (by decide) ?_
  refine vV_aload_n Cx 0 dX4_isPitch_2 rfl rfl ?_
  refine vU_get Cx hinX4 0 rfl rfl 0 (by decide) u2_227 rfl dX4_isPitch_3 ?_
  refine vV_iconst (v := 1) Cx dX4_isPitch_6 (by decide) ?_
  refine vV_isub Cx dX4_isPitch_7 ?_
  refine vV_callSi Cx (KX4_in (ad := ad) _ _ _ _) (cwS 3 Cx.1.2.2.2.2 (uGS u3_53 u3_54 u1_7 u3_55) rfl rfl rfl hdX4_in ⟨Nat.le_of_ble_eq_true rfl, Nat.le_of_ble_eq_true rfl⟩) rfl rfl (Nat.le_of_ble_eq_true rfl) ⟨Nat.zero_le _, Nat.zero_le _⟩ dX4_isPitch_8 ?_
  exact vV_zret Cx hr hlk dX4_isPitch_11 (by exact isW_n _ _ _) (by rfl) (by rfl)
abbrev rX4_isAtCamp : Room := { frames := 1, cells := 0, slots := 0, locals := 22 }
set_option maxRecDepth 100000 in
set_option maxHeartbeats 4000000 in
theorem KX4_isAtCamp {l : Launch} {D : va_G} {cI cZ : ClassId} {ad : Nat → Nat} {A : Nat → Prop} {E C N : mT} {x : Int32} {i : Nat} (hi : vix x 12 i) : vKi l D (vtys cI cZ) A yX4_isAtCamp (uT yX4_isAtCamp cX4_isAtCamp 2 (some .boolean)) rX4_isAtCamp (wN cI cZ ad E C N) [.ref (ad 0), .int x] (m_ac i C) (wN cI cZ ad E C N) := by
  refine vKi_of (cc := cX4_isAtCamp) (maxL := 2) (ret := some .boolean) (by decide) rfl rfl (Nat.le_of_ble_eq_true rfl) ?_
  intro p e s m below meth c Cx hr hlk
  refine vV_aload_n Cx 0 dX4_isAtCamp_0 rfl rfl ?_
  refine vV_iload_n Cx 1 dX4_isAtCamp_1 rfl rfl ?_
  refine vV_iconst (v := 2) Cx dX4_isAtCamp_2 (by decide) ?_
  refine vV_callVi Cx (KX4_get hi v7_2) (cwV 2 Cx.1.2.2.2.2 (uGV u3_113 u3_115 us_24 u1_7 u3_116) rfl rfl rfl hdX4_get ⟨Nat.le_of_ble_eq_true rfl, Nat.le_of_ble_eq_true rfl⟩) 0 rfl rfl rfl rfl (Nat.le_of_ble_eq_true rfl) ⟨Nat.zero_le _, Nat.zero_le _⟩ dX4_isAtCamp_3 ?_
  refine vV_if_ne (tgt := 13) Cx dX4_isAtCamp_6 (by decide) (fun h6 => ?_) (fun h6 => ?_)
  · refine vV_iconst (v := 0) Cx dX4_isAtCamp_13 (by decide) ?_
    exact vV_zret Cx hr hlk dX4_isAtCamp_14 (by first | rfl | decide) (by first | rfl | (clear Cx hr hlk; simp_all [-Int32.not_lt, -Int32.not_le, m_ac])) (by rfl)
  · refine vV_iconst (v := 1) Cx dX4_isAtCamp_9 (by decide) ?_
    refine vV_goto (tgt := 14) Cx dX4_isAtCamp_10 (by decide) ?_
    exact vV_zret Cx hr hlk dX4_isAtCamp_14 (by first | rfl | decide) (by first | rfl | (clear Cx hr hlk; simp_all [-Int32.not_lt, -Int32.not_le, m_ac])) (by rfl)
abbrev rX4_isWeak : Room := { frames := 1, cells := 0, slots := 0, locals := 22 }
set_option maxRecDepth 100000 in
set_option maxHeartbeats 4000000 in
theorem KX4_isWeak {l : Launch} {D : va_G} {cI cZ : ClassId} {ad : Nat → Nat} {A : Nat → Prop} {E C N : mT} {x : Int32} {i : Nat} (hi : vix x 12 i) : vKi l D (vtys cI cZ) A yX4_isWeak (uT yX4_isWeak cX4_isWeak 2 (some .boolean)) rX4_isWeak (wN cI cZ ad E C N) [.ref (ad 0), .int x] (m_wk i C) (wN cI cZ ad E C N) := by
  refine vKi_of (cc := cX4_isWeak) (maxL := 2) (ret := some .boolean) (by decide) rfl rfl (Nat.le_of_ble_eq_true rfl) ?_
  intro p e s m below meth c Cx hr hlk
  refine vV_aload_n Cx 0 dX4_isWeak_0 rfl rfl ?_
  refine vV_iload_n Cx 1 dX4_isWeak_1 rfl rfl ?_
  refine vV_iconst (v := 3) Cx dX4_isWeak_2 (by decide) ?_
  refine vV_callVi Cx (KX4_get hi v7_3) (cwV 2 Cx.1.2.2.2.2 (uGV u3_113 u3_115 us_24 u1_7 u3_116) rfl rfl rfl hdX4_get ⟨Nat.le_of_ble_eq_true rfl, Nat.le_of_ble_eq_true rfl⟩) 0 rfl rfl rfl rfl (Nat.le_of_ble_eq_true rfl) ⟨Nat.zero_le _, Nat.zero_le _⟩ dX4_isWeak_3 ?_
  refine vV_if_ne (tgt := 13) Cx dX4_isWeak_6 (by decide) (fun h6 => ?_) (fun h6 => ?_)
  · refine vV_iconst (v := 0) Cx dX4_isWeak_13 (by decide) ?_
    exact vV_zret Cx hr hlk dX4_isWeak_14 (by first | rfl | decide) (by first | rfl | (clear Cx hr hlk; simp_all [-Int32.not_lt, -Int32.not_le, m_wk])) (by rfl)
  · refine vV_iconst (v := 1) Cx dX4_isWeak_9 (by decide) ?_
    refine vV_goto (tgt := 14) Cx dX4_isWeak_10 (by decide) ?_
    exact vV_zret Cx hr hlk dX4_isWeak_14 (by first | rfl | decide) (by first | rfl | (clear Cx hr hlk; simp_all [-Int32.not_lt, -Int32.not_le, m_wk])) (by rfl)
abbrev rX4_pitchOf : Room := { frames := 1, cells := 0, slots := 0, locals := 22 }
set_option maxRecDepth 100000 in
set_option maxHeartbeats 4000000 in
theorem KX4_pitchOf {l : Launch} {D : va_G} {cI cZ : ClassId} {ad : Nat → Nat} {A : Nat → Prop} {E C N : mT} {x : Int32} {i : Nat} (hi : vix x 12 i) : vKi l D (vtys cI cZ) A yX4_pitchOf (uT yX4_pitchOf cX4_pitchOf 2 (some .int)) rX4_pitchOf (wN cI cZ ad E C N) [.ref (ad 0), .int x] (m_po i C) (wN cI cZ ad E C N) := by
  refine vKi_of (cc := cX4_pitchOf) (maxL := 2) (ret := some .int) (by decide) rfl rfl (Nat.le_of_ble_eq_true rfl) ?_
  intro p e s m below meth c Cx hr hlk
  refine vV_aload_n Cx 0 dX4_pitchOf_0 rfl rfl ?_
  refine vV_iload_n Cx 1 dX4_pitchOf_1 rfl rfl ?_
  refine vV_iconst (v := 0) Cx dX4_pitchOf_2 (by decide) ?_
  refine vV_callVi Cx (KX4_get hi v7_0) (cwV 2 Cx.1.2.2.2.2 (uGV u3_113 u3_115 us_24 u1_7 u3_116) rfl rfl rfl hdX4_get ⟨Nat.le_of_ble_eq_true rfl, Nat.le_of_ble_eq_true rfl⟩) 0 rfl rfl rfl rfl (Nat.le_of_ble_eq_true rfl) ⟨Nat.zero_le _, Nat.zero_le _⟩ dX4_pitchOf_3 ?_
  refine vV_iconst (v := 2) Cx dX4_pitchOf_6 (by decide) ?_
  refine vV_icmp_ne (tgt := 21) Cx dX4_pitchOf_7 (by decide) (fun h7 => ?_) (fun h7 => ?_)
  · refine vV_aload_n Cx 0 dX4_pitchOf_21 rfl rfl ?_
    refine vV_iload_n Cx 1 dX4_pitchOf_22 rfl rfl ?_
    refine vV_iconst (v := 1) Cx dX4_pitchOf_23 (by decide) ?_
    refine vV_callVi Cx (KX4_get hi v7_1) (cwV 2 Cx.1.2.2.2.2 (uGV u3_113 u3_115 us_24 u1_7 u3_116) rfl rfl rfl hdX4_get ⟨Nat.le_of_ble_eq_true rfl, Nat.le_of_ble_eq_true rfl⟩) 0 rfl rfl rfl rfl (Nat.le_of_ble_eq_true rfl) ⟨Nat.zero_le _, Nat.zero_le _⟩ dX4_pitchOf_24 ?_
    exact vV_iret Cx hr hlk dX4_pitchOf_27 (by first | rfl | (clear Cx hr hlk; simp_all [-Int32.not_lt, -Int32.not_le, m_po])) (by rfl)
  · refine vV_aload_n Cx 0 dX4_pitchOf_10 rfl rfl ?_
    refine vV_iload_n Cx 1 dX4_pitchOf_11 rfl rfl ?_
    refine vV_iconst (v := 1) Cx dX4_pitchOf_12 (by decide) ?_
    refine vV_callVi Cx (KX4_get hi v7_1) (cwV 2 Cx.1.2.2.2.2 (uGV u3_113 u3_115 us_24 u1_7 u3_116) rfl rfl rfl hdX4_get ⟨Nat.le_of_ble_eq_true rfl, Nat.le_of_ble_eq_true rfl⟩) 0 rfl rfl rfl rfl (Nat.le_of_ble_eq_true rfl) ⟨Nat.zero_le _, Nat.zero_le _⟩ dX4_pitchOf_13 ?_
    refine vV_iconst (v := 1) Cx dX4_pitchOf_16 (by decide) ?_
    refine vV_isub Cx dX4_pitchOf_17 ?_
    refine vV_goto (tgt := 27) Cx dX4_pitchOf_18 (by decide) ?_
    exact vV_iret Cx hr hlk dX4_pitchOf_27 (by first | rfl | (clear Cx hr hlk; simp_all [-Int32.not_lt, -Int32.not_le, m_po])) (by rfl)
abbrev rX4_move : Room := { frames := 2, cells := 0, slots := 0, locals := 43 }
set_option maxRecDepth 100000 in
set_option maxHeartbeats 4000000 in
theorem KX4_move {l : Launch} {D : va_G} {cI cZ : ClassId} {ad : Nat → Nat} {A : Nat → Prop} {E C N : mT} {n : Nat} (hn : E 8 2 = nI n) (h12n : n ≤ 12) : vKv l D (vtys cI cZ) A yX4_move (uT yX4_move cX4_move 2 (none)) rX4_move (wN cI cZ ad E C N) [.ref (ad 0)] (wN cI cZ ad (E) (vlp m_mv n 0 C) (N)) := by
  refine vKv_of (cc := cX4_move) (maxL := 2) (ret := none) (by decide) rfl rfl (Nat.le_of_ble_eq_true rfl) ?_
  intro p e s m below meth c Cx hr hlk
  have Lp : ∀ (fuel i : Nat) (Z : mT), i ≤ n → n - i < fuel → vV D (vtys cI cZ) A 2 p l e rX4_move s m ([.ref (ad 0)] : List Value).toArray below meth c 0 0 (MQ below (vQv D A (wN cI cZ ad (E) (vlp m_mv n 0 C) (N))) ([.ref (ad 0)] : List Value).toArray s 0 0 A) (wN cI cZ ad (E) (vlp (m_mv) n i Z) (N)) [.ref (ad 0)] 99 [] → vV D (vtys cI cZ) A 2 p l e rX4_move s m ([.ref (ad 0)] : List Value).toArray below meth c 0 0 (MQ below (vQv D A (wN cI cZ ad (E) (vlp m_mv n 0 C) (N))) ([.ref (ad 0)] : List Value).toArray s 0 0 A) (wN cI cZ ad (E) (Z) (N)) [.ref (ad 0), .int (nI i)] 2 [] := by
    intro fuel
    induction fuel with
    | zero => intro i Z h1 h2; exact absurd h2 (Nat.not_lt_zero _)
    | succ fuel ih =>
      intro i Z h1 h2 h3
      refine vV_iload_n Cx 1 dX4_move_2 rfl rfl ?_
      refine vV_aload_n Cx 0 dX4_move_3 rfl rfl ?_
      refine vU_get Cx hinX4 0 rfl rfl 8 (by decide) u2_235 rfl dX4_move_4 ?_
      refine vV_icmp_ge (tgt := 99) Cx dX4_move_7 (by decide) (fun h7 => ?_) (fun h7 => ?_)
      · rw [hn] at h7
        have hin := vix_ge h7 (by omega) h1
        refine vV_take 1 rfl ?_
        rw [hin, vlp_done (Nat.le_refl _)] at h3
        exact h3
      · rw [hn] at h7
        have hlt := vix_lt h7 (by omega) h1
        have hi : vix (nI i) 12 i := vix_nI (by omega) (by decide)
        refine vV_aload_n Cx 0 dX4_move_10 rfl rfl ?_
        refine vV_iload_n Cx 1 dX4_move_11 rfl rfl ?_
        refine vV_callVi Cx (KX4_isAtCamp hi) (cwV 1 Cx.1.2.2.2.2 (uGV u3_109 u3_111 us_23 u1_7 u3_112) rfl rfl rfl hdX4_isAtCamp ⟨Nat.le_of_ble_eq_true rfl, Nat.le_of_ble_eq_true rfl⟩) 0 rfl rfl rfl rfl (Nat.le_of_ble_eq_true rfl) ⟨Nat.zero_le _, Nat.zero_le _⟩ dX4_move_12 ?_
        refine vV_if_eq (tgt := 21) Cx dX4_move_15 (by decide) (fun h15 => ?_) (fun h15 => ?_)
        · refine vV_aload_n Cx 0 dX4_move_21 rfl rfl ?_
          refine vV_iload_n Cx 1 dX4_move_22 rfl rfl ?_
          refine vV_iconst (v := 2) Cx dX4_move_23 (by decide) ?_
          refine vV_aload_n Cx 0 dX4_move_24 rfl rfl ?_
          refine vV_iload_n Cx 1 dX4_move_25 rfl rfl ?_
          refine vV_iconst (v := 2) Cx dX4_move_26 (by decide) ?_
          refine vV_callVi Cx (KX4_get hi v7_2) (cwV 2 Cx.1.2.2.2.2 (uGV u3_113 u3_115 us_24 u1_7 u3_116) rfl rfl rfl hdX4_get ⟨Nat.le_of_ble_eq_true rfl, Nat.le_of_ble_eq_true rfl⟩) 0 rfl rfl rfl rfl (Nat.le_of_ble_eq_true rfl) ⟨Nat.zero_le _, Nat.zero_le _⟩ dX4_move_27 ?_
          refine vV_iconst (v := 1) Cx dX4_move_30 (by decide) ?_
          refine vV_isub Cx dX4_move_31 ?_
          refine vV_callVv Cx (KX4_put hi v7_2 _) (cwV 3 Cx.1.2.2.2.2 (uGV u3_65 u3_67 us_19 u1_7 u3_68) rfl rfl rfl hdX4_put ⟨Nat.le_of_ble_eq_true rfl, Nat.le_of_ble_eq_true rfl⟩) 0 rfl rfl rfl rfl (Nat.le_of_ble_eq_true rfl) ⟨Nat.zero_le _, Nat.zero_le _⟩ dX4_move_32 ?_
          refine vV_aload_n Cx 0 dX4_move_35 rfl rfl ?_
          refine vV_iload_n Cx 1 dX4_move_36 rfl rfl ?_
          refine vV_iconst (v := 2) Cx dX4_move_37 (by decide) ?_
          refine vV_callVi Cx (KX4_get hi v7_2) (cwV 2 Cx.1.2.2.2.2 (uGV u3_113 u3_115 us_24 u1_7 u3_116) rfl rfl rfl hdX4_get ⟨Nat.le_of_ble_eq_true rfl, Nat.le_of_ble_eq_true rfl⟩) 0 rfl rfl rfl rfl (Nat.le_of_ble_eq_true rfl) ⟨Nat.zero_le _, Nat.zero_le _⟩ dX4_move_38 ?_
          refine vV_if_le (tgt := 47) Cx dX4_move_41 (by decide) (fun h41 => ?_) (fun h41 => ?_)
          · refine vV_aload_n Cx 0 dX4_move_47 rfl rfl ?_
            refine vV_iload_n Cx 1 dX4_move_48 rfl rfl ?_
            refine vV_iconst (v := 1) Cx dX4_move_49 (by decide) ?_
            refine vV_aload_n Cx 0 dX4_move_50 rfl rfl ?_
            refine vV_iload_n Cx 1 dX4_move_51 rfl rfl ?_
            refine vV_iconst (v := 0) Cx dX4_move_52 (by decide) ?_
            refine vV_callVi Cx (KX4_get hi v7_0) (cwV 2 Cx.1.2.2.2.2 (uGV u3_113 u3_115 us_24 u1_7 u3_116) rfl rfl rfl hdX4_get ⟨Nat.le_of_ble_eq_true rfl, Nat.le_of_ble_eq_true rfl⟩) 0 rfl rfl rfl rfl (Nat.le_of_ble_eq_true rfl) ⟨Nat.zero_le _, Nat.zero_le _⟩ dX4_move_53 ?_
            refine vV_iconst (v := 2) Cx dX4_move_56 (by decide) ?_
            refine vV_icmp_ne (tgt := 71) Cx dX4_move_57 (by decide) (fun h57 => ?_) (fun h57 => ?_)
            · refine vV_aload_n Cx 0 dX4_move_71 rfl rfl ?_
              refine vV_iload_n Cx 1 dX4_move_72 rfl rfl ?_
              refine vV_iconst (v := 1) Cx dX4_move_73 (by decide) ?_
              refine vV_callVi Cx (KX4_get hi v7_1) (cwV 2 Cx.1.2.2.2.2 (uGV u3_113 u3_115 us_24 u1_7 u3_116) rfl rfl rfl hdX4_get ⟨Nat.le_of_ble_eq_true rfl, Nat.le_of_ble_eq_true rfl⟩) 0 rfl rfl rfl rfl (Nat.le_of_ble_eq_true rfl) ⟨Nat.zero_le _, Nat.zero_le _⟩ dX4_move_74 ?_
              refine vV_iconst (v := 1) Cx dX4_move_77 (by decide) ?_
              refine vV_iadd Cx dX4_move_78 ?_
              refine vV_callVv Cx (KX4_put hi v7_1 _) (cwV 3 Cx.1.2.2.2.2 (uGV u3_65 u3_67 us_19 u1_7 u3_68) rfl rfl rfl hdX4_put ⟨Nat.le_of_ble_eq_true rfl, Nat.le_of_ble_eq_true rfl⟩) 0 rfl rfl rfl rfl (Nat.le_of_ble_eq_true rfl) ⟨Nat.zero_le _, Nat.zero_le _⟩ dX4_move_79 ?_
              refine vV_aload_n Cx 0 dX4_move_82 rfl rfl ?_
              refine vV_iload_n Cx 1 dX4_move_83 rfl rfl ?_
              refine vV_bipush (v := 6) Cx dX4_move_84 (by decide) ?_
              refine vV_aload_n Cx 0 dX4_move_86 rfl rfl ?_
              refine vU_get Cx hinX4 0 rfl rfl 4 (by decide) u2_231 rfl dX4_move_87 ?_
              refine vV_callVv Cx (KX4_put hi v7_6 _) (cwV 3 Cx.1.2.2.2.2 (uGV u3_65 u3_67 us_19 u1_7 u3_68) rfl rfl rfl hdX4_put ⟨Nat.le_of_ble_eq_true rfl, Nat.le_of_ble_eq_true rfl⟩) 0 rfl rfl rfl rfl (Nat.le_of_ble_eq_true rfl) ⟨Nat.zero_le _, Nat.zero_le _⟩ dX4_move_90 ?_
              refine vV_iinc Cx dX4_move_93 rfl (vinc _) (by decide) ?_
              refine vV_goto (tgt := 2) Cx dX4_move_96 (by decide) ?_
              refine vV_take 2 rfl ?_
              exact ih (i + 1) _ (by omega) (by omega) (vV_wN ((vlp_step hlt).trans (congrArg (vlp _ n (i + 1)) (by first | rfl | (clear Cx hr hlk; simp_all [-Int32.not_lt, -Int32.not_le, m_mv, m_ac, cS_same, cS_ne])))) h3)
            · refine vV_aload_n Cx 0 dX4_move_60 rfl rfl ?_
              refine vV_iload_n Cx 1 dX4_move_61 rfl rfl ?_
              refine vV_iconst (v := 1) Cx dX4_move_62 (by decide) ?_
              refine vV_callVi Cx (KX4_get hi v7_1) (cwV 2 Cx.1.2.2.2.2 (uGV u3_113 u3_115 us_24 u1_7 u3_116) rfl rfl rfl hdX4_get ⟨Nat.le_of_ble_eq_true rfl, Nat.le_of_ble_eq_true rfl⟩) 0 rfl rfl rfl rfl (Nat.le_of_ble_eq_true rfl) ⟨Nat.zero_le _, Nat.zero_le _⟩ dX4_move_63 ?_
              refine vV_iconst (v := 1) Cx dX4_move_66 (by decide) ?_
              refine vV_isub Cx dX4_move_67 ?_
              refine vV_goto (tgt := 79) Cx dX4_move_68 (by decide) ?_
              refine vV_callVv Cx (KX4_put hi v7_1 _) (cwV 3 Cx.1.2.2.2.2 (uGV u3_65 u3_67 us_19 u1_7 u3_68) rfl rfl rfl hdX4_put ⟨Nat.le_of_ble_eq_true rfl, Nat.le_of_ble_eq_true rfl⟩) 0 rfl rfl rfl rfl (Nat.le_of_ble_eq_true rfl) ⟨Nat.zero_le _, Nat.zero_le _⟩ dX4_move_79 ?_
              refine vV_aload_n Cx 0 dX4_move_82 rfl rfl ?_
              refine vV_iload_n Cx 1 dX4_move_83 rfl rfl ?_
              refine vV_bipush (v := 6) Cx dX4_move_84 (by decide) ?_
              refine vV_aload_n Cx 0 dX4_move_86 rfl rfl ?_
              refine vU_get Cx hinX4 0 rfl rfl 4 (by decide) u2_231 rfl dX4_move_87 ?_
              refine vV_callVv Cx (KX4_put hi v7_6 _) (cwV 3 Cx.1.2.2.2.2 (uGV u3_65 u3_67 us_19 u1_7 u3_68) rfl rfl rfl hdX4_put ⟨Nat.le_of_ble_eq_true rfl, Nat.le_of_ble_eq_true rfl⟩) 0 rfl rfl rfl rfl (Nat.le_of_ble_eq_true rfl) ⟨Nat.zero_le _, Nat.zero_le _⟩ dX4_move_90 ?_
              refine vV_iinc Cx dX4_move_93 rfl (vinc _) (by decide) ?_
              refine vV_goto (tgt := 2) Cx dX4_move_96 (by decide) ?_
              refine vV_take 2 rfl ?_
              exact ih (i + 1) _ (by omega) (by omega) (vV_wN ((vlp_step hlt).trans (congrArg (vlp _ n (i + 1)) (by first | rfl | (clear Cx hr hlk; simp_all [-Int32.not_lt, -Int32.not_le, m_mv, m_ac, cS_same, cS_ne])))) h3)
          · refine vV_goto (tgt := 93) Cx dX4_move_44 (by decide) ?_
            refine vV_iinc Cx dX4_move_93 rfl (vinc _) (by decide) ?_
            refine vV_goto (tgt := 2) Cx dX4_move_96 (by decide) ?_
            refine vV_take 2 rfl ?_
            exact ih (i + 1) _ (by omega) (by omega) (vV_wN ((vlp_step hlt).trans (congrArg (vlp _ n (i + 1)) (by first | rfl | (clear Cx hr hlk; simp_all [-Int32.not_lt, -Int32.not_le, m_mv, m_ac, cS_same, cS_ne])))) h3)
        · refine vV_goto (tgt := 93) Cx dX4_move_18 (by decide) ?_
          refine vV_iinc Cx dX4_move_93 rfl (vinc _) (by decide) ?_
          refine vV_goto (tgt := 2) Cx dX4_move_96 (by decide) ?_
          refine vV_take 2 rfl ?_
          exact ih (i + 1) _ (by omega) (by omega) (vV_wN ((vlp_step hlt).trans (congrArg (vlp _ n (i + 1)) (by first | rfl | (clear Cx hr hlk; simp_all [-Int32.not_lt, -Int32.not_le, m_mv, m_ac, cS_same, cS_ne])))) h3)
  refine vV_iconst (v := 0) Cx dX4_move_0 (by decide) ?_
  refine vV_istore_n Cx 1 dX4_move_1 rfl (by decide) ?_
  refine Lp (n + 1) 0 _ (by omega) (by omega) ?_
  exact vV_vret Cx hr hlk dX4_move_99 (by rfl)
abbrev rX4_decide : Room := { frames := 2, cells := 0, slots := 0, locals := 43 }
set_option maxRecDepth 100000 in
set_option maxHeartbeats 4000000 in
theorem KX4_decide {l : Launch} {D : va_G} {cI cZ : ClassId} {ad : Nat → Nat} {A : Nat → Prop} {E C N : mT} {x : Int32} {i : Nat} (hi : vix x 12 i) (ht : vix (E 3 i) 4 (tm E i)) : vKv l D (vtys cI cZ) A yX4_decide (uT yX4_decide cX4_decide 4 (none)) rX4_decide (wN cI cZ ad E C N) [.ref (ad 0), .int x] (wN cI cZ ad (E) (m_dec E i C) (N)) := by
  refine vKv_of (cc := cX4_decide) (maxL := 4) (ret := none) (by decide) rfl rfl (Nat.le_of_ble_eq_true rfl) ?_
  intro p e s m below meth c Cx hr hlk
  refine vV_aload_n Cx 0 dX4_decide_0 rfl rfl ?_
  refine vV_iload_n Cx 1 dX4_decide_1 rfl rfl ?_
  refine vV_iconst (v := 1) Cx dX4_decide_2 (by decide) ?_
  refine vV_callVi Cx (KX4_get hi v7_1) (cwV 2 Cx.1.2.2.2.2 (uGV u3_113 u3_115 us_24 u1_7 u3_116) rfl rfl rfl hdX4_get ⟨Nat.le_of_ble_eq_true rfl, Nat.le_of_ble_eq_true rfl⟩) 0 rfl rfl rfl rfl (Nat.le_of_ble_eq_true rfl) ⟨Nat.zero_le _, Nat.zero_le _⟩ dX4_decide_3 ?_
  refine vV_aload_n Cx 0 dX4_decide_6 rfl rfl ?_
  refine vU_get Cx hinX4 0 rfl rfl 0 (by decide) u2_227 rfl dX4_decide_7 ?_
  refine vV_icmp_ne (tgt := 17) Cx dX4_decide_10 (by decide) (fun h10 => ?_) (fun h10 => ?_)
  · refine vV_iconst (v := 0) Cx dX4_decide_17 (by decide) ?_
    refine vV_istore_n Cx 2 dX4_decide_18 rfl (by decide) ?_
    refine vV_aload_n Cx 0 dX4_decide_19 rfl rfl ?_
    refine vV_iload_n Cx 1 dX4_decide_20 rfl rfl ?_
    refine vV_iconst (v := 0) Cx dX4_decide_21 (by decide) ?_
    refine vV_callVi Cx (KX4_get hi v7_0) (cwV 2 Cx.1.2.2.2.2 (uGV u3_113 u3_115 us_24 u1_7 u3_116) rfl rfl rfl hdX4_get ⟨Nat.le_of_ble_eq_true rfl, Nat.le_of_ble_eq_true rfl⟩) 0 rfl rfl rfl rfl (Nat.le_of_ble_eq_true rfl) ⟨Nat.zero_le _, Nat.zero_le _⟩ dX4_decide_22 ?_
    refine vV_if_ne (tgt := 60) Cx dX4_decide_25 (by decide) (fun h25 => ?_) (fun h25 => ?_)
    · refine vV_aload_n Cx 0 dX4_decide_60 rfl rfl ?_
      refine vU_get Cx hinX4 0 rfl rfl 4 (by decide) u2_231 rfl dX4_decide_61 ?_
      refine vV_aload_n Cx 0 dX4_decide_64 rfl rfl ?_
      refine vU_get Cx hinX4 0 rfl rfl 7 (by decide) u2_234 rfl dX4_decide_65 ?_
      refine vV_aload_n Cx 0 dX4_decide_68 rfl rfl ?_
      refine vU_get Cx hinX4 0 rfl rfl 9 (by decide) u2_236 rfl dX4_decide_69 ?_
      refine vV_iload_n Cx 1 dX4_decide_72 rfl rfl ?_
      refine vV_iald Cx 6 0 rfl rfl (by assumption) dX4_decide_73 ?_
      refine vV_iald Cx 5 0 rfl rfl (by assumption) dX4_decide_74 ?_
      refine vV_icmp_lt (tgt := 100) Cx dX4_decide_75 (by decide) (fun h75 => ?_) (fun h75 => ?_)
      · refine vV_iconst (v := 0) Cx dX4_decide_100 (by decide) ?_
        refine vV_istore_n Cx 3 dX4_decide_101 rfl (by decide) ?_
        refine vV_aload_n Cx 0 dX4_decide_102 rfl rfl ?_
        refine vV_iload_n Cx 1 dX4_decide_103 rfl rfl ?_
        refine vV_iconst (v := 0) Cx dX4_decide_104 (by decide) ?_
        refine vV_callVi Cx (KX4_get hi v7_0) (cwV 2 Cx.1.2.2.2.2 (uGV u3_113 u3_115 us_24 u1_7 u3_116) rfl rfl rfl hdX4_get ⟨Nat.le_of_ble_eq_true rfl, Nat.le_of_ble_eq_true rfl⟩) 0 rfl rfl rfl rfl (Nat.le_of_ble_eq_true rfl) ⟨Nat.zero_le _, Nat.zero_le _⟩ dX4_decide_105 ?_
        refine vV_iconst (v := 2) Cx dX4_decide_108 (by decide) ?_
        refine vV_icmp_ge (tgt := 135) Cx dX4_decide_109 (by decide) (fun h109 => ?_) (fun h109 => ?_)
        · refine vV_aload_n Cx 0 dX4_decide_135 rfl rfl ?_
          refine vV_iload_n Cx 1 dX4_decide_136 rfl rfl ?_
          refine vV_iconst (v := 0) Cx dX4_decide_137 (by decide) ?_
          refine vV_callVi Cx (KX4_get hi v7_0) (cwV 2 Cx.1.2.2.2.2 (uGV u3_113 u3_115 us_24 u1_7 u3_116) rfl rfl rfl hdX4_get ⟨Nat.le_of_ble_eq_true rfl, Nat.le_of_ble_eq_true rfl⟩) 0 rfl rfl rfl rfl (Nat.le_of_ble_eq_true rfl) ⟨Nat.zero_le _, Nat.zero_le _⟩ dX4_decide_138 ?_
          refine vV_iconst (v := 2) Cx dX4_decide_141 (by decide) ?_
          refine vV_icmp_ne (tgt := 161) Cx dX4_decide_142 (by decide) (fun h142 => ?_) (fun h142 => ?_)
          · exact vV_vret Cx hr hlk dX4_decide_161 (by exact congrArg (fun z => wN cI cZ ad E z N) (by clear Cx hr hlk; simp_all [-Int32.not_lt, -Int32.not_le, m_dec, m_d1, m_d2, m_late, m_wk, cS_same, cS_ne]))
          · refine vV_aload_n Cx 0 dX4_decide_145 rfl rfl ?_
            refine vV_iload_n Cx 1 dX4_decide_146 rfl rfl ?_
            refine vV_iconst (v := 1) Cx dX4_decide_147 (by decide) ?_
            refine vV_callVi Cx (KX4_get hi v7_1) (cwV 2 Cx.1.2.2.2.2 (uGV u3_113 u3_115 us_24 u1_7 u3_116) rfl rfl rfl hdX4_get ⟨Nat.le_of_ble_eq_true rfl, Nat.le_of_ble_eq_true rfl⟩) 0 rfl rfl rfl rfl (Nat.le_of_ble_eq_true rfl) ⟨Nat.zero_le _, Nat.zero_le _⟩ dX4_decide_148 ?_
            refine vV_if_ne (tgt := 161) Cx dX4_decide_151 (by decide) (fun h151 => ?_) (fun h151 => ?_)
            · exact vV_vret Cx hr hlk dX4_decide_161 (by exact congrArg (fun z => wN cI cZ ad E z N) (by clear Cx hr hlk; simp_all [-Int32.not_lt, -Int32.not_le, m_dec, m_d1, m_d2, m_late, m_wk, cS_same, cS_ne]))
            · refine vV_aload_n Cx 0 dX4_decide_154 rfl rfl ?_
              refine vV_iload_n Cx 1 dX4_decide_155 rfl rfl ?_
              refine vV_iconst (v := 0) Cx dX4_decide_156 (by decide) ?_
              refine vV_iconst (v := 3) Cx dX4_decide_157 (by decide) ?_
              refine vV_callVv Cx (KX4_put hi v7_0 _) (cwV 3 Cx.1.2.2.2.2 (uGV u3_65 u3_67 us_19 u1_7 u3_68) rfl rfl rfl hdX4_put ⟨Nat.le_of_ble_eq_true rfl, Nat.le_of_ble_eq_true rfl⟩) 0 rfl rfl rfl rfl (Nat.le_of_ble_eq_true rfl) ⟨Nat.zero_le _, Nat.zero_le _⟩ dX4_decide_158 ?_
              exact vV_vret Cx hr hlk dX4_decide_161 (by exact congrArg (fun z => wN cI cZ ad E z N) (by clear Cx hr hlk; simp_all [-Int32.not_lt, -Int32.not_le, m_dec, m_d1, m_d2, m_late, m_wk, cS_same, cS_ne]))
        · refine vV_iload_n Cx 2 dX4_decide_112 rfl rfl ?_
          refine vV_if_ne (tgt := 128) Cx dX4_decide_113 (by decide) (fun h113 => ?_) (fun h113 => ?_)
          · refine vV_aload_n Cx 0 dX4_decide_128 rfl rfl ?_
            refine vV_iload_n Cx 1 dX4_decide_129 rfl rfl ?_
            refine vV_iconst (v := 0) Cx dX4_decide_130 (by decide) ?_
            refine vV_iconst (v := 2) Cx dX4_decide_131 (by decide) ?_
            refine vV_callVv Cx (KX4_put hi v7_0 _) (cwV 3 Cx.1.2.2.2.2 (uGV u3_65 u3_67 us_19 u1_7 u3_68) rfl rfl rfl hdX4_put ⟨Nat.le_of_ble_eq_true rfl, Nat.le_of_ble_eq_true rfl⟩) 0 rfl rfl rfl rfl (Nat.le_of_ble_eq_true rfl) ⟨Nat.zero_le _, Nat.zero_le _⟩ dX4_decide_132 ?_
            refine vV_aload_n Cx 0 dX4_decide_135 rfl rfl ?_
            refine vV_iload_n Cx 1 dX4_decide_136 rfl rfl ?_
            refine vV_iconst (v := 0) Cx dX4_decide_137 (by decide) ?_
            refine vV_callVi Cx (KX4_get hi v7_0) (cwV 2 Cx.1.2.2.2.2 (uGV u3_113 u3_115 us_24 u1_7 u3_116) rfl rfl rfl hdX4_get ⟨Nat.le_of_ble_eq_true rfl, Nat.le_of_ble_eq_true rfl⟩) 0 rfl rfl rfl rfl (Nat.le_of_ble_eq_true rfl) ⟨Nat.zero_le _, Nat.zero_le _⟩ dX4_decide_138 ?_
            refine vV_iconst (v := 2) Cx dX4_decide_141 (by decide) ?_
            refine vV_icmp_ne (tgt := 161) Cx dX4_decide_142 (by decide) (fun h142 => ?_) (fun h142 => ?_)
            · exact vV_vret Cx hr hlk dX4_decide_161 (by exact congrArg (fun z => wN cI cZ ad E z N) (by clear Cx hr hlk; simp_all [-Int32.not_lt, -Int32.not_le, m_dec, m_d1, m_d2, m_late, m_wk, cS_same, cS_ne]))
            · refine vV_aload_n Cx 0 dX4_decide_145 rfl rfl ?_
              refine vV_iload_n Cx 1 dX4_decide_146 rfl rfl ?_
              refine vV_iconst (v := 1) Cx dX4_decide_147 (by decide) ?_
              refine vV_callVi Cx (KX4_get hi v7_1) (cwV 2 Cx.1.2.2.2.2 (uGV u3_113 u3_115 us_24 u1_7 u3_116) rfl rfl rfl hdX4_get ⟨Nat.le_of_ble_eq_true rfl, Nat.le_of_ble_eq_true rfl⟩) 0 rfl rfl rfl rfl (Nat.le_of_ble_eq_true rfl) ⟨Nat.zero_le _, Nat.zero_le _⟩ dX4_decide_148 ?_
              refine vV_if_ne (tgt := 161) Cx dX4_decide_151 (by decide) (fun h151 => ?_) (fun h151 => ?_)
              · exact vV_vret Cx hr hlk dX4_decide_161 (by exact congrArg (fun z => wN cI cZ ad E z N) (by clear Cx hr hlk; simp_all [-Int32.not_lt, -Int32.not_le, m_dec, m_d1, m_d2, m_late, m_wk, cS_same, cS_ne]))
              · refine vV_aload_n Cx 0 dX4_decide_154 rfl rfl ?_
                refine vV_iload_n Cx 1 dX4_decide_155 rfl rfl ?_
                refine vV_iconst (v := 0) Cx dX4_decide_156 (by decide) ?_
                refine vV_iconst (v := 3) Cx dX4_decide_157 (by decide) ?_
                refine vV_callVv Cx (KX4_put hi v7_0 _) (cwV 3 Cx.1.2.2.2.2 (uGV u3_65 u3_67 us_19 u1_7 u3_68) rfl rfl rfl hdX4_put ⟨Nat.le_of_ble_eq_true rfl, Nat.le_of_ble_eq_true rfl⟩) 0 rfl rfl rfl rfl (Nat.le_of_ble_eq_true rfl) ⟨Nat.zero_le _, Nat.zero_le _⟩ dX4_decide_158 ?_
                exact vV_vret Cx hr hlk dX4_decide_161 (by exact congrArg (fun z => wN cI cZ ad E z N) (by clear Cx hr hlk; simp_all [-Int32.not_lt, -Int32.not_le, m_dec, m_d1, m_d2, m_late, m_wk, cS_same, cS_ne]))
          · refine vV_iload_n Cx 3 dX4_decide_116 rfl rfl ?_
            refine vV_if_ne (tgt := 128) Cx dX4_decide_117 (by decide) (fun h117 => ?_) (fun h117 => ?_)
            · refine vV_aload_n Cx 0 dX4_decide_128 rfl rfl ?_
              refine vV_iload_n Cx 1 dX4_decide_129 rfl rfl ?_
              refine vV_iconst (v := 0) Cx dX4_decide_130 (by decide) ?_
              refine vV_iconst (v := 2) Cx dX4_decide_131 (by decide) ?_
              refine vV_callVv Cx (KX4_put hi v7_0 _) (cwV 3 Cx.1.2.2.2.2 (uGV u3_65 u3_67 us_19 u1_7 u3_68) rfl rfl rfl hdX4_put ⟨Nat.le_of_ble_eq_true rfl, Nat.le_of_ble_eq_true rfl⟩) 0 rfl rfl rfl rfl (Nat.le_of_ble_eq_true rfl) ⟨Nat.zero_le _, Nat.zero_le _⟩ dX4_decide_132 ?_
              refine vV_aload_n Cx 0 dX4_decide_135 rfl rfl ?_
              refine vV_iload_n Cx 1 dX4_decide_136 rfl rfl ?_
              refine vV_iconst (v := 0) Cx dX4_decide_137 (by decide) ?_
              refine vV_callVi Cx (KX4_get hi v7_0) (cwV 2 Cx.1.2.2.2.2 (uGV u3_113 u3_115 us_24 u1_7 u3_116) rfl rfl rfl hdX4_get ⟨Nat.le_of_ble_eq_true rfl, Nat.le_of_ble_eq_true rfl⟩) 0 rfl rfl rfl rfl (Nat.le_of_ble_eq_true rfl) ⟨Nat.zero_le _, Nat.zero_le _⟩ dX4_decide_138 ?_
              refine vV_iconst (v := 2) Cx dX4_decide_141 (by decide) ?_
              refine vV_icmp_ne (tgt := 161) Cx dX4_decide_142 (by decide) (fun h142 => ?_) (fun h142 => ?_)
              · exact vV_vret Cx hr hlk dX4_decide_161 (by exact congrArg (fun z => wN cI cZ ad E z N) (by clear Cx hr hlk; simp_all [-Int32.not_lt, -Int32.not_le, m_dec, m_d1, m_d2, m_late, m_wk, cS_same, cS_ne]))
              · refine vV_aload_n Cx 0 dX4_decide_145 rfl rfl ?_
                refine vV_iload_n Cx 1 dX4_decide_146 rfl rfl ?_
                refine vV_iconst (v := 1) Cx dX4_decide_147 (by decide) ?_
                refine vV_callVi Cx (KX4_get hi v7_1) (cwV 2 Cx.1.2.2.2.2 (uGV u3_113 u3_115 us_24 u1_7 u3_116) rfl rfl rfl hdX4_get ⟨Nat.le_of_ble_eq_true rfl, Nat.le_of_ble_eq_true rfl⟩) 0 rfl rfl rfl rfl (Nat.le_of_ble_eq_true rfl) ⟨Nat.zero_le _, Nat.zero_le _⟩ dX4_decide_148 ?_
                refine vV_if_ne (tgt := 161) Cx dX4_decide_151 (by decide) (fun h151 => ?_) (fun h151 => ?_)
                · exact vV_vret Cx hr hlk dX4_decide_161 (by exact congrArg (fun z => wN cI cZ ad E z N) (by clear Cx hr hlk; simp_all [-Int32.not_lt, -Int32.not_le, m_dec, m_d1, m_d2, m_late, m_wk, cS_same, cS_ne]))
                · refine vV_aload_n Cx 0 dX4_decide_154 rfl rfl ?_
                  refine vV_iload_n Cx 1 dX4_decide_155 rfl rfl ?_
                  refine vV_iconst (v := 0) Cx dX4_decide_156 (by decide) ?_
                  refine vV_iconst (v := 3) Cx dX4_decide_157 (by decide) ?_
                  refine vV_callVv Cx (KX4_put hi v7_0 _) (cwV 3 Cx.1.2.2.2.2 (uGV u3_65 u3_67 us_19 u1_7 u3_68) rfl rfl rfl hdX4_put ⟨Nat.le_of_ble_eq_true rfl, Nat.le_of_ble_eq_true rfl⟩) 0 rfl rfl rfl rfl (Nat.le_of_ble_eq_true rfl) ⟨Nat.zero_le _, Nat.zero_le _⟩ dX4_decide_158 ?_
                  exact vV_vret Cx hr hlk dX4_decide_161 (by exact congrArg (fun z => wN cI cZ ad E z N) (by clear Cx hr hlk; simp_all [-Int32.not_lt, -Int32.not_le, m_dec, m_d1, m_d2, m_late, m_wk, cS_same, cS_ne]))
            · refine vV_aload_n Cx 0 dX4_decide_120 rfl rfl ?_
              refine vV_iload_n Cx 1 dX4_decide_121 rfl rfl ?_
              refine vV_callVi Cx (KX4_isWeak hi) (cwV 1 Cx.1.2.2.2.2 (uGV u3_121 u3_123 us_26 u1_7 u3_124) rfl rfl rfl hdX4_isWeak ⟨Nat.le_of_ble_eq_true rfl, Nat.le_of_ble_eq_true rfl⟩) 0 rfl rfl rfl rfl (Nat.le_of_ble_eq_true rfl) ⟨Nat.zero_le _, Nat.zero_le _⟩ dX4_decide_122 ?_
              refine vV_if_eq (tgt := 135) Cx dX4_decide_125 (by decide) (fun h125 => ?_) (fun h125 => ?_)
              · refine vV_aload_n Cx 0 dX4_decide_135 rfl rfl ?_
                refine vV_iload_n Cx 1 dX4_decide_136 rfl rfl ?_
                refine vV_iconst (v := 0) Cx dX4_decide_137 (by decide) ?_
                refine vV_callVi Cx (KX4_get hi v7_0) (cwV 2 Cx.1.2.2.2.2 (uGV u3_113 u3_115 us_24 u1_7 u3_116) rfl rfl rfl hdX4_get ⟨Nat.le_of_ble_eq_true rfl, Nat.le_of_ble_eq_true rfl⟩) 0 rfl rfl rfl rfl (Nat.le_of_ble_eq_true rfl) ⟨Nat.zero_le _, Nat.zero_le _⟩ dX4_decide_138 ?_
                refine vV_iconst (v := 2) Cx dX4_decide_141 (by decide) ?_
                refine vV_icmp_ne (tgt := 161) Cx dX4_decide_142 (by decide) (fun h142 => ?_) (fun h142 => ?_)
                · exact vV_vret Cx hr hlk dX4_decide_161 (by exact congrArg (fun z => wN cI cZ ad E z N) (by clear Cx hr hlk; simp_all [-Int32.not_lt, -Int32.not_le, m_dec, m_d1, m_d2, m_late, m_wk, cS_same, cS_ne]))
                · refine vV_aload_n Cx 0 dX4_decide_145 rfl rfl ?_
                  refine vV_iload_n Cx 1 dX4_decide_146 rfl rfl ?_
                  refine vV_iconst (v := 1) Cx dX4_decide_147 (by decide) ?_
                  refine vV_callVi Cx (KX4_get hi v7_1) (cwV 2 Cx.1.2.2.2.2 (uGV u3_113 u3_115 us_24 u1_7 u3_116) rfl rfl rfl hdX4_get ⟨Nat.le_of_ble_eq_true rfl, Nat.le_of_ble_eq_true rfl⟩) 0 rfl rfl rfl rfl (Nat.le_of_ble_eq_true rfl) ⟨Nat.zero_le _, Nat.zero_le _⟩ dX4_decide_148 ?_
                  refine vV_if_ne (tgt := 161) Cx dX4_decide_151 (by decide) (fun h151 => ?_) (fun h151 => ?_)
                  · exact vV_vret Cx hr hlk dX4_decide_161 (by exact congrArg (fun z => wN cI cZ ad E z N) (by clear Cx hr hlk; simp_all [-Int32.not_lt, -Int32.not_le, m_dec, m_d1, m_d2, m_late, m_wk, cS_same, cS_ne]))
                  · refine vV_aload_n Cx 0 dX4_decide_154 rfl rfl ?_
                    refine vV_iload_n Cx 1 dX4_decide_155 rfl rfl ?_
                    refine vV_iconst (v := 0) Cx dX4_decide_156 (by decide) ?_
                    refine vV_iconst (v := 3) Cx dX4_decide_157 (by decide) ?_
                    refine vV_callVv Cx (KX4_put hi v7_0 _) (cwV 3 Cx.1.2.2.2.2 (uGV u3_65 u3_67 us_19 u1_7 u3_68) rfl rfl rfl hdX4_put ⟨Nat.le_of_ble_eq_true rfl, Nat.le_of_ble_eq_true rfl⟩) 0 rfl rfl rfl rfl (Nat.le_of_ble_eq_true rfl) ⟨Nat.zero_le _, Nat.zero_le _⟩ dX4_decide_158 ?_
                    exact vV_vret Cx hr hlk dX4_decide_161 (by exact congrArg (fun z => wN cI cZ ad E z N) (by clear Cx hr hlk; simp_all [-Int32.not_lt, -Int32.not_le, m_dec, m_d1, m_d2, m_late, m_wk, cS_same, cS_ne]))
              · refine vV_aload_n Cx 0 dX4_decide_128 rfl rfl ?_
                refine vV_iload_n Cx 1 dX4_decide_129 rfl rfl ?_
                refine vV_iconst (v := 0) Cx dX4_decide_130 (by decide) ?_
                refine vV_iconst (v := 2) Cx dX4_decide_131 (by decide) ?_
                refine vV_callVv Cx (KX4_put hi v7_0 _) (cwV 3 Cx.1.2.2.2.2 (uGV u3_65 u3_67 us_19 u1_7 u3_68) rfl rfl rfl hdX4_put ⟨Nat.le_of_ble_eq_true rfl, Nat.le_of_ble_eq_true rfl⟩) 0 rfl rfl rfl rfl (Nat.le_of_ble_eq_true rfl) ⟨Nat.zero_le _, Nat.zero_le _⟩ dX4_decide_132 ?_
                refine vV_aload_n Cx 0 dX4_decide_135 rfl rfl ?_
                refine vV_iload_n Cx 1 dX4_decide_136 rfl rfl ?_
                refine vV_iconst (v := 0) Cx dX4_decide_137 (by decide) ?_
                refine vV_callVi Cx (KX4_get hi v7_0) (cwV 2 Cx.1.2.2.2.2 (uGV u3_113 u3_115 us_24 u1_7 u3_116) rfl rfl rfl hdX4_get ⟨Nat.le_of_ble_eq_true rfl, Nat.le_of_ble_eq_true rfl⟩) 0 rfl rfl rfl rfl (Nat.le_of_ble_eq_true rfl) ⟨Nat.zero_le _, Nat.zero_le _⟩ dX4_decide_138 ?_
                refine vV_iconst (v := 2) Cx dX4_decide_141 (by decide) ?_
                refine vV_icmp_ne (tgt := 161) Cx dX4_decide_142 (by decide) (fun h142 => ?_) (fun h142 => ?_)
                · exact vV_vret Cx hr hlk dX4_decide_161 (by exact congrArg (fun z => wN cI cZ ad E z N) (by clear Cx hr hlk; simp_all [-Int32.not_lt, -Int32.not_le, m_dec, m_d1, m_d2, m_late, m_wk, cS_same, cS_ne]))
                · refine vV_aload_n Cx 0 dX4_decide_145 rfl rfl ?_
                  refine vV_iload_n Cx 1 dX4_decide_146 rfl rfl ?_
                  refine vV_iconst (v := 1) Cx dX4_decide_147 (by decide) ?_
                  refine vV_callVi Cx (KX4_get hi v7_1) (cwV 2 Cx.1.2.2.2.2 (uGV u3_113 u3_115 us_24 u1_7 u3_116) rfl rfl rfl hdX4_get ⟨Nat.le_of_ble_eq_true rfl, Nat.le_of_ble_eq_true rfl⟩) 0 rfl rfl rfl rfl (Nat.le_of_ble_eq_true rfl) ⟨Nat.zero_le _, Nat.zero_le _⟩ dX4_decide_148 ?_
                  refine vV_if_ne (tgt := 161) Cx dX4_decide_151 (by decide) (fun h151 => ?_) (fun h151 => ?_)
                  · exact vV_vret Cx hr hlk dX4_decide_161 (by exact congrArg (fun z => wN cI cZ ad E z N) (by clear Cx hr hlk; simp_all [-Int32.not_lt, -Int32.not_le, m_dec, m_d1, m_d2, m_late, m_wk, cS_same, cS_ne]))
                  · refine vV_aload_n Cx 0 dX4_decide_154 rfl rfl ?_
                    refine vV_iload_n Cx 1 dX4_decide_155 rfl rfl ?_
                    refine vV_iconst (v := 0) Cx dX4_decide_156 (by decide) ?_
                    refine vV_iconst (v := 3) Cx dX4_decide_157 (by decide) ?_
                    refine vV_callVv Cx (KX4_put hi v7_0 _) (cwV 3 Cx.1.2.2.2.2 (uGV u3_65 u3_67 us_19 u1_7 u3_68) rfl rfl rfl hdX4_put ⟨Nat.le_of_ble_eq_true rfl, Nat.le_of_ble_eq_true rfl⟩) 0 rfl rfl rfl rfl (Nat.le_of_ble_eq_true rfl) ⟨Nat.zero_le _, Nat.zero_le _⟩ dX4_decide_158 ?_
                    exact vV_vret Cx hr hlk dX4_decide_161 (by exact congrArg (fun z => wN cI cZ ad E z N) (by clear Cx hr hlk; simp_all [-Int32.not_lt, -Int32.not_le, m_dec, m_d1, m_d2, m_late, m_wk, cS_same, cS_ne]))
      · refine vV_aload_n Cx 0 dX4_decide_78 rfl rfl ?_
        refine vU_get Cx hinX4 0 rfl rfl 4 (by decide) u2_231 rfl dX4_decide_79 ?_
        refine vV_aload_n Cx 0 dX4_decide_82 rfl rfl ?_
        refine vU_get Cx hinX4 0 rfl rfl 6 (by decide) u2_233 rfl dX4_decide_83 ?_
        refine vV_aload_n Cx 0 dX4_decide_86 rfl rfl ?_
        refine vU_get Cx hinX4 0 rfl rfl 9 (by decide) u2_236 rfl dX4_decide_87 ?_
        refine vV_iload_n Cx 1 dX4_decide_90 rfl rfl ?_
        refine vV_iald Cx 6 0 rfl rfl (by assumption) dX4_decide_91 ?_
        refine vV_iald Cx 4 0 rfl rfl (by assumption) dX4_decide_92 ?_
        refine vV_icmp_lt (tgt := 100) Cx dX4_decide_93 (by decide) (fun h93 => ?_) (fun h93 => ?_)
        · refine vV_iconst (v := 0) Cx dX4_decide_100 (by decide) ?_
          refine vV_istore_n Cx 3 dX4_decide_101 rfl (by decide) ?_
          refine vV_aload_n Cx 0 dX4_decide_102 rfl rfl ?_
          refine vV_iload_n Cx 1 dX4_decide_103 rfl rfl ?_
          refine vV_iconst (v := 0) Cx dX4_decide_104 (by decide) ?_
          refine vV_callVi Cx (KX4_get hi v7_0) (cwV 2 Cx.1.2.2.2.2 (uGV u3_113 u3_115 us_24 u1_7 u3_116) rfl rfl rfl hdX4_get ⟨Nat.le_of_ble_eq_true rfl, Nat.le_of_ble_eq_true rfl⟩) 0 rfl rfl rfl rfl (Nat.le_of_ble_eq_true rfl) ⟨Nat.zero_le _, Nat.zero_le _⟩ dX4_decide_105 ?_
          refine vV_iconst (v := 2) Cx dX4_decide_108 (by decide) ?_
          refine vV_icmp_ge (tgt := 135) Cx dX4_decide_109 (by decide) (fun h109 => ?_) (fun h109 => ?_)
          · refine vV_aload_n Cx 0 dX4_decide_135 rfl rfl ?_
            refine vV_iload_n Cx 1 dX4_decide_136 rfl rfl ?_
            refine vV_iconst (v := 0) Cx dX4_decide_137 (by decide) ?_
            refine vV_callVi Cx (KX4_get hi v7_0) (cwV 2 Cx.1.2.2.2.2 (uGV u3_113 u3_115 us_24 u1_7 u3_116) rfl rfl rfl hdX4_get ⟨Nat.le_of_ble_eq_true rfl, Nat.le_of_ble_eq_true rfl⟩) 0 rfl rfl rfl rfl (Nat.le_of_ble_eq_true rfl) ⟨Nat.zero_le _, Nat.zero_le _⟩ dX4_decide_138 ?_
            refine vV_iconst (v := 2) Cx dX4_decide_141 (by decide) ?_
            refine vV_icmp_ne (tgt := 161) Cx dX4_decide_142 (by decide) (fun h142 => ?_) (fun h142 => ?_)
            · exact vV_vret Cx hr hlk dX4_decide_161 (by exact congrArg (fun z => wN cI cZ ad E z N) (by clear Cx hr hlk; simp_all [-Int32.not_lt, -Int32.not_le, m_dec, m_d1, m_d2, m_late, m_wk, cS_same, cS_ne]))
            · refine vV_aload_n Cx 0 dX4_decide_145 rfl rfl ?_
              refine vV_iload_n Cx 1 dX4_decide_146 rfl rfl ?_
              refine vV_iconst (v := 1) Cx dX4_decide_147 (by decide) ?_
              refine vV_callVi Cx (KX4_get hi v7_1) (cwV 2 Cx.1.2.2.2.2 (uGV u3_113 u3_115 us_24 u1_7 u3_116) rfl rfl rfl hdX4_get ⟨Nat.le_of_ble_eq_true rfl, Nat.le_of_ble_eq_true rfl⟩) 0 rfl rfl rfl rfl (Nat.le_of_ble_eq_true rfl) ⟨Nat.zero_le _, Nat.zero_le _⟩ dX4_decide_148 ?_
              refine vV_if_ne (tgt := 161) Cx dX4_decide_151 (by decide) (fun h151 => ?_) (fun h151 => ?_)
              · exact vV_vret Cx hr hlk dX4_decide_161 (by exact congrArg (fun z => wN cI cZ ad E z N) (by clear Cx hr hlk; simp_all [-Int32.not_lt, -Int32.not_le, m_dec, m_d1, m_d2, m_late, m_wk, cS_same, cS_ne]))
              · refine vV_aload_n Cx 0 dX4_decide_154 rfl rfl ?_
                refine vV_iload_n Cx 1 dX4_decide_155 rfl rfl ?_
                refine vV_iconst (v := 0) Cx dX4_decide_156 (by decide) ?_
                refine vV_iconst (v := 3) Cx dX4_decide_157 (by decide) ?_
                refine vV_callVv Cx (KX4_put hi v7_0 _) (cwV 3 Cx.1.2.2.2.2 (uGV u3_65 u3_67 us_19 u1_7 u3_68) rfl rfl rfl hdX4_put ⟨Nat.le_of_ble_eq_true rfl, Nat.le_of_ble_eq_true rfl⟩) 0 rfl rfl rfl rfl (Nat.le_of_ble_eq_true rfl) ⟨Nat.zero_le _, Nat.zero_le _⟩ dX4_decide_158 ?_
                exact vV_vret Cx hr hlk dX4_decide_161 (by exact congrArg (fun z => wN cI cZ ad E z N) (by clear Cx hr hlk; simp_all [-Int32.not_lt, -Int32.not_le, m_dec, m_d1, m_d2, m_late, m_wk, cS_same, cS_ne]))
          · refine vV_iload_n Cx 2 dX4_decide_112 rfl rfl ?_
            refine vV_if_ne (tgt := 128) Cx dX4_decide_113 (by decide) (fun h113 => ?_) (fun h113 => ?_)
            · refine vV_aload_n Cx 0 dX4_decide_128 rfl rfl ?_
              refine vV_iload_n Cx 1 dX4_decide_129 rfl rfl ?_
              refine vV_iconst (v := 0) Cx dX4_decide_130 (by decide) ?_
              refine vV_iconst (v := 2) Cx dX4_decide_131 (by decide) ?_
              refine vV_callVv Cx (KX4_put hi v7_0 _) (cwV 3 Cx.1.2.2.2.2 (uGV u3_65 u3_67 us_19 u1_7 u3_68) rfl rfl rfl hdX4_put ⟨Nat.le_of_ble_eq_true rfl, Nat.le_of_ble_eq_true rfl⟩) 0 rfl rfl rfl rfl (Nat.le_of_ble_eq_true rfl) ⟨Nat.zero_le _, Nat.zero_le _⟩ dX4_decide_132 ?_
              refine vV_aload_n Cx 0 dX4_decide_135 rfl rfl ?_
              refine vV_iload_n Cx 1 dX4_decide_136 rfl rfl ?_
              refine vV_iconst (v := 0) Cx dX4_decide_137 (by decide) ?_
              refine vV_callVi Cx (KX4_get hi v7_0) (cwV 2 Cx.1.2.2.2.2 (uGV u3_113 u3_115 us_24 u1_7 u3_116) rfl rfl rfl hdX4_get ⟨Nat.le_of_ble_eq_true rfl, Nat.le_of_ble_eq_true rfl⟩) 0 rfl rfl rfl rfl (Nat.le_of_ble_eq_true rfl) ⟨Nat.zero_le _, Nat.zero_le _⟩ dX4_decide_138 ?_
              refine vV_iconst (v := 2) Cx dX4_decide_141 (by decide) ?_
              refine vV_icmp_ne (tgt := 161) Cx dX4_decide_142 (by decide) (fun h142 => ?_) (fun h142 => ?_)
              · exact vV_vret Cx hr hlk dX4_decide_161 (by exact congrArg (fun z => wN cI cZ ad E z N) (by clear Cx hr hlk; simp_all [-Int32.not_lt, -Int32.not_le, m_dec, m_d1, m_d2, m_late, m_wk, cS_same, cS_ne]))
              · refine vV_aload_n Cx 0 dX4_decide_145 rfl rfl ?_
                refine vV_iload_n Cx 1 dX4_decide_146 rfl rfl ?_
                refine vV_iconst (v := 1) Cx dX4_decide_147 (by decide) ?_
                refine vV_callVi Cx (KX4_get hi v7_1) (cwV 2 Cx.1.2.2.2.2 (uGV u3_113 u3_115 us_24 u1_7 u3_116) rfl rfl rfl hdX4_get ⟨Nat.le_of_ble_eq_true rfl, Nat.le_of_ble_eq_true rfl⟩) 0 rfl rfl rfl rfl (Nat.le_of_ble_eq_true rfl) ⟨Nat.zero_le _, Nat.zero_le _⟩ dX4_decide_148 ?_
                refine vV_if_ne (tgt := 161) Cx dX4_decide_151 (by decide) (fun h151 => ?_) (fun h151 => ?_)
                · exact vV_vret Cx hr hlk dX4_decide_161 (by exact congrArg (fun z => wN cI cZ ad E z N) (by clear Cx hr hlk; simp_all [-Int32.not_lt, -Int32.not_le, m_dec, m_d1, m_d2, m_late, m_wk, cS_same, cS_ne]))
                · refine vV_aload_n Cx 0 dX4_decide_154 rfl rfl ?_
                  refine vV_iload_n Cx 1 dX4_decide_155 rfl rfl ?_
                  refine vV_iconst (v := 0) Cx dX4_decide_156 (by decide) ?_
                  refine vV_iconst (v := 3) Cx dX4_decide_157 (by decide) ?_
                  refine vV_callVv Cx (KX4_put hi v7_0 _) (cwV 3 Cx.1.2.2.2.2 (uGV u3_65 u3_67 us_19 u1_7 u3_68) rfl rfl rfl hdX4_put ⟨Nat.le_of_ble_eq_true rfl, Nat.le_of_ble_eq_true rfl⟩) 0 rfl rfl rfl rfl (Nat.le_of_ble_eq_true rfl) ⟨Nat.zero_le _, Nat.zero_le _⟩ dX4_decide_158 ?_
                  exact vV_vret Cx hr hlk dX4_decide_161 (by exact congrArg (fun z => wN cI cZ ad E z N) (by clear Cx hr hlk; simp_all [-Int32.not_lt, -Int32.not_le, m_dec, m_d1, m_d2, m_late, m_wk, cS_same, cS_ne]))
            · refine vV_iload_n Cx 3 dX4_decide_116 rfl rfl ?_
              refine vV_if_ne (tgt := 128) Cx dX4_decide_117 (by decide) (fun h117 => ?_) (fun h117 => ?_)
              · refine vV_aload_n Cx 0 dX4_decide_128 rfl rfl ?_
                refine vV_iload_n Cx 1 dX4_decide_129 rfl rfl ?_
                refine vV_iconst (v := 0) Cx dX4_decide_130 (by decide) ?_
                refine vV_iconst (v := 2) Cx dX4_decide_131 (by decide) ?_
                refine vV_callVv Cx (KX4_put hi v7_0 _) (cwV 3 Cx.1.2.2.2.2 (uGV u3_65 u3_67 us_19 u1_7 u3_68) rfl rfl rfl hdX4_put ⟨Nat.le_of_ble_eq_true rfl, Nat.le_of_ble_eq_true rfl⟩) 0 rfl rfl rfl rfl (Nat.le_of_ble_eq_true rfl) ⟨Nat.zero_le _, Nat.zero_le _⟩ dX4_decide_132 ?_
                refine vV_aload_n Cx 0 dX4_decide_135 rfl rfl ?_
                refine vV_iload_n Cx 1 dX4_decide_136 rfl rfl ?_
                refine vV_iconst (v := 0) Cx dX4_decide_137 (by decide) ?_
                refine vV_callVi Cx (KX4_get hi v7_0) (cwV 2 Cx.1.2.2.2.2 (uGV u3_113 u3_115 us_24 u1_7 u3_116) rfl rfl rfl hdX4_get ⟨Nat.le_of_ble_eq_true rfl, Nat.le_of_ble_eq_true rfl⟩) 0 rfl rfl rfl rfl (Nat.le_of_ble_eq_true rfl) ⟨Nat.zero_le _, Nat.zero_le _⟩ dX4_decide_138 ?_
                refine vV_iconst (v := 2) Cx dX4_decide_141 (by decide) ?_
                refine vV_icmp_ne (tgt := 161) Cx dX4_decide_142 (by decide) (fun h142 => ?_) (fun h142 => ?_)
                · exact vV_vret Cx hr hlk dX4_decide_161 (by exact congrArg (fun z => wN cI cZ ad E z N) (by clear Cx hr hlk; simp_all [-Int32.not_lt, -Int32.not_le, m_dec, m_d1, m_d2, m_late, m_wk, cS_same, cS_ne]))
                · refine vV_aload_n Cx 0 dX4_decide_145 rfl rfl ?_
                  refine vV_iload_n Cx 1 dX4_decide_146 rfl rfl ?_
                  refine vV_iconst (v := 1) Cx dX4_decide_147 (by decide) ?_
                  refine vV_callVi Cx (KX4_get hi v7_1) (cwV 2 Cx.1.2.2.2.2 (uGV u3_113 u3_115 us_24 u1_7 u3_116) rfl rfl rfl hdX4_get ⟨Nat.le_of_ble_eq_true rfl, Nat.le_of_ble_eq_true rfl⟩) 0 rfl rfl rfl rfl (Nat.le_of_ble_eq_true rfl) ⟨Nat.zero_le _, Nat.zero_le _⟩ dX4_decide_148 ?_
                  refine vV_if_ne (tgt := 161) Cx dX4_decide_151 (by decide) (fun h151 => ?_) (fun h151 => ?_)
                  · exact vV_vret Cx hr hlk dX4_decide_161 (by exact congrArg (fun z => wN cI cZ ad E z N) (by clear Cx hr hlk; simp_all [-Int32.not_lt, -Int32.not_le, m_dec, m_d1, m_d2, m_late, m_wk, cS_same, cS_ne]))
                  · refine vV_aload_n Cx 0 dX4_decide_154 rfl rfl ?_
                    refine vV_iload_n Cx 1 dX4_decide_155 rfl rfl ?_
                    refine vV_iconst (v := 0) Cx dX4_decide_156 (by decide) ?_
                    refine vV_iconst (v := 3) Cx dX4_decide_157 (by decide) ?_
                    refine vV_callVv Cx (KX4_put hi v7_0 _) (cwV 3 Cx.1.2.2.2.2 (uGV u3_65 u3_67 us_19 u1_7 u3_68) rfl rfl rfl hdX4_put ⟨Nat.le_of_ble_eq_true rfl, Nat.le_of_ble_eq_true rfl⟩) 0 rfl rfl rfl rfl (Nat.le_of_ble_eq_true rfl) ⟨Nat.zero_le _, Nat.zero_le _⟩ dX4_decide_158 ?_
                    exact vV_vret Cx hr hlk dX4_decide_161 (by exact congrArg (fun z => wN cI cZ ad E z N) (by clear Cx hr hlk; simp_all [-Int32.not_lt, -Int32.not_le, m_dec, m_d1, m_d2, m_late, m_wk, cS_same, cS_ne]))
              · refine vV_aload_n Cx 0 dX4_decide_120 rfl rfl ?_
                refine vV_iload_n Cx 1 dX4_decide_121 rfl rfl ?_
                refine vV_callVi Cx (KX4_isWeak hi) (cwV 1 Cx.1.2.2.2.2 (uGV u3_121 u3_123 us_26 u1_7 u3_124) rfl rfl rfl hdX4_isWeak ⟨Nat.le_of_ble_eq_true rfl, Nat.le_of_ble_eq_true rfl⟩) 0 rfl rfl rfl rfl (Nat.le_of_ble_eq_true rfl) ⟨Nat.zero_le _, Nat.zero_le _⟩ dX4_decide_122 ?_
                refine vV_if_eq (tgt := 135) Cx dX4_decide_125 (by decide) (fun h125 => ?_) (fun h125 => ?_)
                · refine vV_aload_n Cx 0 dX4_decide_135 rfl rfl ?_
                  refine vV_iload_n Cx 1 dX4_decide_136 rfl rfl ?_
                  refine vV_iconst (v := 0) Cx dX4_decide_137 (by decide) ?_
                  refine vV_callVi Cx (KX4_get hi v7_0) (cwV 2 Cx.1.2.2.2.2 (uGV u3_113 u3_115 us_24 u1_7 u3_116) rfl rfl rfl hdX4_get ⟨Nat.le_of_ble_eq_true rfl, Nat.le_of_ble_eq_true rfl⟩) 0 rfl rfl rfl rfl (Nat.le_of_ble_eq_true rfl) ⟨Nat.zero_le _, Nat.zero_le _⟩ dX4_decide_138 ?_
                  refine vV_iconst (v := 2) Cx dX4_decide_141 (by decide) ?_
                  refine vV_icmp_ne (tgt := 161) Cx dX4_decide_142 (by decide) (fun h142 => ?_) (fun h142 => ?_)
                  · exact vV_vret Cx hr hlk dX4_decide_161 (by exact congrArg (fun z => wN cI cZ ad E z N) (by clear Cx hr hlk; simp_all [-Int32.not_lt, -Int32.not_le, m_dec, m_d1, m_d2, m_late, m_wk, cS_same, cS_ne]))
                  · refine vV_aload_n Cx 0 dX4_decide_145 rfl rfl ?_
                    refine vV_iload_n Cx 1 dX4_decide_146 rfl rfl ?_
                    refine vV_iconst (v := 1) Cx dX4_decide_147 (by decide) ?_
                    refine vV_callVi Cx (KX4_get hi v7_1) (cwV 2 Cx.1.2.2.2.2 (uGV u3_113 u3_115 us_24 u1_7 u3_116) rfl rfl rfl hdX4_get ⟨Nat.le_of_ble_eq_true rfl, Nat.le_of_ble_eq_true rfl⟩) 0 rfl rfl rfl rfl (Nat.le_of_ble_eq_true rfl) ⟨Nat.zero_le _, Nat.zero_le _⟩ dX4_decide_148 ?_
                    refine vV_if_ne (tgt := 161) Cx dX4_decide_151 (by decide) (fun h151 => ?_) (fun h151 => ?_)
                    · exact vV_vret Cx hr hlk dX4_decide_161 (by exact congrArg (fun z => wN cI cZ ad E z N) (by clear Cx hr hlk; simp_all [-Int32.not_lt, -Int32.not_le, m_dec, m_d1, m_d2, m_late, m_wk, cS_same, cS_ne]))
                    · refine vV_aload_n Cx 0 dX4_decide_154 rfl rfl ?_
                      refine vV_iload_n Cx 1 dX4_decide_155 rfl rfl ?_
                      refine vV_iconst (v := 0) Cx dX4_decide_156 (by decide) ?_
                      refine vV_iconst (v := 3) Cx dX4_decide_157 (by decide) ?_
                      refine vV_callVv Cx (KX4_put hi v7_0 _) (cwV 3 Cx.1.2.2.2.2 (uGV u3_65 u3_67 us_19 u1_7 u3_68) rfl rfl rfl hdX4_put ⟨Nat.le_of_ble_eq_true rfl, Nat.le_of_ble_eq_true rfl⟩) 0 rfl rfl rfl rfl (Nat.le_of_ble_eq_true rfl) ⟨Nat.zero_le _, Nat.zero_le _⟩ dX4_decide_158 ?_
                      exact vV_vret Cx hr hlk dX4_decide_161 (by exact congrArg (fun z => wN cI cZ ad E z N) (by clear Cx hr hlk; simp_all [-Int32.not_lt, -Int32.not_le, m_dec, m_d1, m_d2, m_late, m_wk, cS_same, cS_ne]))
                · refine vV_aload_n Cx 0 dX4_decide_128 rfl rfl ?_
                  refine vV_iload_n Cx 1 dX4_decide_129 rfl rfl ?_
                  refine vV_iconst (v := 0) Cx dX4_decide_130 (by decide) ?_
                  refine vV_iconst (v := 2) Cx dX4_decide_131 (by decide) ?_
                  refine vV_callVv Cx (KX4_put hi v7_0 _) (cwV 3 Cx.1.2.2.2.2 (uGV u3_65 u3_67 us_19 u1_7 u3_68) rfl rfl rfl hdX4_put ⟨Nat.le_of_ble_eq_true rfl, Nat.le_of_ble_eq_true rfl⟩) 0 rfl rfl rfl rfl (Nat.le_of_ble_eq_true rfl) ⟨Nat.zero_le _, Nat.zero_le _⟩ dX4_decide_132 ?_
                  refine vV_aload_n Cx 0 dX4_decide_135 rfl rfl ?_
                  refine vV_iload_n Cx 1 dX4_decide_136 rfl rfl ?_
                  refine vV_iconst (v := 0) Cx dX4_decide_137 (by decide) ?_
                  refine vV_callVi Cx (KX4_get hi v7_0) (cwV 2 Cx.1.2.2.2.2 (uGV u3_113 u3_115 us_24 u1_7 u3_116) rfl rfl rfl hdX4_get ⟨Nat.le_of_ble_eq_true rfl, Nat.le_of_ble_eq_true rfl⟩) 0 rfl rfl rfl rfl (Nat.le_of_ble_eq_true rfl) ⟨Nat.zero_le _, Nat.zero_le _⟩ dX4_decide_138 ?_
                  refine vV_iconst (v := 2) Cx dX4_decide_141 (by decide) ?_
                  refine vV_icmp_ne (tgt := 161) Cx dX4_decide_142 (by decide) (fun h142 => ?_) (fun h142 => ?_)
                  · exact vV_vret Cx hr hlk dX4_decide_161 (by exact congrArg (fun z => wN cI cZ ad E z N) (by clear Cx hr hlk; simp_all [-Int32.not_lt, -Int32.not_le, m_dec, m_d1, m_d2, m_late, m_wk, cS_same, cS_ne]))
                  · refine vV_aload_n Cx 0 dX4_decide_145 rfl rfl ?_
                    refine vV_iload_n Cx 1 dX4_decide_146 rfl rfl ?_
                    refine vV_iconst (v := 1) Cx dX4_decide_147 (by decide) ?_
                    refine vV_callVi Cx (KX4_get hi v7_1) (cwV 2 Cx.1.2.2.2.2 (uGV u3_113 u3_115 us_24 u1_7 u3_116) rfl rfl rfl hdX4_get ⟨Nat.le_of_ble_eq_true rfl, Nat.le_of_ble_eq_true rfl⟩) 0 rfl rfl rfl rfl (Nat.le_of_ble_eq_true rfl) ⟨Nat.zero_le _, Nat.zero_le _⟩ dX4_decide_148 ?_
                    refine vV_if_ne (tgt := 161) Cx dX4_decide_151 (by decide) (fun h151 => ?_) (fun h151 => ?_)
                    · exact vV_vret Cx hr hlk dX4_decide_161 (by exact congrArg (fun z => wN cI cZ ad E z N) (by clear Cx hr hlk; simp_all [-Int32.not_lt, -Int32.not_le, m_dec, m_d1, m_d2, m_late, m_wk, cS_same, cS_ne]))
                    · refine vV_aload_n Cx 0 dX4_decide_154 rfl rfl ?_
                      refine vV_iload_n Cx 1 dX4_decide_155 rfl rfl ?_
                      refine vV_iconst (v := 0) Cx dX4_decide_156 (by decide) ?_
                      refine vV_iconst (v := 3) Cx dX4_decide_157 (by decide) ?_
                      refine vV_callVv Cx (KX4_put hi v7_0 _) (cwV 3 Cx.1.2.2.2.2 (uGV u3_65 u3_67 us_19 u1_7 u3_68) rfl rfl rfl hdX4_put ⟨Nat.le_of_ble_eq_true rfl, Nat.le_of_ble_eq_true rfl⟩) 0 rfl rfl rfl rfl (Nat.le_of_ble_eq_true rfl) ⟨Nat.zero_le _, Nat.zero_le _⟩ dX4_decide_158 ?_
                      exact vV_vret Cx hr hlk dX4_decide_161 (by exact congrArg (fun z => wN cI cZ ad E z N) (by clear Cx hr hlk; simp_all [-Int32.not_lt, -Int32.not_le, m_dec, m_d1, m_d2, m_late, m_wk, cS_same, cS_ne]))
        · refine vV_iconst (v := 1) Cx dX4_decide_96 (by decide) ?_
          refine vV_goto (tgt := 101) Cx dX4_decide_97 (by decide) ?_
          refine vV_istore_n Cx 3 dX4_decide_101 rfl (by decide) ?_
          refine vV_aload_n Cx 0 dX4_decide_102 rfl rfl ?_
          refine vV_iload_n Cx 1 dX4_decide_103 rfl rfl ?_
          refine vV_iconst (v := 0) Cx dX4_decide_104 (by decide) ?_
          refine vV_callVi Cx (KX4_get hi v7_0) (cwV 2 Cx.1.2.2.2.2 (uGV u3_113 u3_115 us_24 u1_7 u3_116) rfl rfl rfl hdX4_get ⟨Nat.le_of_ble_eq_true rfl, Nat.le_of_ble_eq_true rfl⟩) 0 rfl rfl rfl rfl (Nat.le_of_ble_eq_true rfl) ⟨Nat.zero_le _, Nat.zero_le _⟩ dX4_decide_105 ?_
          refine vV_iconst (v := 2) Cx dX4_decide_108 (by decide) ?_
          refine vV_icmp_ge (tgt := 135) Cx dX4_decide_109 (by decide) (fun h109 => ?_) (fun h109 => ?_)
          · refine vV_aload_n Cx 0 dX4_decide_135 rfl rfl ?_
            refine vV_iload_n Cx 1 dX4_decide_136 rfl rfl ?_
            refine vV_iconst (v := 0) Cx dX4_decide_137 (by decide) ?_
            refine vV_callVi Cx (KX4_get hi v7_0) (cwV 2 Cx.1.2.2.2.2 (uGV u3_113 u3_115 us_24 u1_7 u3_116) rfl rfl rfl hdX4_get ⟨Nat.le_of_ble_eq_true rfl, Nat.le_of_ble_eq_true rfl⟩) 0 rfl rfl rfl rfl (Nat.le_of_ble_eq_true rfl) ⟨Nat.zero_le _, Nat.zero_le _⟩ dX4_decide_138 ?_
            refine vV_iconst (v := 2) Cx dX4_decide_141 (by decide) ?_
            refine vV_icmp_ne (tgt := 161) Cx dX4_decide_142 (by decide) (fun h142 => ?_) (fun h142 => ?_)
            · exact vV_vret Cx hr hlk dX4_decide_161 (by exact congrArg (fun z => wN cI cZ ad E z N) (by clear Cx hr hlk; simp_all [-Int32.not_lt, -Int32.not_le, m_dec, m_d1, m_d2, m_late, m_wk, cS_same, cS_ne]))
            · refine vV_aload_n Cx 0 dX4_decide_145 rfl rfl ?_
              refine vV_iload_n Cx 1 dX4_decide_146 rfl rfl ?_
              refine vV_iconst (v := 1) Cx dX4_decide_147 (by decide) ?_
              refine vV_callVi Cx (KX4_get hi v7_1) (cwV 2 Cx.1.2.2.2.2 (uGV u3_113 u3_115 us_24 u1_7 u3_116) rfl rfl rfl hdX4_get ⟨Nat.le_of_ble_eq_true rfl, Nat.le_of_ble_eq_true rfl⟩) 0 rfl rfl rfl rfl (Nat.le_of_ble_eq_true rfl) ⟨Nat.zero_le _, Nat.zero_le _⟩ dX4_decide_148 ?_
              refine vV_if_ne (tgt := 161) Cx dX4_decide_151 (by decide) (fun h151 => ?_) (fun h151 => ?_)
              · exact vV_vret Cx hr hlk dX4_decide_161 (by exact congrArg (fun z => wN cI cZ ad E z N) (by clear Cx hr hlk; simp_all [-Int32.not_lt, -Int32.not_le, m_dec, m_d1, m_d2, m_late, m_wk, cS_same, cS_ne]))
              · refine vV_aload_n Cx 0 dX4_decide_154 rfl rfl ?_
                refine vV_iload_n Cx 1 dX4_decide_155 rfl rfl ?_
                refine vV_iconst (v := 0) Cx dX4_decide_156 (by decide) ?_
                refine vV_iconst (v := 3) Cx dX4_decide_157 (by decide) ?_
                refine vV_callVv Cx (KX4_put hi v7_0 _) (cwV 3 Cx.1.2.2.2.2 (uGV u3_65 u3_67 us_19 u1_7 u3_68) rfl rfl rfl hdX4_put ⟨Nat.le_of_ble_eq_true rfl, Nat.le_of_ble_eq_true rfl⟩) 0 rfl rfl rfl rfl (Nat.le_of_ble_eq_true rfl) ⟨Nat.zero_le _, Nat.zero_le _⟩ dX4_decide_158 ?_
                exact vV_vret Cx hr hlk dX4_decide_161 (by exact congrArg (fun z => wN cI cZ ad E z N) (by clear Cx hr hlk; simp_all [-Int32.not_lt, -Int32.not_le, m_dec, m_d1, m_d2, m_late, m_wk, cS_same, cS_ne]))
          · refine vV_iload_n Cx 2 dX4_decide_112 rfl rfl ?_
            refine vV_if_ne (tgt := 128) Cx dX4_decide_113 (by decide) (fun h113 => ?_) (fun h113 => ?_)
            · refine vV_aload_n Cx 0 dX4_decide_128 rfl rfl ?_
              refine vV_iload_n Cx 1 dX4_decide_129 rfl rfl ?_
              refine vV_iconst (v := 0) Cx dX4_decide_130 (by decide) ?_
              refine vV_iconst (v := 2) Cx dX4_decide_131 (by decide) ?_
              refine vV_callVv Cx (KX4_put hi v7_0 _) (cwV 3 Cx.1.2.2.2.2 (uGV u3_65 u3_67 us_19 u1_7 u3_68) rfl rfl rfl hdX4_put ⟨Nat.le_of_ble_eq_true rfl, Nat.le_of_ble_eq_true rfl⟩) 0 rfl rfl rfl rfl (Nat.le_of_ble_eq_true rfl) ⟨Nat.zero_le _, Nat.zero_le _⟩ dX4_decide_132 ?_
              refine vV_aload_n Cx 0 dX4_decide_135 rfl rfl ?_
              refine vV_iload_n Cx 1 dX4_decide_136 rfl rfl ?_
              refine vV_iconst (v := 0) Cx dX4_decide_137 (by decide) ?_
              refine vV_callVi Cx (KX4_get hi v7_0) (cwV 2 Cx.1.2.2.2.2 (uGV u3_113 u3_115 us_24 u1_7 u3_116) rfl rfl rfl hdX4_get ⟨Nat.le_of_ble_eq_true rfl, Nat.le_of_ble_eq_true rfl⟩) 0 rfl rfl rfl rfl (Nat.le_of_ble_eq_true rfl) ⟨Nat.zero_le _, Nat.zero_le _⟩ dX4_decide_138 ?_
              refine vV_iconst (v := 2) Cx dX4_decide_141 (by decide) ?_
              refine vV_icmp_ne (tgt := 161) Cx dX4_decide_142 (by decide) (fun h142 => ?_) (fun h142 => ?_)
              · exact vV_vret Cx hr hlk dX4_decide_161 (by exact congrArg (fun z => wN cI cZ ad E z N) (by clear Cx hr hlk; simp_all [-Int32.not_lt, -Int32.not_le, m_dec, m_d1, m_d2, m_late, m_wk, cS_same, cS_ne]))
              · refine vV_aload_n Cx 0 dX4_decide_145 rfl rfl ?_
                refine vV_iload_n Cx 1 dX4_decide_146 rfl rfl ?_
                refine vV_iconst (v := 1) Cx dX4_decide_147 (by decide) ?_
                refine vV_callVi Cx (KX4_get hi v7_1) (cwV 2 Cx.1.2.2.2.2 (uGV u3_113 u3_115 us_24 u1_7 u3_116) rfl rfl rfl hdX4_get ⟨Nat.le_of_ble_eq_true rfl, Nat.le_of_ble_eq_true rfl⟩) 0 rfl rfl rfl rfl (Nat.le_of_ble_eq_true rfl) ⟨Nat.zero_le _, Nat.zero_le _⟩ dX4_decide_148 ?_
                refine vV_if_ne (tgt := 161) Cx dX4_decide_151 (by decide) (fun h151 => ?_) (fun h151 => ?_)
                · exact vV_vret Cx hr hlk dX4_decide_161 (by exact congrArg (fun z => wN cI cZ ad E z N) (by clear Cx hr hlk; simp_all [-Int32.not_lt, -Int32.not_le, m_dec, m_d1, m_d2, m_late, m_wk, cS_same, cS_ne]))
                · refine vV_aload_n Cx 0 dX4_decide_154 rfl rfl ?_
                  refine vV_iload_n Cx 1 dX4_decide_155 rfl rfl ?_
                  refine vV_iconst (v := 0) Cx dX4_decide_156 (by decide) ?_
                  refine vV_iconst (v := 3) Cx dX4_decide_157 (by decide) ?_
                  refine vV_callVv Cx (KX4_put hi v7_0 _) (cwV 3 Cx.1.2.2.2.2 (uGV u3_65 u3_67 us_19 u1_7 u3_68) rfl rfl rfl hdX4_put ⟨Nat.le_of_ble_eq_true rfl, Nat.le_of_ble_eq_true rfl⟩) 0 rfl rfl rfl rfl (Nat.le_of_ble_eq_true rfl) ⟨Nat.zero_le _, Nat.zero_le _⟩ dX4_decide_158 ?_
                  exact vV_vret Cx hr hlk dX4_decide_161 (by exact congrArg (fun z => wN cI cZ ad E z N) (by clear Cx hr hlk; simp_all [-Int32.not_lt, -Int32.not_le, m_dec, m_d1, m_d2, m_late, m_wk, cS_same, cS_ne]))
            · refine vV_iload_n Cx 3 dX4_decide_116 rfl rfl ?_
              refine vV_if_ne (tgt := 128) Cx dX4_decide_117 (by decide) (fun h117 => ?_) (fun h117 => ?_)
              · refine vV_aload_n Cx 0 dX4_decide_128 rfl rfl ?_
                refine vV_iload_n Cx 1 dX4_decide_129 rfl rfl ?_
                refine vV_iconst (v := 0) Cx dX4_decide_130 (by decide) ?_
                refine vV_iconst (v := 2) Cx dX4_decide_131 (by decide) ?_
                refine vV_callVv Cx (KX4_put hi v7_0 _) (cwV 3 Cx.1.2.2.2.2 (uGV u3_65 u3_67 us_19 u1_7 u3_68) rfl rfl rfl hdX4_put ⟨Nat.le_of_ble_eq_true rfl, Nat.le_of_ble_eq_true rfl⟩) 0 rfl rfl rfl rfl (Nat.le_of_ble_eq_true rfl) ⟨Nat.zero_le _, Nat.zero_le _⟩ dX4_decide_132 ?_
                refine vV_aload_n Cx 0 dX4_decide_135 rfl rfl ?_
                refine vV_iload_n Cx 1 dX4_decide_136 rfl rfl ?_
                refine vV_iconst (v := 0) Cx dX4_decide_137 (by decide) ?_
                refine vV_callVi Cx (KX4_get hi v7_0) (cwV 2 Cx.1.2.2.2.2 (uGV u3_113 u3_115 us_24 u1_7 u3_116) rfl rfl rfl hdX4_get ⟨Nat.le_of_ble_eq_true rfl, Nat.le_of_ble_eq_true rfl⟩) 0 rfl rfl rfl rfl (Nat.le_of_ble_eq_true rfl) ⟨Nat.zero_le _, Nat.zero_le _⟩ dX4_decide_138 ?_
                refine vV_iconst (v := 2) Cx dX4_decide_141 (by decide) ?_
                refine vV_icmp_ne (tgt := 161) Cx dX4_decide_142 (by decide) (fun h142 => ?_) (fun h142 => ?_)
                · exact vV_vret Cx hr hlk dX4_decide_161 (by exact congrArg (fun z => wN cI cZ ad E z N) (by clear Cx hr hlk; simp_all [-Int32.not_lt, -Int32.not_le, m_dec, m_d1, m_d2, m_late, m_wk, cS_same, cS_ne]))
                · refine vV_aload_n Cx 0 dX4_decide_145 rfl rfl ?_
                  refine vV_iload_n Cx 1 dX4_decide_146 rfl rfl ?_
                  refine vV_iconst (v := 1) Cx dX4_decide_147 (by decide) ?_
                  refine vV_callVi Cx (KX4_get hi v7_1) (cwV 2 Cx.1.2.2.2.2 (uGV u3_113 u3_115 us_24 u1_7 u3_116) rfl rfl rfl hdX4_get ⟨Nat.le_of_ble_eq_true rfl, Nat.le_of_ble_eq_true rfl⟩) 0 rfl rfl rfl rfl (Nat.le_of_ble_eq_true rfl) ⟨Nat.zero_le _, Nat.zero_le _⟩ dX4_decide_148 ?_
                  refine vV_if_ne (tgt := 161) Cx dX4_decide_151 (by decide) (fun h151 => ?_) (fun h151 => ?_)
                  · exact vV_vret Cx hr hlk dX4_decide_161 (by exact congrArg (fun z => wN cI cZ ad E z N) (by clear Cx hr hlk; simp_all [-Int32.not_lt, -Int32.not_le, m_dec, m_d1, m_d2, m_late, m_wk, cS_same, cS_ne]))
                  · refine vV_aload_n Cx 0 dX4_decide_154 rfl rfl ?_
                    refine vV_iload_n Cx 1 dX4_decide_155 rfl rfl ?_
                    refine vV_iconst (v := 0) Cx dX4_decide_156 (by decide) ?_
                    refine vV_iconst (v := 3) Cx dX4_decide_157 (by decide) ?_
                    refine vV_callVv Cx (KX4_put hi v7_0 _) (cwV 3 Cx.1.2.2.2.2 (uGV u3_65 u3_67 us_19 u1_7 u3_68) rfl rfl rfl hdX4_put ⟨Nat.le_of_ble_eq_true rfl, Nat.le_of_ble_eq_true rfl⟩) 0 rfl rfl rfl rfl (Nat.le_of_ble_eq_true rfl) ⟨Nat.zero_le _, Nat.zero_le _⟩ dX4_decide_158 ?_
                    exact vV_vret Cx hr hlk dX4_decide_161 (by exact congrArg (fun z => wN cI cZ ad E z N) (by clear Cx hr hlk; simp_all [-Int32.not_lt, -Int32.not_le, m_dec, m_d1, m_d2, m_late, m_wk, cS_same, cS_ne]))
              · refine vV_aload_n Cx 0 dX4_decide_120 rfl rfl ?_
                refine vV_iload_n Cx 1 dX4_decide_121 rfl rfl ?_
                refine vV_callVi Cx (KX4_isWeak hi) (cwV 1 Cx.1.2.2.2.2 (uGV u3_121 u3_123 us_26 u1_7 u3_124) rfl rfl rfl hdX4_isWeak ⟨Nat.le_of_ble_eq_true rfl, Nat.le_of_ble_eq_true rfl⟩) 0 rfl rfl rfl rfl (Nat.le_of_ble_eq_true rfl) ⟨Nat.zero_le _, Nat.zero_le _⟩ dX4_decide_122 ?_
                refine vV_if_eq (tgt := 135) Cx dX4_decide_125 (by decide) (fun h125 => ?_) (fun h125 => ?_)
                · refine vV_aload_n Cx 0 dX4_decide_135 rfl rfl ?_
                  refine vV_iload_n Cx 1 dX4_decide_136 rfl rfl ?_
                  refine vV_iconst (v := 0) Cx dX4_decide_137 (by decide) ?_
                  refine vV_callVi Cx (KX4_get hi v7_0) (cwV 2 Cx.1.2.2.2.2 (uGV u3_113 u3_115 us_24 u1_7 u3_116) rfl rfl rfl hdX4_get ⟨Nat.le_of_ble_eq_true rfl, Nat.le_of_ble_eq_true rfl⟩) 0 rfl rfl rfl rfl (Nat.le_of_ble_eq_true rfl) ⟨Nat.zero_le _, Nat.zero_le _⟩ dX4_decide_138 ?_
                  refine vV_iconst (v := 2) Cx dX4_decide_141 (by decide) ?_
                  refine vV_icmp_ne (tgt := 161) Cx dX4_decide_142 (by decide) (fun h142 => ?_) (fun h142 => ?_)
                  · exact vV_vret Cx hr hlk dX4_decide_161 (by exact congrArg (fun z => wN cI cZ ad E z N) (by clear Cx hr hlk; simp_all [-Int32.not_lt, -Int32.not_le, m_dec, m_d1, m_d2, m_late, m_wk, cS_same, cS_ne]))
                  · refine vV_aload_n Cx 0 dX4_decide_145 rfl rfl ?_
                    refine vV_iload_n Cx 1 dX4_decide_146 rfl rfl ?_
                    refine vV_iconst (v := 1) Cx dX4_decide_147 (by decide) ?_
                    refine vV_callVi Cx (KX4_get hi v7_1) (cwV 2 Cx.1.2.2.2.2 (uGV u3_113 u3_115 us_24 u1_7 u3_116) rfl rfl rfl hdX4_get ⟨Nat.le_of_ble_eq_true rfl, Nat.le_of_ble_eq_true rfl⟩) 0 rfl rfl rfl rfl (Nat.le_of_ble_eq_true rfl) ⟨Nat.zero_le _, Nat.zero_le _⟩ dX4_decide_148 ?_
                    refine vV_if_ne (tgt := 161) Cx dX4_decide_151 (by decide) (fun h151 => ?_) (fun h151 => ?_)
                    · exact vV_vret Cx hr hlk dX4_decide_161 (by exact congrArg (fun z => wN cI cZ ad E z N) (by clear Cx hr hlk; simp_all [-Int32.not_lt, -Int32.not_le, m_dec, m_d1, m_d2, m_late, m_wk, cS_same, cS_ne]))
                    · refine vV_aload_n Cx 0 dX4_decide_154 rfl rfl ?_
                      refine vV_iload_n Cx 1 dX4_decide_155 rfl rfl ?_
                      refine vV_iconst (v := 0) Cx dX4_decide_156 (by decide) ?_
                      refine vV_iconst (v := 3) Cx dX4_decide_157 (by decide) ?_
                      refine vV_callVv Cx (KX4_put hi v7_0 _) (cwV 3 Cx.1.2.2.2.2 (uGV u3_65 u3_67 us_19 u1_7 u3_68) rfl rfl rfl hdX4_put ⟨Nat.le_of_ble_eq_true rfl, Nat.le_of_ble_eq_true rfl⟩) 0 rfl rfl rfl rfl (Nat.le_of_ble_eq_true rfl) ⟨Nat.zero_le _, Nat.zero_le _⟩ dX4_decide_158 ?_
                      exact vV_vret Cx hr hlk dX4_decide_161 (by exact congrArg (fun z => wN cI cZ ad E z N) (by clear Cx hr hlk; simp_all [-Int32.not_lt, -Int32.not_le, m_dec, m_d1, m_d2, m_late, m_wk, cS_same, cS_ne]))
                · refine vV_aload_n Cx 0 dX4_decide_128 rfl rfl ?_
                  refine vV_iload_n Cx 1 dX4_decide_129 rfl rfl ?_
                  refine vV_iconst (v := 0) Cx dX4_decide_130 (by decide) ?_
                  refine vV_iconst (v := 2) Cx dX4_decide_131 (by decide) ?_
                  refine vV_callVv Cx (KX4_put hi v7_0 _) (cwV 3 Cx.1.2.2.2.2 (uGV u3_65 u3_67 us_19 u1_7 u3_68) rfl rfl rfl hdX4_put ⟨Nat.le_of_ble_eq_true rfl, Nat.le_of_ble_eq_true rfl⟩) 0 rfl rfl rfl rfl (Nat.le_of_ble_eq_true rfl) ⟨Nat.zero_le _, Nat.zero_le _⟩ dX4_decide_132 ?_
                  refine vV_aload_n Cx 0 dX4_decide_135 rfl rfl ?_
                  refine vV_iload_n Cx 1 dX4_decide_136 rfl rfl ?_
                  refine vV_iconst (v := 0) Cx dX4_decide_137 (by decide) ?_
                  refine vV_callVi Cx (KX4_get hi v7_0) (cwV 2 Cx.1.2.2.2.2 (uGV u3_113 u3_115 us_24 u1_7 u3_116) rfl rfl rfl hdX4_get ⟨Nat.le_of_ble_eq_true rfl, Nat.le_of_ble_eq_true rfl⟩) 0 rfl rfl rfl rfl (Nat.le_of_ble_eq_true rfl) ⟨Nat.zero_le _, Nat.zero_le _⟩ dX4_decide_138 ?_
                  refine vV_iconst (v := 2) Cx dX4_decide_141 (by decide) ?_
                  refine vV_icmp_ne (tgt := 161) Cx dX4_decide_142 (by decide) (fun h142 => ?_) (fun h142 => ?_)
                  · exact vV_vret Cx hr hlk dX4_decide_161 (by exact congrArg (fun z => wN cI cZ ad E z N) (by clear Cx hr hlk; simp_all [-Int32.not_lt, -Int32.not_le, m_dec, m_d1, m_d2, m_late, m_wk, cS_same, cS_ne]))
                  · refine vV_aload_n Cx 0 dX4_decide_145 rfl rfl ?_
                    refine vV_iload_n Cx 1 dX4_decide_146 rfl rfl ?_
                    refine vV_iconst (v := 1) Cx dX4_decide_147 (by decide) ?_
                    refine vV_callVi Cx (KX4_get hi v7_1) (cwV 2 Cx.1.2.2.2.2 (uGV u3_113 u3_115 us_24 u1_7 u3_116) rfl rfl rfl hdX4_get ⟨Nat.le_of_ble_eq_true rfl, Nat.le_of_ble_eq_true rfl⟩) 0 rfl rfl rfl rfl (Nat.le_of_ble_eq_true rfl) ⟨Nat.zero_le _, Nat.zero_le _⟩ dX4_decide_148 ?_
                    refine vV_if_ne (tgt := 161) Cx dX4_decide_151 (by decide) (fun h151 => ?_) (fun h151 => ?_)
                    · exact vV_vret Cx hr hlk dX4_decide_161 (by exact congrArg (fun z => wN cI cZ ad E z N) (by clear Cx hr hlk; simp_all [-Int32.not_lt, -Int32.not_le, m_dec, m_d1, m_d2, m_late, m_wk, cS_same, cS_ne]))
                    · refine vV_aload_n Cx 0 dX4_decide_154 rfl rfl ?_
                      refine vV_iload_n Cx 1 dX4_decide_155 rfl rfl ?_
                      refine vV_iconst (v := 0) Cx dX4_decide_156 (by decide) ?_
                      refine vV_iconst (v := 3) Cx dX4_decide_157 (by decide) ?_
                      refine vV_callVv Cx (KX4_put hi v7_0 _) (cwV 3 Cx.1.2.2.2.2 (uGV u3_65 u3_67 us_19 u1_7 u3_68) rfl rfl rfl hdX4_put ⟨Nat.le_of_ble_eq_true rfl, Nat.le_of_ble_eq_true rfl⟩) 0 rfl rfl rfl rfl (Nat.le_of_ble_eq_true rfl) ⟨Nat.zero_le _, Nat.zero_le _⟩ dX4_decide_158 ?_
                      exact vV_vret Cx hr hlk dX4_decide_161 (by exact congrArg (fun z => wN cI cZ ad E z N) (by clear Cx hr hlk; simp_all [-Int32.not_lt, -Int32.not_le, m_dec, m_d1, m_d2, m_late, m_wk, cS_same, cS_ne]))
    · refine vV_iload_n Cx 2 dX4_decide_28 rfl rfl ?_
      refine vV_if_eq (tgt := 60) Cx dX4_decide_29 (by decide) (fun h29 => ?_) (fun h29 => ?_)
      · refine vV_aload_n Cx 0 dX4_decide_60 rfl rfl ?_
        refine vU_get Cx hinX4 0 rfl rfl 4 (by decide) u2_231 rfl dX4_decide_61 ?_
        refine vV_aload_n Cx 0 dX4_decide_64 rfl rfl ?_
        refine vU_get Cx hinX4 0 rfl rfl 7 (by decide) u2_234 rfl dX4_decide_65 ?_
        refine vV_aload_n Cx 0 dX4_decide_68 rfl rfl ?_
        refine vU_get Cx hinX4 0 rfl rfl 9 (by decide) u2_236 rfl dX4_decide_69 ?_
        refine vV_iload_n Cx 1 dX4_decide_72 rfl rfl ?_
        refine vV_iald Cx 6 0 rfl rfl (by assumption) dX4_decide_73 ?_
        refine vV_iald Cx 5 0 rfl rfl (by assumption) dX4_decide_74 ?_
        refine vV_icmp_lt (tgt := 100) Cx dX4_decide_75 (by decide) (fun h75 => ?_) (fun h75 => ?_)
        · refine vV_iconst (v := 0) Cx dX4_decide_100 (by decide) ?_
          refine vV_istore_n Cx 3 dX4_decide_101 rfl (by decide) ?_
          refine vV_aload_n Cx 0 dX4_decide_102 rfl rfl ?_
          refine vV_iload_n Cx 1 dX4_decide_103 rfl rfl ?_
          refine vV_iconst (v := 0) Cx dX4_decide_104 (by decide) ?_
          refine vV_callVi Cx (KX4_get hi v7_0) (cwV 2 Cx.1.2.2.2.2 (uGV u3_113 u3_115 us_24 u1_7 u3_116) rfl rfl rfl hdX4_get ⟨Nat.le_of_ble_eq_true rfl, Nat.le_of_ble_eq_true rfl⟩) 0 rfl rfl rfl rfl (Nat.le_of_ble_eq_true rfl) ⟨Nat.zero_le _, Nat.zero_le _⟩ dX4_decide_105 ?_
          refine vV_iconst (v := 2) Cx dX4_decide_108 (by decide) ?_
          refine vV_icmp_ge (tgt := 135) Cx dX4_decide_109 (by decide) (fun h109 => ?_) (fun h109 => ?_)
          · refine vV_aload_n Cx 0 dX4_decide_135 rfl rfl ?_
            refine vV_iload_n Cx 1 dX4_decide_136 rfl rfl ?_
            refine vV_iconst (v := 0) Cx dX4_decide_137 (by decide) ?_
            refine vV_callVi Cx (KX4_get hi v7_0) (cwV 2 Cx.1.2.2.2.2 (uGV u3_113 u3_115 us_24 u1_7 u3_116) rfl rfl rfl hdX4_get ⟨Nat.le_of_ble_eq_true rfl, Nat.le_of_ble_eq_true rfl⟩) 0 rfl rfl rfl rfl (Nat.le_of_ble_eq_true rfl) ⟨Nat.zero_le _, Nat.zero_le _⟩ dX4_decide_138 ?_
            refine vV_iconst (v := 2) Cx dX4_decide_141 (by decide) ?_
            refine vV_icmp_ne (tgt := 161) Cx dX4_decide_142 (by decide) (fun h142 => ?_) (fun h142 => ?_)
            · exact vV_vret Cx hr hlk dX4_decide_161 (by exact congrArg (fun z => wN cI cZ ad E z N) (by clear Cx hr hlk; simp_all [-Int32.not_lt, -Int32.not_le, m_dec, m_d1, m_d2, m_late, m_wk, cS_same, cS_ne]))
            · refine vV_aload_n Cx 0 dX4_decide_145 rfl rfl ?_
              refine vV_iload_n Cx 1 dX4_decide_146 rfl rfl ?_
              refine vV_iconst (v := 1) Cx dX4_decide_147 (by decide) ?_
              refine vV_callVi Cx (KX4_get hi v7_1) (cwV 2 Cx.1.2.2.2.2 (uGV u3_113 u3_115 us_24 u1_7 u3_116) rfl rfl rfl hdX4_get ⟨Nat.le_of_ble_eq_true rfl, Nat.le_of_ble_eq_true rfl⟩) 0 rfl rfl rfl rfl (Nat.le_of_ble_eq_true rfl) ⟨Nat.zero_le _, Nat.zero_le _⟩ dX4_decide_148 ?_
              refine vV_if_ne (tgt := 161) Cx dX4_decide_151 (by decide) (fun h151 => ?_) (fun h151 => ?_)
              · exact vV_vret Cx hr hlk dX4_decide_161 (by exact congrArg (fun z => wN cI cZ ad E z N) (by clear Cx hr hlk; simp_all [-Int32.not_lt, -Int32.not_le, m_dec, m_d1, m_d2, m_late, m_wk, cS_same, cS_ne]))
              · refine vV_aload_n Cx 0 dX4_decide_154 rfl rfl ?_
                refine vV_iload_n Cx 1 dX4_decide_155 rfl rfl ?_
                refine vV_iconst (v := 0) Cx dX4_decide_156 (by decide) ?_
                refine vV_iconst (v := 3) Cx dX4_decide_157 (by decide) ?_
                refine vV_callVv Cx (KX4_put hi v7_0 _) (cwV 3 Cx.1.2.2.2.2 (uGV u3_65 u3_67 us_19 u1_7 u3_68) rfl rfl rfl hdX4_put ⟨Nat.le_of_ble_eq_true rfl, Nat.le_of_ble_eq_true rfl⟩) 0 rfl rfl rfl rfl (Nat.le_of_ble_eq_true rfl) ⟨Nat.zero_le _, Nat.zero_le _⟩ dX4_decide_158 ?_
                exact vV_vret Cx hr hlk dX4_decide_161 (by exact congrArg (fun z => wN cI cZ ad E z N) (by clear Cx hr hlk; simp_all [-Int32.not_lt, -Int32.not_le, m_dec, m_d1, m_d2, m_late, m_wk, cS_same, cS_ne]))
          · refine vV_iload_n Cx 2 dX4_decide_112 rfl rfl ?_
            refine vV_if_ne (tgt := 128) Cx dX4_decide_113 (by decide) (fun h113 => ?_) (fun h113 => ?_)
            · refine vV_aload_n Cx 0 dX4_decide_128 rfl rfl ?_
              refine vV_iload_n Cx 1 dX4_decide_129 rfl rfl ?_
              refine vV_iconst (v := 0) Cx dX4_decide_130 (by decide) ?_
              refine vV_iconst (v := 2) Cx dX4_decide_131 (by decide) ?_
              refine vV_callVv Cx (KX4_put hi v7_0 _) (cwV 3 Cx.1.2.2.2.2 (uGV u3_65 u3_67 us_19 u1_7 u3_68) rfl rfl rfl hdX4_put ⟨Nat.le_of_ble_eq_true rfl, Nat.le_of_ble_eq_true rfl⟩) 0 rfl rfl rfl rfl (Nat.le_of_ble_eq_true rfl) ⟨Nat.zero_le _, Nat.zero_le _⟩ dX4_decide_132 ?_
              refine vV_aload_n Cx 0 dX4_decide_135 rfl rfl ?_
              refine vV_iload_n Cx 1 dX4_decide_136 rfl rfl ?_
              refine vV_iconst (v := 0) Cx dX4_decide_137 (by decide) ?_
              refine vV_callVi Cx (KX4_get hi v7_0) (cwV 2 Cx.1.2.2.2.2 (uGV u3_113 u3_115 us_24 u1_7 u3_116) rfl rfl rfl hdX4_get ⟨Nat.le_of_ble_eq_true rfl, Nat.le_of_ble_eq_true rfl⟩) 0 rfl rfl rfl rfl (Nat.le_of_ble_eq_true rfl) ⟨Nat.zero_le _, Nat.zero_le _⟩ dX4_decide_138 ?_
              refine vV_iconst (v := 2) Cx dX4_decide_141 (by decide) ?_
              refine vV_icmp_ne (tgt := 161) Cx dX4_decide_142 (by decide) (fun h142 => ?_) (fun h142 => ?_)
              · exact vV_vret Cx hr hlk dX4_decide_161 (by exact congrArg (fun z => wN cI cZ ad E z N) (by clear Cx hr hlk; simp_all [-Int32.not_lt, -Int32.not_le, m_dec, m_d1, m_d2, m_late, m_wk, cS_same, cS_ne]))
              · refine vV_aload_n Cx 0 dX4_decide_145 rfl rfl ?_
                refine vV_iload_n Cx 1 dX4_decide_146 rfl rfl ?_
                refine vV_iconst (v := 1) Cx dX4_decide_147 (by decide) ?_
                refine vV_callVi Cx (KX4_get hi v7_1) (cwV 2 Cx.1.2.2.2.2 (uGV u3_113 u3_115 us_24 u1_7 u3_116) rfl rfl rfl hdX4_get ⟨Nat.le_of_ble_eq_true rfl, Nat.le_of_ble_eq_true rfl⟩) 0 rfl rfl rfl rfl (Nat.le_of_ble_eq_true rfl) ⟨Nat.zero_le _, Nat.zero_le _⟩ dX4_decide_148 ?_
                refine vV_if_ne (tgt := 161) Cx dX4_decide_151 (by decide) (fun h151 => ?_) (fun h151 => ?_)
                · exact vV_vret Cx hr hlk dX4_decide_161 (by exact congrArg (fun z => wN cI cZ ad E z N) (by clear Cx hr hlk; simp_all [-Int32.not_lt, -Int32.not_le, m_dec, m_d1, m_d2, m_late, m_wk, cS_same, cS_ne]))
                · refine vV_aload_n Cx 0 dX4_decide_154 rfl rfl ?_
                  refine vV_iload_n Cx 1 dX4_decide_155 rfl rfl ?_
                  refine vV_iconst (v := 0) Cx dX4_decide_156 (by decide) ?_
                  refine vV_iconst (v := 3) Cx dX4_decide_157 (by decide) ?_
                  refine vV_callVv Cx (KX4_put hi v7_0 _) (cwV 3 Cx.1.2.2.2.2 (uGV u3_65 u3_67 us_19 u1_7 u3_68) rfl rfl rfl hdX4_put ⟨Nat.le_of_ble_eq_true rfl, Nat.le_of_ble_eq_true rfl⟩) 0 rfl rfl rfl rfl (Nat.le_of_ble_eq_true rfl) ⟨Nat.zero_le _, Nat.zero_le _⟩ dX4_decide_158 ?_
                  exact vV_vret Cx hr hlk dX4_decide_161 (by exact congrArg (fun z => wN cI cZ ad E z N) (by clear Cx hr hlk; simp_all [-Int32.not_lt, -Int32.not_le, m_dec, m_d1, m_d2, m_late, m_wk, cS_same, cS_ne]))
            · refine vV_iload_n Cx 3 dX4_decide_116 rfl rfl ?_
              refine vV_if_ne (tgt := 128) Cx dX4_decide_117 (by decide) (fun h117 => ?_) (fun h117 => ?_)
              · refine vV_aload_n Cx 0 dX4_decide_128 rfl rfl ?_
                refine vV_iload_n Cx 1 dX4_decide_129 rfl rfl ?_
                refine vV_iconst (v := 0) Cx dX4_decide_130 (by decide) ?_
                refine vV_iconst (v := 2) Cx dX4_decide_131 (by decide) ?_
                refine vV_callVv Cx (KX4_put hi v7_0 _) (cwV 3 Cx.1.2.2.2.2 (uGV u3_65 u3_67 us_19 u1_7 u3_68) rfl rfl rfl hdX4_put ⟨Nat.le_of_ble_eq_true rfl, Nat.le_of_ble_eq_true rfl⟩) 0 rfl rfl rfl rfl (Nat.le_of_ble_eq_true rfl) ⟨Nat.zero_le _, Nat.zero_le _⟩ dX4_decide_132 ?_
                refine vV_aload_n Cx 0 dX4_decide_135 rfl rfl ?_
                refine vV_iload_n Cx 1 dX4_decide_136 rfl rfl ?_
                refine vV_iconst (v := 0) Cx dX4_decide_137 (by decide) ?_
                refine vV_callVi Cx (KX4_get hi v7_0) (cwV 2 Cx.1.2.2.2.2 (uGV u3_113 u3_115 us_24 u1_7 u3_116) rfl rfl rfl hdX4_get ⟨Nat.le_of_ble_eq_true rfl, Nat.le_of_ble_eq_true rfl⟩) 0 rfl rfl rfl rfl (Nat.le_of_ble_eq_true rfl) ⟨Nat.zero_le _, Nat.zero_le _⟩ dX4_decide_138 ?_
                refine vV_iconst (v := 2) Cx dX4_decide_141 (by decide) ?_
                refine vV_icmp_ne (tgt := 161) Cx dX4_decide_142 (by decide) (fun h142 => ?_) (fun h142 => ?_)
                · exact vV_vret Cx hr hlk dX4_decide_161 (by exact congrArg (fun z => wN cI cZ ad E z N) (by clear Cx hr hlk; simp_all [-Int32.not_lt, -Int32.not_le, m_dec, m_d1, m_d2, m_late, m_wk, cS_same, cS_ne]))
                · refine vV_aload_n Cx 0 dX4_decide_145 rfl rfl ?_
                  refine vV_iload_n Cx 1 dX4_decide_146 rfl rfl ?_
                  refine vV_iconst (v := 1) Cx dX4_decide_147 (by decide) ?_
                  refine vV_callVi Cx (KX4_get hi v7_1) (cwV 2 Cx.1.2.2.2.2 (uGV u3_113 u3_115 us_24 u1_7 u3_116) rfl rfl rfl hdX4_get ⟨Nat.le_of_ble_eq_true rfl, Nat.le_of_ble_eq_true rfl⟩) 0 rfl rfl rfl rfl (Nat.le_of_ble_eq_true rfl) ⟨Nat.zero_le _, Nat.zero_le _⟩ dX4_decide_148 ?_
                  refine vV_if_ne (tgt := 161) Cx dX4_decide_151 (by decide) (fun h151 => ?_) (fun h151 => ?_)
                  · exact vV_vret Cx hr hlk dX4_decide_161 (by exact congrArg (fun z => wN cI cZ ad E z N) (by clear Cx hr hlk; simp_all [-Int32.not_lt, -Int32.not_le, m_dec, m_d1, m_d2, m_late, m_wk, cS_same, cS_ne]))
                  · refine vV_aload_n Cx 0 dX4_decide_154 rfl rfl ?_
                    refine vV_iload_n Cx 1 dX4_decide_155 rfl rfl ?_
                    refine vV_iconst (v := 0) Cx dX4_decide_156 (by decide) ?_
                    refine vV_iconst (v := 3) Cx dX4_decide_157 (by decide) ?_
                    refine vV_callVv Cx (KX4_put hi v7_0 _) (cwV 3 Cx.1.2.2.2.2 (uGV u3_65 u3_67 us_19 u1_7 u3_68) rfl rfl rfl hdX4_put ⟨Nat.le_of_ble_eq_true rfl, Nat.le_of_ble_eq_true rfl⟩) 0 rfl rfl rfl rfl (Nat.le_of_ble_eq_true rfl) ⟨Nat.zero_le _, Nat.zero_le _⟩ dX4_decide_158 ?_
                    exact vV_vret Cx hr hlk dX4_decide_161 (by exact congrArg (fun z => wN cI cZ ad E z N) (by clear Cx hr hlk; simp_all [-Int32.not_lt, -Int32.not_le, m_dec, m_d1, m_d2, m_late, m_wk, cS_same, cS_ne]))
              · refine vV_aload_n Cx 0 dX4_decide_120 rfl rfl ?_
                refine vV_iload_n Cx 1 dX4_decide_121 rfl rfl ?_
                refine vV_callVi Cx (KX4_isWeak hi) (cwV 1 Cx.1.2.2.2.2 (uGV u3_121 u3_123 us_26 u1_7 u3_124) rfl rfl rfl hdX4_isWeak ⟨Nat.le_of_ble_eq_true rfl, Nat.le_of_ble_eq_true rfl⟩) 0 rfl rfl rfl rfl (Nat.le_of_ble_eq_true rfl) ⟨Nat.zero_le _, Nat.zero_le _⟩ dX4_decide_122 ?_
                refine vV_if_eq (tgt := 135) Cx dX4_decide_125 (by decide) (fun h125 => ?_) (fun h125 => ?_)
                · refine vV_aload_n Cx 0 dX4_decide_135 rfl rfl ?_
                  refine vV_iload_n Cx 1 dX4_decide_136 rfl rfl ?_
                  refine vV_iconst (v := 0) Cx dX4_decide_137 (by decide) ?_
                  refine vV_callVi Cx (KX4_get hi v7_0) (cwV 2 Cx.1.2.2.2.2 (uGV u3_113 u3_115 us_24 u1_7 u3_116) rfl rfl rfl hdX4_get ⟨Nat.le_of_ble_eq_true rfl, Nat.le_of_ble_eq_true rfl⟩) 0 rfl rfl rfl rfl (Nat.le_of_ble_eq_true rfl) ⟨Nat.zero_le _, Nat.zero_le _⟩ dX4_decide_138 ?_
                  refine vV_iconst (v := 2) Cx dX4_decide_141 (by decide) ?_
                  refine vV_icmp_ne (tgt := 161) Cx dX4_decide_142 (by decide) (fun h142 => ?_) (fun h142 => ?_)
                  · exact vV_vret Cx hr hlk dX4_decide_161 (by exact congrArg (fun z => wN cI cZ ad E z N) (by clear Cx hr hlk; simp_all [-Int32.not_lt, -Int32.not_le, m_dec, m_d1, m_d2, m_late, m_wk, cS_same, cS_ne]))
                  · refine vV_aload_n Cx 0 dX4_decide_145 rfl rfl ?_
                    refine vV_iload_n Cx 1 dX4_decide_146 rfl rfl ?_
                    refine vV_iconst (v := 1) Cx dX4_decide_147 (by decide) ?_
                    refine vV_callVi Cx (KX4_get hi v7_1) (cwV 2 Cx.1.2.2.2.2 (uGV u3_113 u3_115 us_24 u1_7 u3_116) rfl rfl rfl hdX4_get ⟨Nat.le_of_ble_eq_true rfl, Nat.le_of_ble_eq_true rfl⟩) 0 rfl rfl rfl rfl (Nat.le_of_ble_eq_true rfl) ⟨Nat.zero_le _, Nat.zero_le _⟩ dX4_decide_148 ?_
                    refine vV_if_ne (tgt := 161) Cx dX4_decide_151 (by decide) (fun h151 => ?_) (fun h151 => ?_)
                    · exact vV_vret Cx hr hlk dX4_decide_161 (by exact congrArg (fun z => wN cI cZ ad E z N) (by clear Cx hr hlk; simp_all [-Int32.not_lt, -Int32.not_le, m_dec, m_d1, m_d2, m_late, m_wk, cS_same, cS_ne]))
                    · refine vV_aload_n Cx 0 dX4_decide_154 rfl rfl ?_
                      refine vV_iload_n Cx 1 dX4_decide_155 rfl rfl ?_
                      refine vV_iconst (v := 0) Cx dX4_decide_156 (by decide) ?_
                      refine vV_iconst (v := 3) Cx dX4_decide_157 (by decide) ?_
                      refine vV_callVv Cx (KX4_put hi v7_0 _) (cwV 3 Cx.1.2.2.2.2 (uGV u3_65 u3_67 us_19 u1_7 u3_68) rfl rfl rfl hdX4_put ⟨Nat.le_of_ble_eq_true rfl, Nat.le_of_ble_eq_true rfl⟩) 0 rfl rfl rfl rfl (Nat.le_of_ble_eq_true rfl) ⟨Nat.zero_le _, Nat.zero_le _⟩ dX4_decide_158 ?_
                      exact vV_vret Cx hr hlk dX4_decide_161 (by exact congrArg (fun z => wN cI cZ ad E z N) (by clear Cx hr hlk; simp_all [-Int32.not_lt, -Int32.not_le, m_dec, m_d1, m_d2, m_late, m_wk, cS_same, cS_ne]))
                · refine vV_aload_n Cx 0 dX4_decide_128 rfl rfl ?_
                  refine vV_iload_n Cx 1 dX4_decide_129 rfl rfl ?_
                  refine vV_iconst (v := 0) Cx dX4_decide_130 (by decide) ?_
                  refine vV_iconst (v := 2) Cx dX4_decide_131 (by decide) ?_
                  refine vV_callVv Cx (KX4_put hi v7_0 _) (cwV 3 Cx.1.2.2.2.2 (uGV u3_65 u3_67 us_19 u1_7 u3_68) rfl rfl rfl hdX4_put ⟨Nat.le_of_ble_eq_true rfl, Nat.le_of_ble_eq_true rfl⟩) 0 rfl rfl rfl rfl (Nat.le_of_ble_eq_true rfl) ⟨Nat.zero_le _, Nat.zero_le _⟩ dX4_decide_132 ?_
                  refine vV_aload_n Cx 0 dX4_decide_135 rfl rfl ?_
                  refine vV_iload_n Cx 1 dX4_decide_136 rfl rfl ?_
                  refine vV_iconst (v := 0) Cx dX4_decide_137 (by decide) ?_
                  refine vV_callVi Cx (KX4_get hi v7_0) (cwV 2 Cx.1.2.2.2.2 (uGV u3_113 u3_115 us_24 u1_7 u3_116) rfl rfl rfl hdX4_get ⟨Nat.le_of_ble_eq_true rfl, Nat.le_of_ble_eq_true rfl⟩) 0 rfl rfl rfl rfl (Nat.le_of_ble_eq_true rfl) ⟨Nat.zero_le _, Nat.zero_le _⟩ dX4_decide_138 ?_
                  refine vV_iconst (v := 2) Cx dX4_decide_141 (by decide) ?_
                  refine vV_icmp_ne (tgt := 161) Cx dX4_decide_142 (by decide) (fun h142 => ?_) (fun h142 => ?_)
                  · exact vV_vret Cx hr hlk dX4_decide_161 (by exact congrArg (fun z => wN cI cZ ad E z N) (by clear Cx hr hlk; simp_all [-Int32.not_lt, -Int32.not_le, m_dec, m_d1, m_d2, m_late, m_wk, cS_same, cS_ne]))
                  · refine vV_aload_n Cx 0 dX4_decide_145 rfl rfl ?_
                    refine vV_iload_n Cx 1 dX4_decide_146 rfl rfl ?_
                    refine vV_iconst (v := 1) Cx dX4_decide_147 (by decide) ?_
                    refine vV_callVi Cx (KX4_get hi v7_1) (cwV 2 Cx.1.2.2.2.2 (uGV u3_113 u3_115 us_24 u1_7 u3_116) rfl rfl rfl hdX4_get ⟨Nat.le_of_ble_eq_true rfl, Nat.le_of_ble_eq_true rfl⟩) 0 rfl rfl rfl rfl (Nat.le_of_ble_eq_true rfl) ⟨Nat.zero_le _, Nat.zero_le _⟩ dX4_decide_148 ?_
                    refine vV_if_ne (tgt := 161) Cx dX4_decide_151 (by decide) (fun h151 => ?_) (fun h151 => ?_)
                    · exact vV_vret Cx hr hlk dX4_decide_161 (by exact congrArg (fun z => wN cI cZ ad E z N) (by clear Cx hr hlk; simp_all [-Int32.not_lt, -Int32.not_le, m_dec, m_d1, m_d2, m_late, m_wk, cS_same, cS_ne]))
                    · refine vV_aload_n Cx 0 dX4_decide_154 rfl rfl ?_
                      refine vV_iload_n Cx 1 dX4_decide_155 rfl rfl ?_
                      refine vV_iconst (v := 0) Cx dX4_decide_156 (by decide) ?_
                      refine vV_iconst (v := 3) Cx dX4_decide_157 (by decide) ?_
                      refine vV_callVv Cx (KX4_put hi v7_0 _) (cwV 3 Cx.1.2.2.2.2 (uGV u3_65 u3_67 us_19 u1_7 u3_68) rfl rfl rfl hdX4_put ⟨Nat.le_of_ble_eq_true rfl, Nat.le_of_ble_eq_true rfl⟩) 0 rfl rfl rfl rfl (Nat.le_of_ble_eq_true rfl) ⟨Nat.zero_le _, Nat.zero_le _⟩ dX4_decide_158 ?_
                      exact vV_vret Cx hr hlk dX4_decide_161 (by exact congrArg (fun z => wN cI cZ ad E z N) (by clear Cx hr hlk; simp_all [-Int32.not_lt, -Int32.not_le, m_dec, m_d1, m_d2, m_late, m_wk, cS_same, cS_ne]))
        · refine vV_aload_n Cx 0 dX4_decide_78 rfl rfl ?_
          refine vU_get Cx hinX4 0 rfl rfl 4 (by decide) u2_231 rfl dX4_decide_79 ?_
          refine vV_aload_n Cx 0 dX4_decide_82 rfl rfl ?_
          refine vU_get Cx hinX4 0 rfl rfl 6 (by decide) u2_233 rfl dX4_decide_83 ?_
          refine vV_aload_n Cx 0 dX4_decide_86 rfl rfl ?_
          refine vU_get Cx hinX4 0 rfl rfl 9 (by decide) u2_236 rfl dX4_decide_87 ?_
          refine vV_iload_n Cx 1 dX4_decide_90 rfl rfl ?_
          refine vV_iald Cx 6 0 rfl rfl (by assumption) dX4_decide_91 ?_
          refine vV_iald Cx 4 0 rfl rfl (by assumption) dX4_decide_92 ?_
          refine vV_icmp_lt (tgt := 100) Cx dX4_decide_93 (by decide) (fun h93 => ?_) (fun h93 => ?_)
          · refine vV_iconst (v := 0) Cx dX4_decide_100 (by decide) ?_
            refine vV_istore_n Cx 3 dX4_decide_101 rfl (by decide) ?_
            refine vV_aload_n Cx 0 dX4_decide_102 rfl rfl ?_
            refine vV_iload_n Cx 1 dX4_decide_103 rfl rfl ?_
            refine vV_iconst (v := 0) Cx dX4_decide_104 (by decide) ?_
            refine vV_callVi Cx (KX4_get hi v7_0) (cwV 2 Cx.1.2.2.2.2 (uGV u3_113 u3_115 us_24 u1_7 u3_116) rfl rfl rfl hdX4_get ⟨Nat.le_of_ble_eq_true rfl, Nat.le_of_ble_eq_true rfl⟩) 0 rfl rfl rfl rfl (Nat.le_of_ble_eq_true rfl) ⟨Nat.zero_le _, Nat.zero_le _⟩ dX4_decide_105 ?_
            refine vV_iconst (v := 2) Cx dX4_decide_108 (by decide) ?_
            refine vV_icmp_ge (tgt := 135) Cx dX4_decide_109 (by decide) (fun h109 => ?_) (fun h109 => ?_)
            · refine vV_aload_n Cx 0 dX4_decide_135 rfl rfl ?_
              refine vV_iload_n Cx 1 dX4_decide_136 rfl rfl ?_
              refine vV_iconst (v := 0) Cx dX4_decide_137 (by decide) ?_
              refine vV_callVi Cx (KX4_get hi v7_0) (cwV 2 Cx.1.2.2.2.2 (uGV u3_113 u3_115 us_24 u1_7 u3_116) rfl rfl rfl hdX4_get ⟨Nat.le_of_ble_eq_true rfl, Nat.le_of_ble_eq_true rfl⟩) 0 rfl rfl rfl rfl (Nat.le_of_ble_eq_true rfl) ⟨Nat.zero_le _, Nat.zero_le _⟩ dX4_decide_138 ?_
              refine vV_iconst (v := 2) Cx dX4_decide_141 (by decide) ?_
              refine vV_icmp_ne (tgt := 161) Cx dX4_decide_142 (by decide) (fun h142 => ?_) (fun h142 => ?_)
              · exact vV_vret Cx hr hlk dX4_decide_161 (by exact congrArg (fun z => wN cI cZ ad E z N) (by clear Cx hr hlk; simp_all [-Int32.not_lt, -Int32.not_le, m_dec, m_d1, m_d2, m_late, m_wk, cS_same, cS_ne]))
              · refine vV_aload_n Cx 0 dX4_decide_145 rfl rfl ?_
                refine vV_iload_n Cx 1 dX4_decide_146 rfl rfl ?_
                refine vV_iconst (v := 1) Cx dX4_decide_147 (by decide) ?_
                refine vV_callVi Cx (KX4_get hi v7_1) (cwV 2 Cx.1.2.2.2.2 (uGV u3_113 u3_115 us_24 u1_7 u3_116) rfl rfl rfl hdX4_get ⟨Nat.le_of_ble_eq_true rfl, Nat.le_of_ble_eq_true rfl⟩) 0 rfl rfl rfl rfl (Nat.le_of_ble_eq_true rfl) ⟨Nat.zero_le _, Nat.zero_le _⟩ dX4_decide_148 ?_
                refine vV_if_ne (tgt := 161) Cx dX4_decide_151 (by decide) (fun h151 => ?_) (fun h151 => ?_)
                · exact vV_vret Cx hr hlk dX4_decide_161 (by exact congrArg (fun z => wN cI cZ ad E z N) (by clear Cx hr hlk; simp_all [-Int32.not_lt, -Int32.not_le, m_dec, m_d1, m_d2, m_late, m_wk, cS_same, cS_ne]))
                · refine vV_aload_n Cx 0 dX4_decide_154 rfl rfl ?_
                  refine vV_iload_n Cx 1 dX4_decide_155 rfl rfl ?_
                  refine vV_iconst (v := 0) Cx dX4_decide_156 (by decide) ?_
                  refine vV_iconst (v := 3) Cx dX4_decide_157 (by decide) ?_
                  refine vV_callVv Cx (KX4_put hi v7_0 _) (cwV 3 Cx.1.2.2.2.2 (uGV u3_65 u3_67 us_19 u1_7 u3_68) rfl rfl rfl hdX4_put ⟨Nat.le_of_ble_eq_true rfl, Nat.le_of_ble_eq_true rfl⟩) 0 rfl rfl rfl rfl (Nat.le_of_ble_eq_true rfl) ⟨Nat.zero_le _, Nat.zero_le _⟩ dX4_decide_158 ?_
                  exact vV_vret Cx hr hlk dX4_decide_161 (by exact congrArg (fun z => wN cI cZ ad E z N) (by clear Cx hr hlk; simp_all [-Int32.not_lt, -Int32.not_le, m_dec, m_d1, m_d2, m_late, m_wk, cS_same, cS_ne]))
            · refine vV_iload_n Cx 2 dX4_decide_112 rfl rfl ?_
              refine vV_if_ne (tgt := 128) Cx dX4_decide_113 (by decide) (fun h113 => ?_) (fun h113 => ?_)
              · refine vV_aload_n Cx 0 dX4_decide_128 rfl rfl ?_
                refine vV_iload_n Cx 1 dX4_decide_129 rfl rfl ?_
                refine vV_iconst (v := 0) Cx dX4_decide_130 (by decide) ?_
                refine vV_iconst (v := 2) Cx dX4_decide_131 (by decide) ?_
                refine vV_callVv Cx (KX4_put hi v7_0 _) (cwV 3 Cx.1.2.2.2.2 (uGV u3_65 u3_67 us_19 u1_7 u3_68) rfl rfl rfl hdX4_put ⟨Nat.le_of_ble_eq_true rfl, Nat.le_of_ble_eq_true rfl⟩) 0 rfl rfl rfl rfl (Nat.le_of_ble_eq_true rfl) ⟨Nat.zero_le _, Nat.zero_le _⟩ dX4_decide_132 ?_
                refine vV_aload_n Cx 0 dX4_decide_135 rfl rfl ?_
                refine vV_iload_n Cx 1 dX4_decide_136 rfl rfl ?_
                refine vV_iconst (v := 0) Cx dX4_decide_137 (by decide) ?_
                refine vV_callVi Cx (KX4_get hi v7_0) (cwV 2 Cx.1.2.2.2.2 (uGV u3_113 u3_115 us_24 u1_7 u3_116) rfl rfl rfl hdX4_get ⟨Nat.le_of_ble_eq_true rfl, Nat.le_of_ble_eq_true rfl⟩) 0 rfl rfl rfl rfl (Nat.le_of_ble_eq_true rfl) ⟨Nat.zero_le _, Nat.zero_le _⟩ dX4_decide_138 ?_
                refine vV_iconst (v := 2) Cx dX4_decide_141 (by decide) ?_
                refine vV_icmp_ne (tgt := 161) Cx dX4_decide_142 (by decide) (fun h142 => ?_) (fun h142 => ?_)
                · exact vV_vret Cx hr hlk dX4_decide_161 (by exact congrArg (fun z => wN cI cZ ad E z N) (by clear Cx hr hlk; simp_all [-Int32.not_lt, -Int32.not_le, m_dec, m_d1, m_d2, m_late, m_wk, cS_same, cS_ne]))
                · refine vV_aload_n Cx 0 dX4_decide_145 rfl rfl ?_
                  refine vV_iload_n Cx 1 dX4_decide_146 rfl rfl ?_
                  refine vV_iconst (v := 1) Cx dX4_decide_147 (by decide) ?_
                  refine vV_callVi Cx (KX4_get hi v7_1) (cwV 2 Cx.1.2.2.2.2 (uGV u3_113 u3_115 us_24 u1_7 u3_116) rfl rfl rfl hdX4_get ⟨Nat.le_of_ble_eq_true rfl, Nat.le_of_ble_eq_true rfl⟩) 0 rfl rfl rfl rfl (Nat.le_of_ble_eq_true rfl) ⟨Nat.zero_le _, Nat.zero_le _⟩ dX4_decide_148 ?_
                  refine vV_if_ne (tgt := 161) Cx dX4_decide_151 (by decide) (fun h151 => ?_) (fun h151 => ?_)
                  · exact vV_vret Cx hr hlk dX4_decide_161 (by exact congrArg (fun z => wN cI cZ ad E z N) (by clear Cx hr hlk; simp_all [-Int32.not_lt, -Int32.not_le, m_dec, m_d1, m_d2, m_late, m_wk, cS_same, cS_ne]))
                  · refine vV_aload_n Cx 0 dX4_decide_154 rfl rfl ?_
                    refine vV_iload_n Cx 1 dX4_decide_155 rfl rfl ?_
                    refine vV_iconst (v := 0) Cx dX4_decide_156 (by decide) ?_
                    refine vV_iconst (v := 3) Cx dX4_decide_157 (by decide) ?_
                    refine vV_callVv Cx (KX4_put hi v7_0 _) (cwV 3 Cx.1.2.2.2.2 (uGV u3_65 u3_67 us_19 u1_7 u3_68) rfl rfl rfl hdX4_put ⟨Nat.le_of_ble_eq_true rfl, Nat.le_of_ble_eq_true rfl⟩) 0 rfl rfl rfl rfl (Nat.le_of_ble_eq_true rfl) ⟨Nat.zero_le _, Nat.zero_le _⟩ dX4_decide_158 ?_
                    exact vV_vret Cx hr hlk dX4_decide_161 (by exact congrArg (fun z => wN cI cZ ad E z N) (by clear Cx hr hlk; simp_all [-Int32.not_lt, -Int32.not_le, m_dec, m_d1, m_d2, m_late, m_wk, cS_same, cS_ne]))
              · refine vV_iload_n Cx 3 dX4_decide_116 rfl rfl ?_
                refine vV_if_ne (tgt := 128) Cx dX4_decide_117 (by decide) (fun h117 => ?_) (fun h117 => ?_)
                · refine vV_aload_n Cx 0 dX4_decide_128 rfl rfl ?_
                  refine vV_iload_n Cx 1 dX4_decide_129 rfl rfl ?_
                  refine vV_iconst (v := 0) Cx dX4_decide_130 (by decide) ?_
                  refine vV_iconst (v := 2) Cx dX4_decide_131 (by decide) ?_
                  refine vV_callVv Cx (KX4_put hi v7_0 _) (cwV 3 Cx.1.2.2.2.2 (uGV u3_65 u3_67 us_19 u1_7 u3_68) rfl rfl rfl hdX4_put ⟨Nat.le_of_ble_eq_true rfl, Nat.le_of_ble_eq_true rfl⟩) 0 rfl rfl rfl rfl (Nat.le_of_ble_eq_true rfl) ⟨Nat.zero_le _, Nat.zero_le _⟩ dX4_decide_132 ?_
                  refine vV_aload_n Cx 0 dX4_decide_135 rfl rfl ?_
                  refine vV_iload_n Cx 1 dX4_decide_136 rfl rfl ?_
                  refine vV_iconst (v := 0) Cx dX4_decide_137 (by decide) ?_
                  refine vV_callVi Cx (KX4_get hi v7_0) (cwV 2 Cx.1.2.2.2.2 (uGV u3_113 u3_115 us_24 u1_7 u3_116) rfl rfl rfl hdX4_get ⟨Nat.le_of_ble_eq_true rfl, Nat.le_of_ble_eq_true rfl⟩) 0 rfl rfl rfl rfl (Nat.le_of_ble_eq_true rfl) ⟨Nat.zero_le _, Nat.zero_le _⟩ dX4_decide_138 ?_
                  refine vV_iconst (v := 2) Cx dX4_decide_141 (by decide) ?_
                  refine vV_icmp_ne (tgt := 161) Cx dX4_decide_142 (by decide) (fun h142 => ?_) (fun h142 => ?_)
                  · exact vV_vret Cx hr hlk dX4_decide_161 (by exact congrArg (fun z => wN cI cZ ad E z N) (by clear Cx hr hlk; simp_all [-Int32.not_lt, -Int32.not_le, m_dec, m_d1, m_d2, m_late, m_wk, cS_same, cS_ne]))
                  · refine vV_aload_n Cx 0 dX4_decide_145 rfl rfl ?_
                    refine vV_iload_n Cx 1 dX4_decide_146 rfl rfl ?_
                    refine vV_iconst (v := 1) Cx dX4_decide_147 (by decide) ?_
                    refine vV_callVi Cx (KX4_get hi v7_1) (cwV 2 Cx.1.2.2.2.2 (uGV u3_113 u3_115 us_24 u1_7 u3_116) rfl rfl rfl hdX4_get ⟨Nat.le_of_ble_eq_true rfl, Nat.le_of_ble_eq_true rfl⟩) 0 rfl rfl rfl rfl (Nat.le_of_ble_eq_true rfl) ⟨Nat.zero_le _, Nat.zero_le _⟩ dX4_decide_148 ?_
                    refine vV_if_ne (tgt := 161) Cx dX4_decide_151 (by decide) (fun h151 => ?_) (fun h151 => ?_)
                    · exact vV_vret Cx hr hlk dX4_decide_161 (by exact congrArg (fun z => wN cI cZ ad E z N) (by clear Cx hr hlk; simp_all [-Int32.not_lt, -Int32.not_le, m_dec, m_d1, m_d2, m_late, m_wk, cS_same, cS_ne]))
                    · refine vV_aload_n Cx 0 dX4_decide_154 rfl rfl ?_
                      refine vV_iload_n Cx 1 dX4_decide_155 rfl rfl ?_
                      refine vV_iconst (v := 0) Cx dX4_decide_156 (by decide) ?_
                      refine vV_iconst (v := 3) Cx dX4_decide_157 (by decide) ?_
                      refine vV_callVv Cx (KX4_put hi v7_0 _) (cwV 3 Cx.1.2.2.2.2 (uGV u3_65 u3_67 us_19 u1_7 u3_68) rfl rfl rfl hdX4_put ⟨Nat.le_of_ble_eq_true rfl, Nat.le_of_ble_eq_true rfl⟩) 0 rfl rfl rfl rfl (Nat.le_of_ble_eq_true rfl) ⟨Nat.zero_le _, Nat.zero_le _⟩ dX4_decide_158 ?_
                      exact vV_vret Cx hr hlk dX4_decide_161 (by exact congrArg (fun z => wN cI cZ ad E z N) (by clear Cx hr hlk; simp_all [-Int32.not_lt, -Int32.not_le, m_dec, m_d1, m_d2, m_late, m_wk, cS_same, cS_ne]))
                · refine vV_aload_n Cx 0 dX4_decide_120 rfl rfl ?_
                  refine vV_iload_n Cx 1 dX4_decide_121 rfl rfl ?_
                  refine vV_callVi Cx (KX4_isWeak hi) (cwV 1 Cx.1.2.2.2.2 (uGV u3_121 u3_123 us_26 u1_7 u3_124) rfl rfl rfl hdX4_isWeak ⟨Nat.le_of_ble_eq_true rfl, Nat.le_of_ble_eq_true rfl⟩) 0 rfl rfl rfl rfl (Nat.le_of_ble_eq_true rfl) ⟨Nat.zero_le _, Nat.zero_le _⟩ dX4_decide_122 ?_
                  refine vV_if_eq (tgt := 135) Cx dX4_decide_125 (by decide) (fun h125 => ?_) (fun h125 => ?_)
                  · refine vV_aload_n Cx 0 dX4_decide_135 rfl rfl ?_
                    refine vV_iload_n Cx 1 dX4_decide_136 rfl rfl ?_
                    refine vV_iconst (v := 0) Cx dX4_decide_137 (by decide) ?_
                    refine vV_callVi Cx (KX4_get hi v7_0) (cwV 2 Cx.1.2.2.2.2 (uGV u3_113 u3_115 us_24 u1_7 u3_116) rfl rfl rfl hdX4_get ⟨Nat.le_of_ble_eq_true rfl, Nat.le_of_ble_eq_true rfl⟩) 0 rfl rfl rfl rfl (Nat.le_of_ble_eq_true rfl) ⟨Nat.zero_le _, Nat.zero_le _⟩ dX4_decide_138 ?_
                    refine vV_iconst (v := 2) Cx dX4_decide_141 (by decide) ?_
                    refine vV_icmp_ne (tgt := 161) Cx dX4_decide_142 (by decide) (fun h142 => ?_) (fun h142 => ?_)
                    · exact vV_vret Cx hr hlk dX4_decide_161 (by exact congrArg (fun z => wN cI cZ ad E z N) (by clear Cx hr hlk; simp_all [-Int32.not_lt, -Int32.not_le, m_dec, m_d1, m_d2, m_late, m_wk, cS_same, cS_ne]))
                    · refine vV_aload_n Cx 0 dX4_decide_145 rfl rfl ?_
                      refine vV_iload_n Cx 1 dX4_decide_146 rfl rfl ?_
                      refine vV_iconst (v := 1) Cx dX4_decide_147 (by decide) ?_
                      refine vV_callVi Cx (KX4_get hi v7_1) (cwV 2 Cx.1.2.2.2.2 (uGV u3_113 u3_115 us_24 u1_7 u3_116) rfl rfl rfl hdX4_get ⟨Nat.le_of_ble_eq_true rfl, Nat.le_of_ble_eq_true rfl⟩) 0 rfl rfl rfl rfl (Nat.le_of_ble_eq_true rfl) ⟨Nat.zero_le _, Nat.zero_le _⟩ dX4_decide_148 ?_
                      refine vV_if_ne (tgt := 161) Cx dX4_decide_151 (by decide) (fun h151 => ?_) (fun h151 => ?_)
                      · exact vV_vret Cx hr hlk dX4_decide_161 (by exact congrArg (fun z => wN cI cZ ad E z N) (by clear Cx hr hlk; simp_all [-Int32.not_lt, -Int32.not_le, m_dec, m_d1, m_d2, m_late, m_wk, cS_same, cS_ne]))
                      · refine vV_aload_n Cx 0 dX4_decide_154 rfl rfl ?_
                        refine vV_iload_n Cx 1 dX4_decide_155 rfl rfl ?_
                        refine vV_iconst (v := 0) Cx dX4_decide_156 (by decide) ?_
                        refine vV_iconst (v := 3) Cx dX4_decide_157 (by decide) ?_
                        refine vV_callVv Cx (KX4_put hi v7_0 _) (cwV 3 Cx.1.2.2.2.2 (uGV u3_65 u3_67 us_19 u1_7 u3_68) rfl rfl rfl hdX4_put ⟨Nat.le_of_ble_eq_true rfl, Nat.le_of_ble_eq_true rfl⟩) 0 rfl rfl rfl rfl (Nat.le_of_ble_eq_true rfl) ⟨Nat.zero_le _, Nat.zero_le _⟩ dX4_decide_158 ?_
                        exact vV_vret Cx hr hlk dX4_decide_161 (by exact congrArg (fun z => wN cI cZ ad E z N) (by clear Cx hr hlk; simp_all [-Int32.not_lt, -Int32.not_le, m_dec, m_d1, m_d2, m_late, m_wk, cS_same, cS_ne]))
                  · refine vV_aload_n Cx 0 dX4_decide_128 rfl rfl ?_
                    refine vV_iload_n Cx 1 dX4_decide_129 rfl rfl ?_
                    refine vV_iconst (v := 0) Cx dX4_decide_130 (by decide) ?_
                    refine vV_iconst (v := 2) Cx dX4_decide_131 (by decide) ?_
                    refine vV_callVv Cx (KX4_put hi v7_0 _) (cwV 3 Cx.1.2.2.2.2 (uGV u3_65 u3_67 us_19 u1_7 u3_68) rfl rfl rfl hdX4_put ⟨Nat.le_of_ble_eq_true rfl, Nat.le_of_ble_eq_true rfl⟩) 0 rfl rfl rfl rfl (Nat.le_of_ble_eq_true rfl) ⟨Nat.zero_le _, Nat.zero_le _⟩ dX4_decide_132 ?_
                    refine vV_aload_n Cx 0 dX4_decide_135 rfl rfl ?_
                    refine vV_iload_n Cx 1 dX4_decide_136 rfl rfl ?_
                    refine vV_iconst (v := 0) Cx dX4_decide_137 (by decide) ?_
                    refine vV_callVi Cx (KX4_get hi v7_0) (cwV 2 Cx.1.2.2.2.2 (uGV u3_113 u3_115 us_24 u1_7 u3_116) rfl rfl rfl hdX4_get ⟨Nat.le_of_ble_eq_true rfl, Nat.le_of_ble_eq_true rfl⟩) 0 rfl rfl rfl rfl (Nat.le_of_ble_eq_true rfl) ⟨Nat.zero_le _, Nat.zero_le _⟩ dX4_decide_138 ?_
                    refine vV_iconst (v := 2) Cx dX4_decide_141 (by decide) ?_
                    refine vV_icmp_ne (tgt := 161) Cx dX4_decide_142 (by decide) (fun h142 => ?_) (fun h142 => ?_)
                    · exact vV_vret Cx hr hlk dX4_decide_161 (by exact congrArg (fun z => wN cI cZ ad E z N) (by clear Cx hr hlk; simp_all [-Int32.not_lt, -Int32.not_le, m_dec, m_d1, m_d2, m_late, m_wk, cS_same, cS_ne]))
                    · refine vV_aload_n Cx 0 dX4_decide_145 rfl rfl ?_
                      refine vV_iload_n Cx 1 dX4_decide_146 rfl rfl ?_
                      refine vV_iconst (v := 1) Cx dX4_decide_147 (by decide) ?_
                      refine vV_callVi Cx (KX4_get hi v7_1) (cwV 2 Cx.1.2.2.2.2 (uGV u3_113 u3_115 us_24 u1_7 u3_116) rfl rfl rfl hdX4_get ⟨Nat.le_of_ble_eq_true rfl, Nat.le_of_ble_eq_true rfl⟩) 0 rfl rfl rfl rfl (Nat.le_of_ble_eq_true rfl) ⟨Nat.zero_le _, Nat.zero_le _⟩ dX4_decide_148 ?_
                      refine vV_if_ne (tgt := 161) Cx dX4_decide_151 (by decide) (fun h151 => ?_) (fun h151 => ?_)
                      · exact vV_vret Cx hr hlk dX4_decide_161 (by exact congrArg (fun z => wN cI cZ ad E z N) (by clear Cx hr hlk; simp_all [-Int32.not_lt, -Int32.not_le, m_dec, m_d1, m_d2, m_late, m_wk, cS_same, cS_ne]))
                      · refine vV_aload_n Cx 0 dX4_decide_154 rfl rfl ?_
                        refine vV_iload_n Cx 1 dX4_decide_155 rfl rfl ?_
                        refine vV_iconst (v := 0) Cx dX4_decide_156 (by decide) ?_
                        refine vV_iconst (v := 3) Cx dX4_decide_157 (by decide) ?_
                        refine vV_callVv Cx (KX4_put hi v7_0 _) (cwV 3 Cx.1.2.2.2.2 (uGV u3_65 u3_67 us_19 u1_7 u3_68) rfl rfl rfl hdX4_put ⟨Nat.le_of_ble_eq_true rfl, Nat.le_of_ble_eq_true rfl⟩) 0 rfl rfl rfl rfl (Nat.le_of_ble_eq_true rfl) ⟨Nat.zero_le _, Nat.zero_le _⟩ dX4_decide_158 ?_
                        exact vV_vret Cx hr hlk dX4_decide_161 (by exact congrArg (fun z => wN cI cZ ad E z N) (by clear Cx hr hlk; simp_all [-Int32.not_lt, -Int32.not_le, m_dec, m_d1, m_d2, m_late, m_wk, cS_same, cS_ne]))
          · refine vV_iconst (v := 1) Cx dX4_decide_96 (by decide) ?_
            refine vV_goto (tgt := 101) Cx dX4_decide_97 (by decide) ?_
            refine vV_istore_n Cx 3 dX4_decide_101 rfl (by decide) ?_
            refine vV_aload_n Cx 0 dX4_decide_102 rfl rfl ?_
            refine vV_iload_n Cx 1 dX4_decide_103 rfl rfl ?_
            refine vV_iconst (v := 0) Cx dX4_decide_104 (by decide) ?_
            refine vV_callVi Cx (KX4_get hi v7_0) (cwV 2 Cx.1.2.2.2.2 (uGV u3_113 u3_115 us_24 u1_7 u3_116) rfl rfl rfl hdX4_get ⟨Nat.le_of_ble_eq_true rfl, Nat.le_of_ble_eq_true rfl⟩) 0 rfl rfl rfl rfl (Nat.le_of_ble_eq_true rfl) ⟨Nat.zero_le _, Nat.zero_le _⟩ dX4_decide_105 ?_
            refine vV_iconst (v := 2) Cx dX4_decide_108 (by decide) ?_
            refine vV_icmp_ge (tgt := 135) Cx dX4_decide_109 (by decide) (fun h109 => ?_) (fun h109 => ?_)
            · refine vV_aload_n Cx 0 dX4_decide_135 rfl rfl ?_
              refine vV_iload_n Cx 1 dX4_decide_136 rfl rfl ?_
              refine vV_iconst (v := 0) Cx dX4_decide_137 (by decide) ?_
              refine vV_callVi Cx (KX4_get hi v7_0) (cwV 2 Cx.1.2.2.2.2 (uGV u3_113 u3_115 us_24 u1_7 u3_116) rfl rfl rfl hdX4_get ⟨Nat.le_of_ble_eq_true rfl, Nat.le_of_ble_eq_true rfl⟩) 0 rfl rfl rfl rfl (Nat.le_of_ble_eq_true rfl) ⟨Nat.zero_le _, Nat.zero_le _⟩ dX4_decide_138 ?_
              refine vV_iconst (v := 2) Cx dX4_decide_141 (by decide) ?_
              refine vV_icmp_ne (tgt := 161) Cx dX4_decide_142 (by decide) (fun h142 => ?_) (fun h142 => ?_)
              · exact vV_vret Cx hr hlk dX4_decide_161 (by exact congrArg (fun z => wN cI cZ ad E z N) (by clear Cx hr hlk; simp_all [-Int32.not_lt, -Int32.not_le, m_dec, m_d1, m_d2, m_late, m_wk, cS_same, cS_ne]))
              · refine vV_aload_n Cx 0 dX4_decide_145 rfl rfl ?_
                refine vV_iload_n Cx 1 dX4_decide_146 rfl rfl ?_
                refine vV_iconst (v := 1) Cx dX4_decide_147 (by decide) ?_
                refine vV_callVi Cx (KX4_get hi v7_1) (cwV 2 Cx.1.2.2.2.2 (uGV u3_113 u3_115 us_24 u1_7 u3_116) rfl rfl rfl hdX4_get ⟨Nat.le_of_ble_eq_true rfl, Nat.le_of_ble_eq_true rfl⟩) 0 rfl rfl rfl rfl (Nat.le_of_ble_eq_true rfl) ⟨Nat.zero_le _, Nat.zero_le _⟩ dX4_decide_148 ?_
                refine vV_if_ne (tgt := 161) Cx dX4_decide_151 (by decide) (fun h151 => ?_) (fun h151 => ?_)
                · exact vV_vret Cx hr hlk dX4_decide_161 (by exact congrArg (fun z => wN cI cZ ad E z N) (by clear Cx hr hlk; simp_all [-Int32.not_lt, -Int32.not_le, m_dec, m_d1, m_d2, m_late, m_wk, cS_same, cS_ne]))
                · refine vV_aload_n Cx 0 dX4_decide_154 rfl rfl ?_
                  refine vV_iload_n Cx 1 dX4_decide_155 rfl rfl ?_
                  refine vV_iconst (v := 0) Cx dX4_decide_156 (by decide) ?_
                  refine vV_iconst (v := 3) Cx dX4_decide_157 (by decide) ?_
                  refine vV_callVv Cx (KX4_put hi v7_0 _) (cwV 3 Cx.1.2.2.2.2 (uGV u3_65 u3_67 us_19 u1_7 u3_68) rfl rfl rfl hdX4_put ⟨Nat.le_of_ble_eq_true rfl, Nat.le_of_ble_eq_true rfl⟩) 0 rfl rfl rfl rfl (Nat.le_of_ble_eq_true rfl) ⟨Nat.zero_le _, Nat.zero_le _⟩ dX4_decide_158 ?_
                  exact vV_vret Cx hr hlk dX4_decide_161 (by exact congrArg (fun z => wN cI cZ ad E z N) (by clear Cx hr hlk; simp_all [-Int32.not_lt, -Int32.not_le, m_dec, m_d1, m_d2, m_late, m_wk, cS_same, cS_ne]))
            · refine vV_iload_n Cx 2 dX4_decide_112 rfl rfl ?_
              refine vV_if_ne (tgt := 128) Cx dX4_decide_113 (by decide) (fun h113 => ?_) (fun h113 => ?_)
              · refine vV_aload_n Cx 0 dX4_decide_128 rfl rfl ?_
                refine vV_iload_n Cx 1 dX4_decide_129 rfl rfl ?_
                refine vV_iconst (v := 0) Cx dX4_decide_130 (by decide) ?_
                refine vV_iconst (v := 2) Cx dX4_decide_131 (by decide) ?_
                refine vV_callVv Cx (KX4_put hi v7_0 _) (cwV 3 Cx.1.2.2.2.2 (uGV u3_65 u3_67 us_19 u1_7 u3_68) rfl rfl rfl hdX4_put ⟨Nat.le_of_ble_eq_true rfl, Nat.le_of_ble_eq_true rfl⟩) 0 rfl rfl rfl rfl (Nat.le_of_ble_eq_true rfl) ⟨Nat.zero_le _, Nat.zero_le _⟩ dX4_decide_132 ?_
                refine vV_aload_n Cx 0 dX4_decide_135 rfl rfl ?_
                refine vV_iload_n Cx 1 dX4_decide_136 rfl rfl ?_
                refine vV_iconst (v := 0) Cx dX4_decide_137 (by decide) ?_
                refine vV_callVi Cx (KX4_get hi v7_0) (cwV 2 Cx.1.2.2.2.2 (uGV u3_113 u3_115 us_24 u1_7 u3_116) rfl rfl rfl hdX4_get ⟨Nat.le_of_ble_eq_true rfl, Nat.le_of_ble_eq_true rfl⟩) 0 rfl rfl rfl rfl (Nat.le_of_ble_eq_true rfl) ⟨Nat.zero_le _, Nat.zero_le _⟩ dX4_decide_138 ?_
                refine vV_iconst (v := 2) Cx dX4_decide_141 (by decide) ?_
                refine vV_icmp_ne (tgt := 161) Cx dX4_decide_142 (by decide) (fun h142 => ?_) (fun h142 => ?_)
                · exact vV_vret Cx hr hlk dX4_decide_161 (by exact congrArg (fun z => wN cI cZ ad E z N) (by clear Cx hr hlk; simp_all [-Int32.not_lt, -Int32.not_le, m_dec, m_d1, m_d2, m_late, m_wk, cS_same, cS_ne]))
                · refine vV_aload_n Cx 0 dX4_decide_145 rfl rfl ?_
                  refine vV_iload_n Cx 1 dX4_decide_146 rfl rfl ?_
                  refine vV_iconst (v := 1) Cx dX4_decide_147 (by decide) ?_
                  refine vV_callVi Cx (KX4_get hi v7_1) (cwV 2 Cx.1.2.2.2.2 (uGV u3_113 u3_115 us_24 u1_7 u3_116) rfl rfl rfl hdX4_get ⟨Nat.le_of_ble_eq_true rfl, Nat.le_of_ble_eq_true rfl⟩) 0 rfl rfl rfl rfl (Nat.le_of_ble_eq_true rfl) ⟨Nat.zero_le _, Nat.zero_le _⟩ dX4_decide_148 ?_
                  refine vV_if_ne (tgt := 161) Cx dX4_decide_151 (by decide) (fun h151 => ?_) (fun h151 => ?_)
                  · exact vV_vret Cx hr hlk dX4_decide_161 (by exact congrArg (fun z => wN cI cZ ad E z N) (by clear Cx hr hlk; simp_all [-Int32.not_lt, -Int32.not_le, m_dec, m_d1, m_d2, m_late, m_wk, cS_same, cS_ne]))
                  · refine vV_aload_n Cx 0 dX4_decide_154 rfl rfl ?_
                    refine vV_iload_n Cx 1 dX4_decide_155 rfl rfl ?_
                    refine vV_iconst (v := 0) Cx dX4_decide_156 (by decide) ?_
                    refine vV_iconst (v := 3) Cx dX4_decide_157 (by decide) ?_
                    refine vV_callVv Cx (KX4_put hi v7_0 _) (cwV 3 Cx.1.2.2.2.2 (uGV u3_65 u3_67 us_19 u1_7 u3_68) rfl rfl rfl hdX4_put ⟨Nat.le_of_ble_eq_true rfl, Nat.le_of_ble_eq_true rfl⟩) 0 rfl rfl rfl rfl (Nat.le_of_ble_eq_true rfl) ⟨Nat.zero_le _, Nat.zero_le _⟩ dX4_decide_158 ?_
                    exact vV_vret Cx hr hlk dX4_decide_161 (by exact congrArg (fun z => wN cI cZ ad E z N) (by clear Cx hr hlk; simp_all [-Int32.not_lt, -Int32.not_le, m_dec, m_d1, m_d2, m_late, m_wk, cS_same, cS_ne]))
              · refine vV_iload_n Cx 3 dX4_decide_116 rfl rfl ?_
                refine vV_if_ne (tgt := 128) Cx dX4_decide_117 (by decide) (fun h117 => ?_) (fun h117 => ?_)
                · refine vV_aload_n Cx 0 dX4_decide_128 rfl rfl ?_
                  refine vV_iload_n Cx 1 dX4_decide_129 rfl rfl ?_
                  refine vV_iconst (v := 0) Cx dX4_decide_130 (by decide) ?_
                  refine vV_iconst (v := 2) Cx dX4_decide_131 (by decide) ?_
                  refine vV_callVv Cx (KX4_put hi v7_0 _) (cwV 3 Cx.1.2.2.2.2 (uGV u3_65 u3_67 us_19 u1_7 u3_68) rfl rfl rfl hdX4_put ⟨Nat.le_of_ble_eq_true rfl, Nat.le_of_ble_eq_true rfl⟩) 0 rfl rfl rfl rfl (Nat.le_of_ble_eq_true rfl) ⟨Nat.zero_le _, Nat.zero_le _⟩ dX4_decide_132 ?_
                  refine vV_aload_n Cx 0 dX4_decide_135 rfl rfl ?_
                  refine vV_iload_n Cx 1 dX4_decide_136 rfl rfl ?_
                  refine vV_iconst (v := 0) Cx dX4_decide_137 (by decide) ?_
                  refine vV_callVi Cx (KX4_get hi v7_0) (cwV 2 Cx.1.2.2.2.2 (uGV u3_113 u3_115 us_24 u1_7 u3_116) rfl rfl rfl hdX4_get ⟨Nat.le_of_ble_eq_true rfl, Nat.le_of_ble_eq_true rfl⟩) 0 rfl rfl rfl rfl (Nat.le_of_ble_eq_true rfl) ⟨Nat.zero_le _, Nat.zero_le _⟩ dX4_decide_138 ?_
                  refine vV_iconst (v := 2) Cx dX4_decide_141 (by decide) ?_
                  refine vV_icmp_ne (tgt := 161) Cx dX4_decide_142 (by decide) (fun h142 => ?_) (fun h142 => ?_)
                  · exact vV_vret Cx hr hlk dX4_decide_161 (by exact congrArg (fun z => wN cI cZ ad E z N) (by clear Cx hr hlk; simp_all [-Int32.not_lt, -Int32.not_le, m_dec, m_d1, m_d2, m_late, m_wk, cS_same, cS_ne]))
                  · refine vV_aload_n Cx 0 dX4_decide_145 rfl rfl ?_
                    refine vV_iload_n Cx 1 dX4_decide_146 rfl rfl ?_
                    refine vV_iconst (v := 1) Cx dX4_decide_147 (by decide) ?_
                    refine vV_callVi Cx (KX4_get hi v7_1) (cwV 2 Cx.1.2.2.2.2 (uGV u3_113 u3_115 us_24 u1_7 u3_116) rfl rfl rfl hdX4_get ⟨Nat.le_of_ble_eq_true rfl, Nat.le_of_ble_eq_true rfl⟩) 0 rfl rfl rfl rfl (Nat.le_of_ble_eq_true rfl) ⟨Nat.zero_le _, Nat.zero_le _⟩ dX4_decide_148 ?_
                    refine vV_if_ne (tgt := 161) Cx dX4_decide_151 (by decide) (fun h151 => ?_) (fun h151 => ?_)
                    · exact vV_vret Cx hr hlk dX4_decide_161 (by exact congrArg (fun z => wN cI cZ ad E z N) (by clear Cx hr hlk; simp_all [-Int32.not_lt, -Int32.not_le, m_dec, m_d1, m_d2, m_late, m_wk, cS_same, cS_ne]))
                    · refine vV_aload_n Cx 0 dX4_decide_154 rfl rfl ?_
                      refine vV_iload_n Cx 1 dX4_decide_155 rfl rfl ?_
                      refine vV_iconst (v := 0) Cx dX4_decide_156 (by decide) ?_
                      refine vV_iconst (v := 3) Cx dX4_decide_157 (by decide) ?_
                      refine vV_callVv Cx (KX4_put hi v7_0 _) (cwV 3 Cx.1.2.2.2.2 (uGV u3_65 u3_67 us_19 u1_7 u3_68) rfl rfl rfl hdX4_put ⟨Nat.le_of_ble_eq_true rfl, Nat.le_of_ble_eq_true rfl⟩) 0 rfl rfl rfl rfl (Nat.le_of_ble_eq_true rfl) ⟨Nat.zero_le _, Nat.zero_le _⟩ dX4_decide_158 ?_
                      exact vV_vret Cx hr hlk dX4_decide_161 (by exact congrArg (fun z => wN cI cZ ad E z N) (by clear Cx hr hlk; simp_all [-Int32.not_lt, -Int32.not_le, m_dec, m_d1, m_d2, m_late, m_wk, cS_same, cS_ne]))
                · refine vV_aload_n Cx 0 dX4_decide_120 rfl rfl ?_
                  refine vV_iload_n Cx 1 dX4_decide_121 rfl rfl ?_
                  refine vV_callVi Cx (KX4_isWeak hi) (cwV 1 Cx.1.2.2.2.2 (uGV u3_121 u3_123 us_26 u1_7 u3_124) rfl rfl rfl hdX4_isWeak ⟨Nat.le_of_ble_eq_true rfl, Nat.le_of_ble_eq_true rfl⟩) 0 rfl rfl rfl rfl (Nat.le_of_ble_eq_true rfl) ⟨Nat.zero_le _, Nat.zero_le _⟩ dX4_decide_122 ?_
                  refine vV_if_eq (tgt := 135) Cx dX4_decide_125 (by decide) (fun h125 => ?_) (fun h125 => ?_)
                  · refine vV_aload_n Cx 0 dX4_decide_135 rfl rfl ?_
                    refine vV_iload_n Cx 1 dX4_decide_136 rfl rfl ?_
                    refine vV_iconst (v := 0) Cx dX4_decide_137 (by decide) ?_
                    refine vV_callVi Cx (KX4_get hi v7_0) (cwV 2 Cx.1.2.2.2.2 (uGV u3_113 u3_115 us_24 u1_7 u3_116) rfl rfl rfl hdX4_get ⟨Nat.le_of_ble_eq_true rfl, Nat.le_of_ble_eq_true rfl⟩) 0 rfl rfl rfl rfl (Nat.le_of_ble_eq_true rfl) ⟨Nat.zero_le _, Nat.zero_le _⟩ dX4_decide_138 ?_
                    refine vV_iconst (v := 2) Cx dX4_decide_141 (by decide) ?_
                    refine vV_icmp_ne (tgt := 161) Cx dX4_decide_142 (by decide) (fun h142 => ?_) (fun h142 => ?_)
                    · exact vV_vret Cx hr hlk dX4_decide_161 (by exact congrArg (fun z => wN cI cZ ad E z N) (by clear Cx hr hlk; simp_all [-Int32.not_lt, -Int32.not_le, m_dec, m_d1, m_d2, m_late, m_wk, cS_same, cS_ne]))
                    · refine vV_aload_n Cx 0 dX4_decide_145 rfl rfl ?_
                      refine vV_iload_n Cx 1 dX4_decide_146 rfl rfl ?_
                      refine vV_iconst (v := 1) Cx dX4_decide_147 (by decide) ?_
                      refine vV_callVi Cx (KX4_get hi v7_1) (cwV 2 Cx.1.2.2.2.2 (uGV u3_113 u3_115 us_24 u1_7 u3_116) rfl rfl rfl hdX4_get ⟨Nat.le_of_ble_eq_true rfl, Nat.le_of_ble_eq_true rfl⟩) 0 rfl rfl rfl rfl (Nat.le_of_ble_eq_true rfl) ⟨Nat.zero_le _, Nat.zero_le _⟩ dX4_decide_148 ?_
                      refine vV_if_ne (tgt := 161) Cx dX4_decide_151 (by decide) (fun h151 => ?_) (fun h151 => ?_)
                      · exact vV_vret Cx hr hlk dX4_decide_161 (by exact congrArg (fun z => wN cI cZ ad E z N) (by clear Cx hr hlk; simp_all [-Int32.not_lt, -Int32.not_le, m_dec, m_d1, m_d2, m_late, m_wk, cS_same, cS_ne]))
                      · refine vV_aload_n Cx 0 dX4_decide_154 rfl rfl ?_
                        refine vV_iload_n Cx 1 dX4_decide_155 rfl rfl ?_
                        refine vV_iconst (v := 0) Cx dX4_decide_156 (by decide) ?_
                        refine vV_iconst (v := 3) Cx dX4_decide_157 (by decide) ?_
                        refine vV_callVv Cx (KX4_put hi v7_0 _) (cwV 3 Cx.1.2.2.2.2 (uGV u3_65 u3_67 us_19 u1_7 u3_68) rfl rfl rfl hdX4_put ⟨Nat.le_of_ble_eq_true rfl, Nat.le_of_ble_eq_true rfl⟩) 0 rfl rfl rfl rfl (Nat.le_of_ble_eq_true rfl) ⟨Nat.zero_le _, Nat.zero_le _⟩ dX4_decide_158 ?_
                        exact vV_vret Cx hr hlk dX4_decide_161 (by exact congrArg (fun z => wN cI cZ ad E z N) (by clear Cx hr hlk; simp_all [-Int32.not_lt, -Int32.not_le, m_dec, m_d1, m_d2, m_late, m_wk, cS_same, cS_ne]))
                  · refine vV_aload_n Cx 0 dX4_decide_128 rfl rfl ?_
                    refine vV_iload_n Cx 1 dX4_decide_129 rfl rfl ?_
                    refine vV_iconst (v := 0) Cx dX4_decide_130 (by decide) ?_
                    refine vV_iconst (v := 2) Cx dX4_decide_131 (by decide) ?_
                    refine vV_callVv Cx (KX4_put hi v7_0 _) (cwV 3 Cx.1.2.2.2.2 (uGV u3_65 u3_67 us_19 u1_7 u3_68) rfl rfl rfl hdX4_put ⟨Nat.le_of_ble_eq_true rfl, Nat.le_of_ble_eq_true rfl⟩) 0 rfl rfl rfl rfl (Nat.le_of_ble_eq_true rfl) ⟨Nat.zero_le _, Nat.zero_le _⟩ dX4_decide_132 ?_
                    refine vV_aload_n Cx 0 dX4_decide_135 rfl rfl ?_
                    refine vV_iload_n Cx 1 dX4_decide_136 rfl rfl ?_
                    refine vV_iconst (v := 0) Cx dX4_decide_137 (by decide) ?_
                    refine vV_callVi Cx (KX4_get hi v7_0) (cwV 2 Cx.1.2.2.2.2 (uGV u3_113 u3_115 us_24 u1_7 u3_116) rfl rfl rfl hdX4_get ⟨Nat.le_of_ble_eq_true rfl, Nat.le_of_ble_eq_true rfl⟩) 0 rfl rfl rfl rfl (Nat.le_of_ble_eq_true rfl) ⟨Nat.zero_le _, Nat.zero_le _⟩ dX4_decide_138 ?_
                    refine vV_iconst (v := 2) Cx dX4_decide_141 (by decide) ?_
                    refine vV_icmp_ne (tgt := 161) Cx dX4_decide_142 (by decide) (fun h142 => ?_) (fun h142 => ?_)
                    · exact vV_vret Cx hr hlk dX4_decide_161 (by exact congrArg (fun z => wN cI cZ ad E z N) (by clear Cx hr hlk; simp_all [-Int32.not_lt, -Int32.not_le, m_dec, m_d1, m_d2, m_late, m_wk, cS_same, cS_ne]))
                    · refine vV_aload_n Cx 0 dX4_decide_145 rfl rfl ?_
                      refine vV_iload_n Cx 1 dX4_decide_146 rfl rfl ?_
                      refine vV_iconst (v := 1) Cx dX4_decide_147 (by decide) ?_
                      refine vV_callVi Cx (KX4_get hi v7_1) (cwV 2 Cx.1.2.2.2.2 (uGV u3_113 u3_115 us_24 u1_7 u3_116) rfl rfl rfl hdX4_get ⟨Nat.le_of_ble_eq_true rfl, Nat.le_of_ble_eq_true rfl⟩) 0 rfl rfl rfl rfl (Nat.le_of_ble_eq_true rfl) ⟨Nat.zero_le _, Nat.zero_le _⟩ dX4_decide_148 ?_
                      refine vV_if_ne (tgt := 161) Cx dX4_decide_151 (by decide) (fun h151 => ?_) (fun h151 => ?_)
                      · exact vV_vret Cx hr hlk dX4_decide_161 (by exact congrArg (fun z => wN cI cZ ad E z N) (by clear Cx hr hlk; simp_all [-Int32.not_lt, -Int32.not_le, m_dec, m_d1, m_d2, m_late, m_wk, cS_same, cS_ne]))
                      · refine vV_aload_n Cx 0 dX4_decide_154 rfl rfl ?_
                        refine vV_iload_n Cx 1 dX4_decide_155 rfl rfl ?_
                        refine vV_iconst (v := 0) Cx dX4_decide_156 (by decide) ?_
                        refine vV_iconst (v := 3) Cx dX4_decide_157 (by decide) ?_
                        refine vV_callVv Cx (KX4_put hi v7_0 _) (cwV 3 Cx.1.2.2.2.2 (uGV u3_65 u3_67 us_19 u1_7 u3_68) rfl rfl rfl hdX4_put ⟨Nat.le_of_ble_eq_true rfl, Nat.le_of_ble_eq_true rfl⟩) 0 rfl rfl rfl rfl (Nat.le_of_ble_eq_true rfl) ⟨Nat.zero_le _, Nat.zero_le _⟩ dX4_decide_158 ?_
                        exact vV_vret Cx hr hlk dX4_decide_161 (by exact congrArg (fun z => wN cI cZ ad E z N) (by clear Cx hr hlk; simp_all [-Int32.not_lt, -Int32.not_le, m_dec, m_d1, m_d2, m_late, m_wk, cS_same, cS_ne]))
      · refine vV_aload_n Cx 0 dX4_decide_32 rfl rfl ?_
        refine vV_iload_n Cx 1 dX4_decide_33 rfl rfl ?_
        refine vV_iconst (v := 0) Cx dX4_decide_34 (by decide) ?_
        refine vV_iconst (v := 1) Cx dX4_decide_35 (by decide) ?_
        refine vV_callVv Cx (KX4_put hi v7_0 _) (cwV 3 Cx.1.2.2.2.2 (uGV u3_65 u3_67 us_19 u1_7 u3_68) rfl rfl rfl hdX4_put ⟨Nat.le_of_ble_eq_true rfl, Nat.le_of_ble_eq_true rfl⟩) 0 rfl rfl rfl rfl (Nat.le_of_ble_eq_true rfl) ⟨Nat.zero_le _, Nat.zero_le _⟩ dX4_decide_36 ?_
        refine vV_aload_n Cx 0 dX4_decide_39 rfl rfl ?_
        refine vV_iload_n Cx 1 dX4_decide_40 rfl rfl ?_
        refine vV_iconst (v := 4) Cx dX4_decide_41 (by decide) ?_
        refine vV_callVi Cx (KX4_get hi v7_4) (cwV 2 Cx.1.2.2.2.2 (uGV u3_113 u3_115 us_24 u1_7 u3_116) rfl rfl rfl hdX4_get ⟨Nat.le_of_ble_eq_true rfl, Nat.le_of_ble_eq_true rfl⟩) 0 rfl rfl rfl rfl (Nat.le_of_ble_eq_true rfl) ⟨Nat.zero_le _, Nat.zero_le _⟩ dX4_decide_42 ?_
        refine vV_iconst (v := -1) Cx dX4_decide_45 (by decide) ?_
        refine vV_icmp_ne (tgt := 59) Cx dX4_decide_46 (by decide) (fun h46 => ?_) (fun h46 => ?_)
        · exact vV_vret Cx hr hlk dX4_decide_59 (by exact congrArg (fun z => wN cI cZ ad E z N) (by clear Cx hr hlk; simp_all [-Int32.not_lt, -Int32.not_le, m_dec, m_d1, m_d2, m_late, m_wk, cS_same, cS_ne]))
        · refine vV_aload_n Cx 0 dX4_decide_49 rfl rfl ?_
          refine vV_iload_n Cx 1 dX4_decide_50 rfl rfl ?_
          refine vV_iconst (v := 4) Cx dX4_decide_51 (by decide) ?_
          refine vV_aload_n Cx 0 dX4_decide_52 rfl rfl ?_
          refine vU_get Cx hinX4 0 rfl rfl 4 (by decide) u2_231 rfl dX4_decide_53 ?_
          refine vV_callVv Cx (KX4_put hi v7_4 _) (cwV 3 Cx.1.2.2.2.2 (uGV u3_65 u3_67 us_19 u1_7 u3_68) rfl rfl rfl hdX4_put ⟨Nat.le_of_ble_eq_true rfl, Nat.le_of_ble_eq_true rfl⟩) 0 rfl rfl rfl rfl (Nat.le_of_ble_eq_true rfl) ⟨Nat.zero_le _, Nat.zero_le _⟩ dX4_decide_56 ?_
          exact vV_vret Cx hr hlk dX4_decide_59 (by exact congrArg (fun z => wN cI cZ ad E z N) (by clear Cx hr hlk; simp_all [-Int32.not_lt, -Int32.not_le, m_dec, m_d1, m_d2, m_late, m_wk, cS_same, cS_ne]))
  · replace h10 := h10.symm
    refine vV_iconst (v := 1) Cx dX4_decide_13 (by decide) ?_
    refine vV_goto (tgt := 18) Cx dX4_decide_14 (by decide) ?_
    refine vV_istore_n Cx 2 dX4_decide_18 rfl (by decide) ?_
    refine vV_aload_n Cx 0 dX4_decide_19 rfl rfl ?_
    refine vV_iload_n Cx 1 dX4_decide_20 rfl rfl ?_
    refine vV_iconst (v := 0) Cx dX4_decide_21 (by decide) ?_
    refine vV_callVi Cx (KX4_get hi v7_0) (cwV 2 Cx.1.2.2.2.2 (uGV u3_113 u3_115 us_24 u1_7 u3_116) rfl rfl rfl hdX4_get ⟨Nat.le_of_ble_eq_true rfl, Nat.le_of_ble_eq_true rfl⟩) 0 rfl rfl rfl rfl (Nat.le_of_ble_eq_true rfl) ⟨Nat.zero_le _, Nat.zero_le _⟩ dX4_decide_22 ?_
    refine vV_if_ne (tgt := 60) Cx dX4_decide_25 (by decide) (fun h25 => ?_) (fun h25 => ?_)
    · refine vV_aload_n Cx 0 dX4_decide_60 rfl rfl ?_
      refine vU_get Cx hinX4 0 rfl rfl 4 (by decide) u2_231 rfl dX4_decide_61 ?_
      refine vV_aload_n Cx 0 dX4_decide_64 rfl rfl ?_
      refine vU_get Cx hinX4 0 rfl rfl 7 (by decide) u2_234 rfl dX4_decide_65 ?_
      refine vV_aload_n Cx 0 dX4_decide_68 rfl rfl ?_
      refine vU_get Cx hinX4 0 rfl rfl 9 (by decide) u2_236 rfl dX4_decide_69 ?_
      refine vV_iload_n Cx 1 dX4_decide_72 rfl rfl ?_
      refine vV_iald Cx 6 0 rfl rfl (by assumption) dX4_decide_73 ?_
      refine vV_iald Cx 5 0 rfl rfl (by assumption) dX4_decide_74 ?_
      refine vV_icmp_lt (tgt := 100) Cx dX4_decide_75 (by decide) (fun h75 => ?_) (fun h75 => ?_)
      · refine vV_iconst (v := 0) Cx dX4_decide_100 (by decide) ?_
        refine vV_istore_n Cx 3 dX4_decide_101 rfl (by decide) ?_
        refine vV_aload_n Cx 0 dX4_decide_102 rfl rfl ?_
        refine vV_iload_n Cx 1 dX4_decide_103 rfl rfl ?_
        refine vV_iconst (v := 0) Cx dX4_decide_104 (by decide) ?_
        refine vV_callVi Cx (KX4_get hi v7_0) (cwV 2 Cx.1.2.2.2.2 (uGV u3_113 u3_115 us_24 u1_7 u3_116) rfl rfl rfl hdX4_get ⟨Nat.le_of_ble_eq_true rfl, Nat.le_of_ble_eq_true rfl⟩) 0 rfl rfl rfl rfl (Nat.le_of_ble_eq_true rfl) ⟨Nat.zero_le _, Nat.zero_le _⟩ dX4_decide_105 ?_
        refine vV_iconst (v := 2) Cx dX4_decide_108 (by decide) ?_
        refine vV_icmp_ge (tgt := 135) Cx dX4_decide_109 (by decide) (fun h109 => ?_) (fun h109 => ?_)
        · refine vV_aload_n Cx 0 dX4_decide_135 rfl rfl ?_
          refine vV_iload_n Cx 1 dX4_decide_136 rfl rfl ?_
          refine vV_iconst (v := 0) Cx dX4_decide_137 (by decide) ?_
          refine vV_callVi Cx (KX4_get hi v7_0) (cwV 2 Cx.1.2.2.2.2 (uGV u3_113 u3_115 us_24 u1_7 u3_116) rfl rfl rfl hdX4_get ⟨Nat.le_of_ble_eq_true rfl, Nat.le_of_ble_eq_true rfl⟩) 0 rfl rfl rfl rfl (Nat.le_of_ble_eq_true rfl) ⟨Nat.zero_le _, Nat.zero_le _⟩ dX4_decide_138 ?_
          refine vV_iconst (v := 2) Cx dX4_decide_141 (by decide) ?_
          refine vV_icmp_ne (tgt := 161) Cx dX4_decide_142 (by decide) (fun h142 => ?_) (fun h142 => ?_)
          · exact vV_vret Cx hr hlk dX4_decide_161 (by exact congrArg (fun z => wN cI cZ ad E z N) (by clear Cx hr hlk; simp_all [-Int32.not_lt, -Int32.not_le, m_dec, m_d1, m_d2, m_late, m_wk, cS_same, cS_ne]))
          · refine vV_aload_n Cx 0 dX4_decide_145 rfl rfl ?_
            refine vV_iload_n Cx 1 dX4_decide_146 rfl rfl ?_
            refine vV_iconst (v := 1) Cx dX4_decide_147 (by decide) ?_
            refine vV_callVi Cx (KX4_get hi v7_1) (cwV 2 Cx.1.2.2.2.2 (uGV u3_113 u3_115 us_24 u1_7 u3_116) rfl rfl rfl hdX4_get ⟨Nat.le_of_ble_eq_true rfl, Nat.le_of_ble_eq_true rfl⟩) 0 rfl rfl rfl rfl (Nat.le_of_ble_eq_true rfl) ⟨Nat.zero_le _, Nat.zero_le _⟩ dX4_decide_148 ?_
            refine vV_if_ne (tgt := 161) Cx dX4_decide_151 (by decide) (fun h151 => ?_) (fun h151 => ?_)
            · exact vV_vret Cx hr hlk dX4_decide_161 (by exact congrArg (fun z => wN cI cZ ad E z N) (by clear Cx hr hlk; simp_all [-Int32.not_lt, -Int32.not_le, m_dec, m_d1, m_d2, m_late, m_wk, cS_same, cS_ne]))
            · refine vV_aload_n Cx 0 dX4_decide_154 rfl rfl ?_
              refine vV_iload_n Cx 1 dX4_decide_155 rfl rfl ?_
              refine vV_iconst (v := 0) Cx dX4_decide_156 (by decide) ?_
              refine vV_iconst (v := 3) Cx dX4_decide_157 (by decide) ?_
              refine vV_callVv Cx (KX4_put hi v7_0 _) (cwV 3 Cx.1.2.2.2.2 (uGV u3_65 u3_67 us_19 u1_7 u3_68) rfl rfl rfl hdX4_put ⟨Nat.le_of_ble_eq_true rfl, Nat.le_of_ble_eq_true rfl⟩) 0 rfl rfl rfl rfl (Nat.le_of_ble_eq_true rfl) ⟨Nat.zero_le _, Nat.zero_le _⟩ dX4_decide_158 ?_
              exact vV_vret Cx hr hlk dX4_decide_161 (by exact congrArg (fun z => wN cI cZ ad E z N) (by clear Cx hr hlk; simp_all [-Int32.not_lt, -Int32.not_le, m_dec, m_d1, m_d2, m_late, m_wk, cS_same, cS_ne]))
        · refine vV_iload_n Cx 2 dX4_decide_112 rfl rfl ?_
          refine vV_if_ne (tgt := 128) Cx dX4_decide_113 (by decide) (fun h113 => ?_) (fun h113 => ?_)
          · refine vV_aload_n Cx 0 dX4_decide_128 rfl rfl ?_
            refine vV_iload_n Cx 1 dX4_decide_129 rfl rfl ?_
            refine vV_iconst (v := 0) Cx dX4_decide_130 (by decide) ?_
            refine vV_iconst (v := 2) Cx dX4_decide_131 (by decide) ?_
            refine vV_callVv Cx (KX4_put hi v7_0 _) (cwV 3 Cx.1.2.2.2.2 (uGV u3_65 u3_67 us_19 u1_7 u3_68) rfl rfl rfl hdX4_put ⟨Nat.le_of_ble_eq_true rfl, Nat.le_of_ble_eq_true rfl⟩) 0 rfl rfl rfl rfl (Nat.le_of_ble_eq_true rfl) ⟨Nat.zero_le _, Nat.zero_le _⟩ dX4_decide_132 ?_
            refine vV_aload_n Cx 0 dX4_decide_135 rfl rfl ?_
            refine vV_iload_n Cx 1 dX4_decide_136 rfl rfl ?_
            refine vV_iconst (v := 0) Cx dX4_decide_137 (by decide) ?_
            refine vV_callVi Cx (KX4_get hi v7_0) (cwV 2 Cx.1.2.2.2.2 (uGV u3_113 u3_115 us_24 u1_7 u3_116) rfl rfl rfl hdX4_get ⟨Nat.le_of_ble_eq_true rfl, Nat.le_of_ble_eq_true rfl⟩) 0 rfl rfl rfl rfl (Nat.le_of_ble_eq_true rfl) ⟨Nat.zero_le _, Nat.zero_le _⟩ dX4_decide_138 ?_
            refine vV_iconst (v := 2) Cx dX4_decide_141 (by decide) ?_
            refine vV_icmp_ne (tgt := 161) Cx dX4_decide_142 (by decide) (fun h142 => ?_) (fun h142 => ?_)
            · exact vV_vret Cx hr hlk dX4_decide_161 (by exact congrArg (fun z => wN cI cZ ad E z N) (by clear Cx hr hlk; simp_all [-Int32.not_lt, -Int32.not_le, m_dec, m_d1, m_d2, m_late, m_wk, cS_same, cS_ne]))
            · refine vV_aload_n Cx 0 dX4_decide_145 rfl rfl ?_
              refine vV_iload_n Cx 1 dX4_decide_146 rfl rfl ?_
              refine vV_iconst (v := 1) Cx dX4_decide_147 (by decide) ?_
              refine vV_callVi Cx (KX4_get hi v7_1) (cwV 2 Cx.1.2.2.2.2 (uGV u3_113 u3_115 us_24 u1_7 u3_116) rfl rfl rfl hdX4_get ⟨Nat.le_of_ble_eq_true rfl, Nat.le_of_ble_eq_true rfl⟩) 0 rfl rfl rfl rfl (Nat.le_of_ble_eq_true rfl) ⟨Nat.zero_le _, Nat.zero_le _⟩ dX4_decide_148 ?_
              refine vV_if_ne (tgt := 161) Cx dX4_decide_151 (by decide) (fun h151 => ?_) (fun h151 => ?_)
              · exact vV_vret Cx hr hlk dX4_decide_161 (by exact congrArg (fun z => wN cI cZ ad E z N) (by clear Cx hr hlk; simp_all [-Int32.not_lt, -Int32.not_le, m_dec, m_d1, m_d2, m_late, m_wk, cS_same, cS_ne]))
              · refine vV_aload_n Cx 0 dX4_decide_154 rfl rfl ?_
                refine vV_iload_n Cx 1 dX4_decide_155 rfl rfl ?_
                refine vV_iconst (v := 0) Cx dX4_decide_156 (by decide) ?_
                refine vV_iconst (v := 3) Cx dX4_decide_157 (by decide) ?_
                refine vV_callVv Cx (KX4_put hi v7_0 _) (cwV 3 Cx.1.2.2.2.2 (uGV u3_65 u3_67 us_19 u1_7 u3_68) rfl rfl rfl hdX4_put ⟨Nat.le_of_ble_eq_true rfl, Nat.le_of_ble_eq_true rfl⟩) 0 rfl rfl rfl rfl (Nat.le_of_ble_eq_true rfl) ⟨Nat.zero_le _, Nat.zero_le _⟩ dX4_decide_158 ?_
                exact vV_vret Cx hr hlk dX4_decide_161 (by exact congrArg (fun z => wN cI cZ ad E z N) (by clear Cx hr hlk; simp_all [-Int32.not_lt, -Int32.not_le, m_dec, m_d1, m_d2, m_late, m_wk, cS_same, cS_ne]))
          · refine vV_iload_n Cx 3 dX4_decide_116 rfl rfl ?_
            refine vV_if_ne (tgt := 128) Cx dX4_decide_117 (by decide) (fun h117 => ?_) (fun h117 => ?_)
            · refine vV_aload_n Cx 0 dX4_decide_128 rfl rfl ?_
              refine vV_iload_n Cx 1 dX4_decide_129 rfl rfl ?_
              refine vV_iconst (v := 0) Cx dX4_decide_130 (by decide) ?_
              refine vV_iconst (v := 2) Cx dX4_decide_131 (by decide) ?_
              refine vV_callVv Cx (KX4_put hi v7_0 _) (cwV 3 Cx.1.2.2.2.2 (uGV u3_65 u3_67 us_19 u1_7 u3_68) rfl rfl rfl hdX4_put ⟨Nat.le_of_ble_eq_true rfl, Nat.le_of_ble_eq_true rfl⟩) 0 rfl rfl rfl rfl (Nat.le_of_ble_eq_true rfl) ⟨Nat.zero_le _, Nat.zero_le _⟩ dX4_decide_132 ?_
              refine vV_aload_n Cx 0 dX4_decide_135 rfl rfl ?_
              refine vV_iload_n Cx 1 dX4_decide_136 rfl rfl ?_
              refine vV_iconst (v := 0) Cx dX4_decide_137 (by decide) ?_
              refine vV_callVi Cx (KX4_get hi v7_0) (cwV 2 Cx.1.2.2.2.2 (uGV u3_113 u3_115 us_24 u1_7 u3_116) rfl rfl rfl hdX4_get ⟨Nat.le_of_ble_eq_true rfl, Nat.le_of_ble_eq_true rfl⟩) 0 rfl rfl rfl rfl (Nat.le_of_ble_eq_true rfl) ⟨Nat.zero_le _, Nat.zero_le _⟩ dX4_decide_138 ?_
              refine vV_iconst (v := 2) Cx dX4_decide_141 (by decide) ?_
              refine vV_icmp_ne (tgt := 161) Cx dX4_decide_142 (by decide) (fun h142 => ?_) (fun h142 => ?_)
              · exact vV_vret Cx hr hlk dX4_decide_161 (by exact congrArg (fun z => wN cI cZ ad E z N) (by clear Cx hr hlk; simp_all [-Int32.not_lt, -Int32.not_le, m_dec, m_d1, m_d2, m_late, m_wk, cS_same, cS_ne]))
              · refine vV_aload_n Cx 0 dX4_decide_145 rfl rfl ?_
                refine vV_iload_n Cx 1 dX4_decide_146 rfl rfl ?_
                refine vV_iconst (v := 1) Cx dX4_decide_147 (by decide) ?_
                refine vV_callVi Cx (KX4_get hi v7_1) (cwV 2 Cx.1.2.2.2.2 (uGV u3_113 u3_115 us_24 u1_7 u3_116) rfl rfl rfl hdX4_get ⟨Nat.le_of_ble_eq_true rfl, Nat.le_of_ble_eq_true rfl⟩) 0 rfl rfl rfl rfl (Nat.le_of_ble_eq_true rfl) ⟨Nat.zero_le _, Nat.zero_le _⟩ dX4_decide_148 ?_
                refine vV_if_ne (tgt := 161) Cx dX4_decide_151 (by decide) (fun h151 => ?_) (fun h151 => ?_)
                · exact vV_vret Cx hr hlk dX4_decide_161 (by exact congrArg (fun z => wN cI cZ ad E z N) (by clear Cx hr hlk; simp_all [-Int32.not_lt, -Int32.not_le, m_dec, m_d1, m_d2, m_late, m_wk, cS_same, cS_ne]))
                · refine vV_aload_n Cx 0 dX4_decide_154 rfl rfl ?_
                  refine vV_iload_n Cx 1 dX4_decide_155 rfl rfl ?_
                  refine vV_iconst (v := 0) Cx dX4_decide_156 (by decide) ?_
                  refine vV_iconst (v := 3) Cx dX4_decide_157 (by decide) ?_
                  refine vV_callVv Cx (KX4_put hi v7_0 _) (cwV 3 Cx.1.2.2.2.2 (uGV u3_65 u3_67 us_19 u1_7 u3_68) rfl rfl rfl hdX4_put ⟨Nat.le_of_ble_eq_true rfl, Nat.le_of_ble_eq_true rfl⟩) 0 rfl rfl rfl rfl (Nat.le_of_ble_eq_true rfl) ⟨Nat.zero_le _, Nat.zero_le _⟩ dX4_decide_158 ?_
                  exact vV_vret Cx hr hlk dX4_decide_161 (by exact congrArg (fun z => wN cI cZ ad E z N) (by clear Cx hr hlk; simp_all [-Int32.not_lt, -Int32.not_le, m_dec, m_d1, m_d2, m_late, m_wk, cS_same, cS_ne]))
            · refine vV_aload_n Cx 0 dX4_decide_120 rfl rfl ?_
              refine vV_iload_n Cx 1 dX4_decide_121 rfl rfl ?_
              refine vV_callVi Cx (KX4_isWeak hi) (cwV 1 Cx.1.2.2.2.2 (uGV u3_121 u3_123 us_26 u1_7 u3_124) rfl rfl rfl hdX4_isWeak ⟨Nat.le_of_ble_eq_true rfl, Nat.le_of_ble_eq_true rfl⟩) 0 rfl rfl rfl rfl (Nat.le_of_ble_eq_true rfl) ⟨Nat.zero_le _, Nat.zero_le _⟩ dX4_decide_122 ?_
              refine vV_if_eq (tgt := 135) Cx dX4_decide_125 (by decide) (fun h125 => ?_) (fun h125 => ?_)
              · refine vV_aload_n Cx 0 dX4_decide_135 rfl rfl ?_
                refine vV_iload_n Cx 1 dX4_decide_136 rfl rfl ?_
                refine vV_iconst (v := 0) Cx dX4_decide_137 (by decide) ?_
                refine vV_callVi Cx (KX4_get hi v7_0) (cwV 2 Cx.1.2.2.2.2 (uGV u3_113 u3_115 us_24 u1_7 u3_116) rfl rfl rfl hdX4_get ⟨Nat.le_of_ble_eq_true rfl, Nat.le_of_ble_eq_true rfl⟩) 0 rfl rfl rfl rfl (Nat.le_of_ble_eq_true rfl) ⟨Nat.zero_le _, Nat.zero_le _⟩ dX4_decide_138 ?_
                refine vV_iconst (v := 2) Cx dX4_decide_141 (by decide) ?_
                refine vV_icmp_ne (tgt := 161) Cx dX4_decide_142 (by decide) (fun h142 => ?_) (fun h142 => ?_)
                · exact vV_vret Cx hr hlk dX4_decide_161 (by exact congrArg (fun z => wN cI cZ ad E z N) (by clear Cx hr hlk; simp_all [-Int32.not_lt, -Int32.not_le, m_dec, m_d1, m_d2, m_late, m_wk, cS_same, cS_ne]))
                · refine vV_aload_n Cx 0 dX4_decide_145 rfl rfl ?_
                  refine vV_iload_n Cx 1 dX4_decide_146 rfl rfl ?_
                  refine vV_iconst (v := 1) Cx dX4_decide_147 (by decide) ?_
                  refine vV_callVi Cx (KX4_get hi v7_1) (cwV 2 Cx.1.2.2.2.2 (uGV u3_113 u3_115 us_24 u1_7 u3_116) rfl rfl rfl hdX4_get ⟨Nat.le_of_ble_eq_true rfl, Nat.le_of_ble_eq_true rfl⟩) 0 rfl rfl rfl rfl (Nat.le_of_ble_eq_true rfl) ⟨Nat.zero_le _, Nat.zero_le _⟩ dX4_decide_148 ?_
                  refine vV_if_ne (tgt := 161) Cx dX4_decide_151 (by decide) (fun h151 => ?_) (fun h151 => ?_)
                  · exact vV_vret Cx hr hlk dX4_decide_161 (by exact congrArg (fun z => wN cI cZ ad E z N) (by clear Cx hr hlk; simp_all [-Int32.not_lt, -Int32.not_le, m_dec, m_d1, m_d2, m_late, m_wk, cS_same, cS_ne]))
                  · refine vV_aload_n Cx 0 dX4_decide_154 rfl rfl ?_
                    refine vV_iload_n Cx 1 dX4_decide_155 rfl rfl ?_
                    refine vV_iconst (v := 0) Cx dX4_decide_156 (by decide) ?_
                    refine vV_iconst (v := 3) Cx dX4_decide_157 (by decide) ?_
                    refine vV_callVv Cx (KX4_put hi v7_0 _) (cwV 3 Cx.1.2.2.2.2 (uGV u3_65 u3_67 us_19 u1_7 u3_68) rfl rfl rfl hdX4_put ⟨Nat.le_of_ble_eq_true rfl, Nat.le_of_ble_eq_true rfl⟩) 0 rfl rfl rfl rfl (Nat.le_of_ble_eq_true rfl) ⟨Nat.zero_le _, Nat.zero_le _⟩ dX4_decide_158 ?_
                    exact vV_vret Cx hr hlk dX4_decide_161 (by exact congrArg (fun z => wN cI cZ ad E z N) (by clear Cx hr hlk; simp_all [-Int32.not_lt, -Int32.not_le, m_dec, m_d1, m_d2, m_late, m_wk, cS_same, cS_ne]))
              · refine vV_aload_n Cx 0 dX4_decide_128 rfl rfl ?_
                refine vV_iload_n Cx 1 dX4_decide_129 rfl rfl ?_
                refine vV_iconst (v := 0) Cx dX4_decide_130 (by decide) ?_
                refine vV_iconst (v := 2) Cx dX4_decide_131 (by decide) ?_
                refine vV_callVv Cx (KX4_put hi v7_0 _) (cwV 3 Cx.1.2.2.2.2 (uGV u3_65 u3_67 us_19 u1_7 u3_68) rfl rfl rfl hdX4_put ⟨Nat.le_of_ble_eq_true rfl, Nat.le_of_ble_eq_true rfl⟩) 0 rfl rfl rfl rfl (Nat.le_of_ble_eq_true rfl) ⟨Nat.zero_le _, Nat.zero_le _⟩ dX4_decide_132 ?_
                refine vV_aload_n Cx 0 dX4_decide_135 rfl rfl ?_
                refine vV_iload_n Cx 1 dX4_decide_136 rfl rfl ?_
                refine vV_iconst (v := 0) Cx dX4_decide_137 (by decide) ?_
                refine vV_callVi Cx (KX4_get hi v7_0) (cwV 2 Cx.1.2.2.2.2 (uGV u3_113 u3_115 us_24 u1_7 u3_116) rfl rfl rfl hdX4_get ⟨Nat.le_of_ble_eq_true rfl, Nat.le_of_ble_eq_true rfl⟩) 0 rfl rfl rfl rfl (Nat.le_of_ble_eq_true rfl) ⟨Nat.zero_le _, Nat.zero_le _⟩ dX4_decide_138 ?_
                refine vV_iconst (v := 2) Cx dX4_decide_141 (by decide) ?_
                refine vV_icmp_ne (tgt := 161) Cx dX4_decide_142 (by decide) (fun h142 => ?_) (fun h142 => ?_)
                · exact vV_vret Cx hr hlk dX4_decide_161 (by exact congrArg (fun z => wN cI cZ ad E z N) (by clear Cx hr hlk; simp_all [-Int32.not_lt, -Int32.not_le, m_dec, m_d1, m_d2, m_late, m_wk, cS_same, cS_ne]))
                · refine vV_aload_n Cx 0 dX4_decide_145 rfl rfl ?_
                  refine vV_iload_n Cx 1 dX4_decide_146 rfl rfl ?_
                  refine vV_iconst (v := 1) Cx dX4_decide_147 (by decide) ?_
                  refine vV_callVi Cx (KX4_get hi v7_1) (cwV 2 Cx.1.2.2.2.2 (uGV u3_113 u3_115 us_24 u1_7 u3_116) rfl rfl rfl hdX4_get ⟨Nat.le_of_ble_eq_true rfl, Nat.le_of_ble_eq_true rfl⟩) 0 rfl rfl rfl rfl (Nat.le_of_ble_eq_true rfl) ⟨Nat.zero_le _, Nat.zero_le _⟩ dX4_decide_148 ?_
                  refine vV_if_ne (tgt := 161) Cx dX4_decide_151 (by decide) (fun h151 => ?_) (fun h151 => ?_)
                  · exact vV_vret Cx hr hlk dX4_decide_161 (by exact congrArg (fun z => wN cI cZ ad E z N) (by clear Cx hr hlk; simp_all [-Int32.not_lt, -Int32.not_le, m_dec, m_d1, m_d2, m_late, m_wk, cS_same, cS_ne]))
                  · refine vV_aload_n Cx 0 dX4_decide_154 rfl rfl ?_
                    refine vV_iload_n Cx 1 dX4_decide_155 rfl rfl ?_
                    refine vV_iconst (v := 0) Cx dX4_decide_156 (by decide) ?_
                    refine vV_iconst (v := 3) Cx dX4_decide_157 (by decide) ?_
                    refine vV_callVv Cx (KX4_put hi v7_0 _) (cwV 3 Cx.1.2.2.2.2 (uGV u3_65 u3_67 us_19 u1_7 u3_68) rfl rfl rfl hdX4_put ⟨Nat.le_of_ble_eq_true rfl, Nat.le_of_ble_eq_true rfl⟩) 0 rfl rfl rfl rfl (Nat.le_of_ble_eq_true rfl) ⟨Nat.zero_le _, Nat.zero_le _⟩ dX4_decide_158 ?_
                    exact vV_vret Cx hr hlk dX4_decide_161 (by exact congrArg (fun z => wN cI cZ ad E z N) (by clear Cx hr hlk; simp_all [-Int32.not_lt, -Int32.not_le, m_dec, m_d1, m_d2, m_late, m_wk, cS_same, cS_ne]))
      · refine vV_aload_n Cx 0 dX4_decide_78 rfl rfl ?_
        refine vU_get Cx hinX4 0 rfl rfl 4 (by decide) u2_231 rfl dX4_decide_79 ?_
        refine vV_aload_n Cx 0 dX4_decide_82 rfl rfl ?_
        refine vU_get Cx hinX4 0 rfl rfl 6 (by decide) u2_233 rfl dX4_decide_83 ?_
        refine vV_aload_n Cx 0 dX4_decide_86 rfl rfl ?_
        refine vU_get Cx hinX4 0 rfl rfl 9 (by decide) u2_236 rfl dX4_decide_87 ?_
        refine vV_iload_n Cx 1 dX4_decide_90 rfl rfl ?_
        refine vV_iald Cx 6 0 rfl rfl (by assumption) dX4_decide_91 ?_
        refine vV_iald Cx 4 0 rfl rfl (by assumption) dX4_decide_92 ?_
        refine vV_icmp_lt (tgt := 100) Cx dX4_decide_93 (by decide) (fun h93 => ?_) (fun h93 => ?_)
        · refine vV_iconst (v := 0) Cx dX4_decide_100 (by decide) ?_
          refine vV_istore_n Cx 3 dX4_decide_101 rfl (by decide) ?_
          refine vV_aload_n Cx 0 dX4_decide_102 rfl rfl ?_
          refine vV_iload_n Cx 1 dX4_decide_103 rfl rfl ?_
          refine vV_iconst (v := 0) Cx dX4_decide_104 (by decide) ?_
          refine vV_callVi Cx (KX4_get hi v7_0) (cwV 2 Cx.1.2.2.2.2 (uGV u3_113 u3_115 us_24 u1_7 u3_116) rfl rfl rfl hdX4_get ⟨Nat.le_of_ble_eq_true rfl, Nat.le_of_ble_eq_true rfl⟩) 0 rfl rfl rfl rfl (Nat.le_of_ble_eq_true rfl) ⟨Nat.zero_le _, Nat.zero_le _⟩ dX4_decide_105 ?_
          refine vV_iconst (v := 2) Cx dX4_decide_108 (by decide) ?_
          refine vV_icmp_ge (tgt := 135) Cx dX4_decide_109 (by decide) (fun h109 => ?_) (fun h109 => ?_)
          · refine vV_aload_n Cx 0 dX4_decide_135 rfl rfl ?_
            refine vV_iload_n Cx 1 dX4_decide_136 rfl rfl ?_
            refine vV_iconst (v := 0) Cx dX4_decide_137 (by decide) ?_
            refine vV_callVi Cx (KX4_get hi v7_0) (cwV 2 Cx.1.2.2.2.2 (uGV u3_113 u3_115 us_24 u1_7 u3_116) rfl rfl rfl hdX4_get ⟨Nat.le_of_ble_eq_true rfl, Nat.le_of_ble_eq_true rfl⟩) 0 rfl rfl rfl rfl (Nat.le_of_ble_eq_true rfl) ⟨Nat.zero_le _, Nat.zero_le _⟩ dX4_decide_138 ?_
            refine vV_iconst (v := 2) Cx dX4_decide_141 (by decide) ?_
            refine vV_icmp_ne (tgt := 161) Cx dX4_decide_142 (by decide) (fun h142 => ?_) (fun h142 => ?_)
            · exact vV_vret Cx hr hlk dX4_decide_161 (by exact congrArg (fun z => wN cI cZ ad E z N) (by clear Cx hr hlk; simp_all [-Int32.not_lt, -Int32.not_le, m_dec, m_d1, m_d2, m_late, m_wk, cS_same, cS_ne]))
            · refine vV_aload_n Cx 0 dX4_decide_145 rfl rfl ?_
              refine vV_iload_n Cx 1 dX4_decide_146 rfl rfl ?_
              refine vV_iconst (v := 1) Cx dX4_decide_147 (by decide) ?_
              refine vV_callVi Cx (KX4_get hi v7_1) (cwV 2 Cx.1.2.2.2.2 (uGV u3_113 u3_115 us_24 u1_7 u3_116) rfl rfl rfl hdX4_get ⟨Nat.le_of_ble_eq_true rfl, Nat.le_of_ble_eq_true rfl⟩) 0 rfl rfl rfl rfl (Nat.le_of_ble_eq_true rfl) ⟨Nat.zero_le _, Nat.zero_le _⟩ dX4_decide_148 ?_
              refine vV_if_ne (tgt := 161) Cx dX4_decide_151 (by decide) (fun h151 => ?_) (fun h151 => ?_)
              · exact vV_vret Cx hr hlk dX4_decide_161 (by exact congrArg (fun z => wN cI cZ ad E z N) (by clear Cx hr hlk; simp_all [-Int32.not_lt, -Int32.not_le, m_dec, m_d1, m_d2, m_late, m_wk, cS_same, cS_ne]))
              · refine vV_aload_n Cx 0 dX4_decide_154 rfl rfl ?_
                refine vV_iload_n Cx 1 dX4_decide_155 rfl rfl ?_
                refine vV_iconst (v := 0) Cx dX4_decide_156 (by decide) ?_
                refine vV_iconst (v := 3) Cx dX4_decide_157 (by decide) ?_
                refine vV_callVv Cx (KX4_put hi v7_0 _) (cwV 3 Cx.1.2.2.2.2 (uGV u3_65 u3_67 us_19 u1_7 u3_68) rfl rfl rfl hdX4_put ⟨Nat.le_of_ble_eq_true rfl, Nat.le_of_ble_eq_true rfl⟩) 0 rfl rfl rfl rfl (Nat.le_of_ble_eq_true rfl) ⟨Nat.zero_le _, Nat.zero_le _⟩ dX4_decide_158 ?_
                exact vV_vret Cx hr hlk dX4_decide_161 (by exact congrArg (fun z => wN cI cZ ad E z N) (by clear Cx hr hlk; simp_all [-Int32.not_lt, -Int32.not_le, m_dec, m_d1, m_d2, m_late, m_wk, cS_same, cS_ne]))
          · refine vV_iload_n Cx 2 dX4_decide_112 rfl rfl ?_
            refine vV_if_ne (tgt := 128) Cx dX4_decide_113 (by decide) (fun h113 => ?_) (fun h113 => ?_)
            · refine vV_aload_n Cx 0 dX4_decide_128 rfl rfl ?_
              refine vV_iload_n Cx 1 dX4_decide_129 rfl rfl ?_
              refine vV_iconst (v := 0) Cx dX4_decide_130 (by decide) ?_
              refine vV_iconst (v := 2) Cx dX4_decide_131 (by decide) ?_
              refine vV_callVv Cx (KX4_put hi v7_0 _) (cwV 3 Cx.1.2.2.2.2 (uGV u3_65 u3_67 us_19 u1_7 u3_68) rfl rfl rfl hdX4_put ⟨Nat.le_of_ble_eq_true rfl, Nat.le_of_ble_eq_true rfl⟩) 0 rfl rfl rfl rfl (Nat.le_of_ble_eq_true rfl) ⟨Nat.zero_le _, Nat.zero_le _⟩ dX4_decide_132 ?_
              refine vV_aload_n Cx 0 dX4_decide_135 rfl rfl ?_
              refine vV_iload_n Cx 1 dX4_decide_136 rfl rfl ?_
              refine vV_iconst (v := 0) Cx dX4_decide_137 (by decide) ?_
              refine vV_callVi Cx (KX4_get hi v7_0) (cwV 2 Cx.1.2.2.2.2 (uGV u3_113 u3_115 us_24 u1_7 u3_116) rfl rfl rfl hdX4_get ⟨Nat.le_of_ble_eq_true rfl, Nat.le_of_ble_eq_true rfl⟩) 0 rfl rfl rfl rfl (Nat.le_of_ble_eq_true rfl) ⟨Nat.zero_le _, Nat.zero_le _⟩ dX4_decide_138 ?_
              refine vV_iconst (v := 2) Cx dX4_decide_141 (by decide) ?_
              refine vV_icmp_ne (tgt := 161) Cx dX4_decide_142 (by decide) (fun h142 => ?_) (fun h142 => ?_)
              · exact vV_vret Cx hr hlk dX4_decide_161 (by exact congrArg (fun z => wN cI cZ ad E z N) (by clear Cx hr hlk; simp_all [-Int32.not_lt, -Int32.not_le, m_dec, m_d1, m_d2, m_late, m_wk, cS_same, cS_ne]))
              · refine vV_aload_n Cx 0 dX4_decide_145 rfl rfl ?_
                refine vV_iload_n Cx 1 dX4_decide_146 rfl rfl ?_
                refine vV_iconst (v := 1) Cx dX4_decide_147 (by decide) ?_
                refine vV_callVi Cx (KX4_get hi v7_1) (cwV 2 Cx.1.2.2.2.2 (uGV u3_113 u3_115 us_24 u1_7 u3_116) rfl rfl rfl hdX4_get ⟨Nat.le_of_ble_eq_true rfl, Nat.le_of_ble_eq_true rfl⟩) 0 rfl rfl rfl rfl (Nat.le_of_ble_eq_true rfl) ⟨Nat.zero_le _, Nat.zero_le _⟩ dX4_decide_148 ?_
                refine vV_if_ne (tgt := 161) Cx dX4_decide_151 (by decide) (fun h151 => ?_) (fun h151 => ?_)
                · exact vV_vret Cx hr hlk dX4_decide_161 (by exact congrArg (fun z => wN cI cZ ad E z N) (by clear Cx hr hlk; simp_all [-Int32.not_lt, -Int32.not_le, m_dec, m_d1, m_d2, m_late, m_wk, cS_same, cS_ne]))
                · refine vV_aload_n Cx 0 dX4_decide_154 rfl rfl ?_
                  refine vV_iload_n Cx 1 dX4_decide_155 rfl rfl ?_
                  refine vV_iconst (v := 0) Cx dX4_decide_156 (by decide) ?_
                  refine vV_iconst (v := 3) Cx dX4_decide_157 (by decide) ?_
                  refine vV_callVv Cx (KX4_put hi v7_0 _) (cwV 3 Cx.1.2.2.2.2 (uGV u3_65 u3_67 us_19 u1_7 u3_68) rfl rfl rfl hdX4_put ⟨Nat.le_of_ble_eq_true rfl, Nat.le_of_ble_eq_true rfl⟩) 0 rfl rfl rfl rfl (Nat.le_of_ble_eq_true rfl) ⟨Nat.zero_le _, Nat.zero_le _⟩ dX4_decide_158 ?_
                  exact vV_vret Cx hr hlk dX4_decide_161 (by exact congrArg (fun z => wN cI cZ ad E z N) (by clear Cx hr hlk; simp_all [-Int32.not_lt, -Int32.not_le, m_dec, m_d1, m_d2, m_late, m_wk, cS_same, cS_ne]))
            · refine vV_iload_n Cx 3 dX4_decide_116 rfl rfl ?_
              refine vV_if_ne (tgt := 128) Cx dX4_decide_117 (by decide) (fun h117 => ?_) (fun h117 => ?_)
              · refine vV_aload_n Cx 0 dX4_decide_128 rfl rfl ?_
                refine vV_iload_n Cx 1 dX4_decide_129 rfl rfl ?_
                refine vV_iconst (v := 0) Cx dX4_decide_130 (by decide) ?_
                refine vV_iconst (v := 2) Cx dX4_decide_131 (by decide) ?_
                refine vV_callVv Cx (KX4_put hi v7_0 _) (cwV 3 Cx.1.2.2.2.2 (uGV u3_65 u3_67 us_19 u1_7 u3_68) rfl rfl rfl hdX4_put ⟨Nat.le_of_ble_eq_true rfl, Nat.le_of_ble_eq_true rfl⟩) 0 rfl rfl rfl rfl (Nat.le_of_ble_eq_true rfl) ⟨Nat.zero_le _, Nat.zero_le _⟩ dX4_decide_132 ?_
                refine vV_aload_n Cx 0 dX4_decide_135 rfl rfl ?_
                refine vV_iload_n Cx 1 dX4_decide_136 rfl rfl ?_
                refine vV_iconst (v := 0) Cx dX4_decide_137 (by decide) ?_
                refine vV_callVi Cx (KX4_get hi v7_0) (cwV 2 Cx.1.2.2.2.2 (uGV u3_113 u3_115 us_24 u1_7 u3_116) rfl rfl rfl hdX4_get ⟨Nat.le_of_ble_eq_true rfl, Nat.le_of_ble_eq_true rfl⟩) 0 rfl rfl rfl rfl (Nat.le_of_ble_eq_true rfl) ⟨Nat.zero_le _, Nat.zero_le _⟩ dX4_decide_138 ?_
                refine vV_iconst (v := 2) Cx dX4_decide_141 (by decide) ?_
                refine vV_icmp_ne (tgt := 161) Cx dX4_decide_142 (by decide) (fun h142 => ?_) (fun h142 => ?_)
                · exact vV_vret Cx hr hlk dX4_decide_161 (by exact congrArg (fun z => wN cI cZ ad E z N) (by clear Cx hr hlk; simp_all [-Int32.not_lt, -Int32.not_le, m_dec, m_d1, m_d2, m_late, m_wk, cS_same, cS_ne]))
                · refine vV_aload_n Cx 0 dX4_decide_145 rfl rfl ?_
                  refine vV_iload_n Cx 1 dX4_decide_146 rfl rfl ?_
                  refine vV_iconst (v := 1) Cx dX4_decide_147 (by decide) ?_
                  refine vV_callVi Cx (KX4_get hi v7_1) (cwV 2 Cx.1.2.2.2.2 (uGV u3_113 u3_115 us_24 u1_7 u3_116) rfl rfl rfl hdX4_get ⟨Nat.le_of_ble_eq_true rfl, Nat.le_of_ble_eq_true rfl⟩) 0 rfl rfl rfl rfl (Nat.le_of_ble_eq_true rfl) ⟨Nat.zero_le _, Nat.zero_le _⟩ dX4_decide_148 ?_
                  refine vV_if_ne (tgt := 161) Cx dX4_decide_151 (by decide) (fun h151 => ?_) (fun h151 => ?_)
                  · exact vV_vret Cx hr hlk dX4_decide_161 (by exact congrArg (fun z => wN cI cZ ad E z N) (by clear Cx hr hlk; simp_all [-Int32.not_lt, -Int32.not_le, m_dec, m_d1, m_d2, m_late, m_wk, cS_same, cS_ne]))
                  · refine vV_aload_n Cx 0 dX4_decide_154 rfl rfl ?_
                    refine vV_iload_n Cx 1 dX4_decide_155 rfl rfl ?_
                    refine vV_iconst (v := 0) Cx dX4_decide_156 (by decide) ?_
                    refine vV_iconst (v := 3) Cx dX4_decide_157 (by decide) ?_
                    refine vV_callVv Cx (KX4_put hi v7_0 _) (cwV 3 Cx.1.2.2.2.2 (uGV u3_65 u3_67 us_19 u1_7 u3_68) rfl rfl rfl hdX4_put ⟨Nat.le_of_ble_eq_true rfl, Nat.le_of_ble_eq_true rfl⟩) 0 rfl rfl rfl rfl (Nat.le_of_ble_eq_true rfl) ⟨Nat.zero_le _, Nat.zero_le _⟩ dX4_decide_158 ?_
                    exact vV_vret Cx hr hlk dX4_decide_161 (by exact congrArg (fun z => wN cI cZ ad E z N) (by clear Cx hr hlk; simp_all [-Int32.not_lt, -Int32.not_le, m_dec, m_d1, m_d2, m_late, m_wk, cS_same, cS_ne]))
              · refine vV_aload_n Cx 0 dX4_decide_120 rfl rfl ?_
                refine vV_iload_n Cx 1 dX4_decide_121 rfl rfl ?_
                refine vV_callVi Cx (KX4_isWeak hi) (cwV 1 Cx.1.2.2.2.2 (uGV u3_121 u3_123 us_26 u1_7 u3_124) rfl rfl rfl hdX4_isWeak ⟨Nat.le_of_ble_eq_true rfl, Nat.le_of_ble_eq_true rfl⟩) 0 rfl rfl rfl rfl (Nat.le_of_ble_eq_true rfl) ⟨Nat.zero_le _, Nat.zero_le _⟩ dX4_decide_122 ?_
                refine vV_if_eq (tgt := 135) Cx dX4_decide_125 (by decide) (fun h125 => ?_) (fun h125 => ?_)
                · refine vV_aload_n Cx 0 dX4_decide_135 rfl rfl ?_
                  refine vV_iload_n Cx 1 dX4_decide_136 rfl rfl ?_
                  refine vV_iconst (v := 0) Cx dX4_decide_137 (by decide) ?_
                  refine vV_callVi Cx (KX4_get hi v7_0) (cwV 2 Cx.1.2.2.2.2 (uGV u3_113 u3_115 us_24 u1_7 u3_116) rfl rfl rfl hdX4_get ⟨Nat.le_of_ble_eq_true rfl, Nat.le_of_ble_eq_true rfl⟩) 0 rfl rfl rfl rfl (Nat.le_of_ble_eq_true rfl) ⟨Nat.zero_le _, Nat.zero_le _⟩ dX4_decide_138 ?_
                  refine vV_iconst (v := 2) Cx dX4_decide_141 (by decide) ?_
                  refine vV_icmp_ne (tgt := 161) Cx dX4_decide_142 (by decide) (fun h142 => ?_) (fun h142 => ?_)
                  · exact vV_vret Cx hr hlk dX4_decide_161 (by exact congrArg (fun z => wN cI cZ ad E z N) (by clear Cx hr hlk; simp_all [-Int32.not_lt, -Int32.not_le, m_dec, m_d1, m_d2, m_late, m_wk, cS_same, cS_ne]))
                  · refine vV_aload_n Cx 0 dX4_decide_145 rfl rfl ?_
                    refine vV_iload_n Cx 1 dX4_decide_146 rfl rfl ?_
                    refine vV_iconst (v := 1) Cx dX4_decide_147 (by decide) ?_
                    refine vV_callVi Cx (KX4_get hi v7_1) (cwV 2 Cx.1.2.2.2.2 (uGV u3_113 u3_115 us_24 u1_7 u3_116) rfl rfl rfl hdX4_get ⟨Nat.le_of_ble_eq_true rfl, Nat.le_of_ble_eq_true rfl⟩) 0 rfl rfl rfl rfl (Nat.le_of_ble_eq_true rfl) ⟨Nat.zero_le _, Nat.zero_le _⟩ dX4_decide_148 ?_
                    refine vV_if_ne (tgt := 161) Cx dX4_decide_151 (by decide) (fun h151 => ?_) (fun h151 => ?_)
                    · exact vV_vret Cx hr hlk dX4_decide_161 (by exact congrArg (fun z => wN cI cZ ad E z N) (by clear Cx hr hlk; simp_all [-Int32.not_lt, -Int32.not_le, m_dec, m_d1, m_d2, m_late, m_wk, cS_same, cS_ne]))
                    · refine vV_aload_n Cx 0 dX4_decide_154 rfl rfl ?_
                      refine vV_iload_n Cx 1 dX4_decide_155 rfl rfl ?_
                      refine vV_iconst (v := 0) Cx dX4_decide_156 (by decide) ?_
                      refine vV_iconst (v := 3) Cx dX4_decide_157 (by decide) ?_
                      refine vV_callVv Cx (KX4_put hi v7_0 _) (cwV 3 Cx.1.2.2.2.2 (uGV u3_65 u3_67 us_19 u1_7 u3_68) rfl rfl rfl hdX4_put ⟨Nat.le_of_ble_eq_true rfl, Nat.le_of_ble_eq_true rfl⟩) 0 rfl rfl rfl rfl (Nat.le_of_ble_eq_true rfl) ⟨Nat.zero_le _, Nat.zero_le _⟩ dX4_decide_158 ?_
                      exact vV_vret Cx hr hlk dX4_decide_161 (by exact congrArg (fun z => wN cI cZ ad E z N) (by clear Cx hr hlk; simp_all [-Int32.not_lt, -Int32.not_le, m_dec, m_d1, m_d2, m_late, m_wk, cS_same, cS_ne]))
                · refine vV_aload_n Cx 0 dX4_decide_128 rfl rfl ?_
                  refine vV_iload_n Cx 1 dX4_decide_129 rfl rfl ?_
                  refine vV_iconst (v := 0) Cx dX4_decide_130 (by decide) ?_
                  refine vV_iconst (v := 2) Cx dX4_decide_131 (by decide) ?_
                  refine vV_callVv Cx (KX4_put hi v7_0 _) (cwV 3 Cx.1.2.2.2.2 (uGV u3_65 u3_67 us_19 u1_7 u3_68) rfl rfl rfl hdX4_put ⟨Nat.le_of_ble_eq_true rfl, Nat.le_of_ble_eq_true rfl⟩) 0 rfl rfl rfl rfl (Nat.le_of_ble_eq_true rfl) ⟨Nat.zero_le _, Nat.zero_le _⟩ dX4_decide_132 ?_
                  refine vV_aload_n Cx 0 dX4_decide_135 rfl rfl ?_
                  refine vV_iload_n Cx 1 dX4_decide_136 rfl rfl ?_
                  refine vV_iconst (v := 0) Cx dX4_decide_137 (by decide) ?_
                  refine vV_callVi Cx (KX4_get hi v7_0) (cwV 2 Cx.1.2.2.2.2 (uGV u3_113 u3_115 us_24 u1_7 u3_116) rfl rfl rfl hdX4_get ⟨Nat.le_of_ble_eq_true rfl, Nat.le_of_ble_eq_true rfl⟩) 0 rfl rfl rfl rfl (Nat.le_of_ble_eq_true rfl) ⟨Nat.zero_le _, Nat.zero_le _⟩ dX4_decide_138 ?_
                  refine vV_iconst (v := 2) Cx dX4_decide_141 (by decide) ?_
                  refine vV_icmp_ne (tgt := 161) Cx dX4_decide_142 (by decide) (fun h142 => ?_) (fun h142 => ?_)
                  · exact vV_vret Cx hr hlk dX4_decide_161 (by exact congrArg (fun z => wN cI cZ ad E z N) (by clear Cx hr hlk; simp_all [-Int32.not_lt, -Int32.not_le, m_dec, m_d1, m_d2, m_late, m_wk, cS_same, cS_ne]))
                  · refine vV_aload_n Cx 0 dX4_decide_145 rfl rfl ?_
                    refine vV_iload_n Cx 1 dX4_decide_146 rfl rfl ?_
                    refine vV_iconst (v := 1) Cx dX4_decide_147 (by decide) ?_
                    refine vV_callVi Cx (KX4_get hi v7_1) (cwV 2 Cx.1.2.2.2.2 (uGV u3_113 u3_115 us_24 u1_7 u3_116) rfl rfl rfl hdX4_get ⟨Nat.le_of_ble_eq_true rfl, Nat.le_of_ble_eq_true rfl⟩) 0 rfl rfl rfl rfl (Nat.le_of_ble_eq_true rfl) ⟨Nat.zero_le _, Nat.zero_le _⟩ dX4_decide_148 ?_
                    refine vV_if_ne (tgt := 161) Cx dX4_decide_151 (by decide) (fun h151 => ?_) (fun h151 => ?_)
                    · exact vV_vret Cx hr hlk dX4_decide_161 (by exact congrArg (fun z => wN cI cZ ad E z N) (by clear Cx hr hlk; simp_all [-Int32.not_lt, -Int32.not_le, m_dec, m_d1, m_d2, m_late, m_wk, cS_same, cS_ne]))
                    · refine vV_aload_n Cx 0 dX4_decide_154 rfl rfl ?_
                      refine vV_iload_n Cx 1 dX4_decide_155 rfl rfl ?_
                      refine vV_iconst (v := 0) Cx dX4_decide_156 (by decide) ?_
                      refine vV_iconst (v := 3) Cx dX4_decide_157 (by decide) ?_
                      refine vV_callVv Cx (KX4_put hi v7_0 _) (cwV 3 Cx.1.2.2.2.2 (uGV u3_65 u3_67 us_19 u1_7 u3_68) rfl rfl rfl hdX4_put ⟨Nat.le_of_ble_eq_true rfl, Nat.le_of_ble_eq_true rfl⟩) 0 rfl rfl rfl rfl (Nat.le_of_ble_eq_true rfl) ⟨Nat.zero_le _, Nat.zero_le _⟩ dX4_decide_158 ?_
                      exact vV_vret Cx hr hlk dX4_decide_161 (by exact congrArg (fun z => wN cI cZ ad E z N) (by clear Cx hr hlk; simp_all [-Int32.not_lt, -Int32.not_le, m_dec, m_d1, m_d2, m_late, m_wk, cS_same, cS_ne]))
        · refine vV_iconst (v := 1) Cx dX4_decide_96 (by decide) ?_
          refine vV_goto (tgt := 101) Cx dX4_decide_97 (by decide) ?_
          refine vV_istore_n Cx 3 dX4_decide_101 rfl (by decide) ?_
          refine vV_aload_n Cx 0 dX4_decide_102 rfl rfl ?_
          refine vV_iload_n Cx 1 dX4_decide_103 rfl rfl ?_
          refine vV_iconst (v := 0) Cx dX4_decide_104 (by decide) ?_
          refine vV_callVi Cx (KX4_get hi v7_0) (cwV 2 Cx.1.2.2.2.2 (uGV u3_113 u3_115 us_24 u1_7 u3_116) rfl rfl rfl hdX4_get ⟨Nat.le_of_ble_eq_true rfl, Nat.le_of_ble_eq_true rfl⟩) 0 rfl rfl rfl rfl (Nat.le_of_ble_eq_true rfl) ⟨Nat.zero_le _, Nat.zero_le _⟩ dX4_decide_105 ?_
          refine vV_iconst (v := 2) Cx dX4_decide_108 (by decide) ?_
          refine vV_icmp_ge (tgt := 135) Cx dX4_decide_109 (by decide) (fun h109 => ?_) (fun h109 => ?_)
          · refine vV_aload_n Cx 0 dX4_decide_135 rfl rfl ?_
            refine vV_iload_n Cx 1 dX4_decide_136 rfl rfl ?_
            refine vV_iconst (v := 0) Cx dX4_decide_137 (by decide) ?_
            refine vV_callVi Cx (KX4_get hi v7_0) (cwV 2 Cx.1.2.2.2.2 (uGV u3_113 u3_115 us_24 u1_7 u3_116) rfl rfl rfl hdX4_get ⟨Nat.le_of_ble_eq_true rfl, Nat.le_of_ble_eq_true rfl⟩) 0 rfl rfl rfl rfl (Nat.le_of_ble_eq_true rfl) ⟨Nat.zero_le _, Nat.zero_le _⟩ dX4_decide_138 ?_
            refine vV_iconst (v := 2) Cx dX4_decide_141 (by decide) ?_
            refine vV_icmp_ne (tgt := 161) Cx dX4_decide_142 (by decide) (fun h142 => ?_) (fun h142 => ?_)
            · exact vV_vret Cx hr hlk dX4_decide_161 (by exact congrArg (fun z => wN cI cZ ad E z N) (by clear Cx hr hlk; simp_all [-Int32.not_lt, -Int32.not_le, m_dec, m_d1, m_d2, m_late, m_wk, cS_same, cS_ne]))
            · refine vV_aload_n Cx 0 dX4_decide_145 rfl rfl ?_
              refine vV_iload_n Cx 1 dX4_decide_146 rfl rfl ?_
              refine vV_iconst (v := 1) Cx dX4_decide_147 (by decide) ?_
              refine vV_callVi Cx (KX4_get hi v7_1) (cwV 2 Cx.1.2.2.2.2 (uGV u3_113 u3_115 us_24 u1_7 u3_116) rfl rfl rfl hdX4_get ⟨Nat.le_of_ble_eq_true rfl, Nat.le_of_ble_eq_true rfl⟩) 0 rfl rfl rfl rfl (Nat.le_of_ble_eq_true rfl) ⟨Nat.zero_le _, Nat.zero_le _⟩ dX4_decide_148 ?_
              refine vV_if_ne (tgt := 161) Cx dX4_decide_151 (by decide) (fun h151 => ?_) (fun h151 => ?_)
              · exact vV_vret Cx hr hlk dX4_decide_161 (by exact congrArg (fun z => wN cI cZ ad E z N) (by clear Cx hr hlk; simp_all [-Int32.not_lt, -Int32.not_le, m_dec, m_d1, m_d2, m_late, m_wk, cS_same, cS_ne]))
              · refine vV_aload_n Cx 0 dX4_decide_154 rfl rfl ?_
                refine vV_iload_n Cx 1 dX4_decide_155 rfl rfl ?_
                refine vV_iconst (v := 0) Cx dX4_decide_156 (by decide) ?_
                refine vV_iconst (v := 3) Cx dX4_decide_157 (by decide) ?_
                refine vV_callVv Cx (KX4_put hi v7_0 _) (cwV 3 Cx.1.2.2.2.2 (uGV u3_65 u3_67 us_19 u1_7 u3_68) rfl rfl rfl hdX4_put ⟨Nat.le_of_ble_eq_true rfl, Nat.le_of_ble_eq_true rfl⟩) 0 rfl rfl rfl rfl (Nat.le_of_ble_eq_true rfl) ⟨Nat.zero_le _, Nat.zero_le _⟩ dX4_decide_158 ?_
                exact vV_vret Cx hr hlk dX4_decide_161 (by exact congrArg (fun z => wN cI cZ ad E z N) (by clear Cx hr hlk; simp_all [-Int32.not_lt, -Int32.not_le, m_dec, m_d1, m_d2, m_late, m_wk, cS_same, cS_ne]))
          · refine vV_iload_n Cx 2 dX4_decide_112 rfl rfl ?_
            refine vV_if_ne (tgt := 128) Cx dX4_decide_113 (by decide) (fun h113 => ?_) (fun h113 => ?_)
            · refine vV_aload_n Cx 0 dX4_decide_128 rfl rfl ?_
              refine vV_iload_n Cx 1 dX4_decide_129 rfl rfl ?_
              refine vV_iconst (v := 0) Cx dX4_decide_130 (by decide) ?_
              refine vV_iconst (v := 2) Cx dX4_decide_131 (by decide) ?_
              refine vV_callVv Cx (KX4_put hi v7_0 _) (cwV 3 Cx.1.2.2.2.2 (uGV u3_65 u3_67 us_19 u1_7 u3_68) rfl rfl rfl hdX4_put ⟨Nat.le_of_ble_eq_true rfl, Nat.le_of_ble_eq_true rfl⟩) 0 rfl rfl rfl rfl (Nat.le_of_ble_eq_true rfl) ⟨Nat.zero_le _, Nat.zero_le _⟩ dX4_decide_132 ?_
              refine vV_aload_n Cx 0 dX4_decide_135 rfl rfl ?_
              refine vV_iload_n Cx 1 dX4_decide_136 rfl rfl ?_
              refine vV_iconst (v := 0) Cx dX4_decide_137 (by decide) ?_
              refine vV_callVi Cx (KX4_get hi v7_0) (cwV 2 Cx.1.2.2.2.2 (uGV u3_113 u3_115 us_24 u1_7 u3_116) rfl rfl rfl hdX4_get ⟨Nat.le_of_ble_eq_true rfl, Nat.le_of_ble_eq_true rfl⟩) 0 rfl rfl rfl rfl (Nat.le_of_ble_eq_true rfl) ⟨Nat.zero_le _, Nat.zero_le _⟩ dX4_decide_138 ?_
              refine vV_iconst (v := 2) Cx dX4_decide_141 (by decide) ?_
              refine vV_icmp_ne (tgt := 161) Cx dX4_decide_142 (by decide) (fun h142 => ?_) (fun h142 => ?_)
              · exact vV_vret Cx hr hlk dX4_decide_161 (by exact congrArg (fun z => wN cI cZ ad E z N) (by clear Cx hr hlk; simp_all [-Int32.not_lt, -Int32.not_le, m_dec, m_d1, m_d2, m_late, m_wk, cS_same, cS_ne]))
              · refine vV_aload_n Cx 0 dX4_decide_145 rfl rfl ?_
                refine vV_iload_n Cx 1 dX4_decide_146 rfl rfl ?_
                refine vV_iconst (v := 1) Cx dX4_decide_147 (by decide) ?_
                refine vV_callVi Cx (KX4_get hi v7_1) (cwV 2 Cx.1.2.2.2.2 (uGV u3_113 u3_115 us_24 u1_7 u3_116) rfl rfl rfl hdX4_get ⟨Nat.le_of_ble_eq_true rfl, Nat.le_of_ble_eq_true rfl⟩) 0 rfl rfl rfl rfl (Nat.le_of_ble_eq_true rfl) ⟨Nat.zero_le _, Nat.zero_le _⟩ dX4_decide_148 ?_
                refine vV_if_ne (tgt := 161) Cx dX4_decide_151 (by decide) (fun h151 => ?_) (fun h151 => ?_)
                · exact vV_vret Cx hr hlk dX4_decide_161 (by exact congrArg (fun z => wN cI cZ ad E z N) (by clear Cx hr hlk; simp_all [-Int32.not_lt, -Int32.not_le, m_dec, m_d1, m_d2, m_late, m_wk, cS_same, cS_ne]))
                · refine vV_aload_n Cx 0 dX4_decide_154 rfl rfl ?_
                  refine vV_iload_n Cx 1 dX4_decide_155 rfl rfl ?_
                  refine vV_iconst (v := 0) Cx dX4_decide_156 (by decide) ?_
                  refine vV_iconst (v := 3) Cx dX4_decide_157 (by decide) ?_
                  refine vV_callVv Cx (KX4_put hi v7_0 _) (cwV 3 Cx.1.2.2.2.2 (uGV u3_65 u3_67 us_19 u1_7 u3_68) rfl rfl rfl hdX4_put ⟨Nat.le_of_ble_eq_true rfl, Nat.le_of_ble_eq_true rfl⟩) 0 rfl rfl rfl rfl (Nat.le_of_ble_eq_true rfl) ⟨Nat.zero_le _, Nat.zero_le _⟩ dX4_decide_158 ?_
                  exact vV_vret Cx hr hlk dX4_decide_161 (by exact congrArg (fun z => wN cI cZ ad E z N) (by clear Cx hr hlk; simp_all [-Int32.not_lt, -Int32.not_le, m_dec, m_d1, m_d2, m_late, m_wk, cS_same, cS_ne]))
            · refine vV_iload_n Cx 3 dX4_decide_116 rfl rfl ?_
              refine vV_if_ne (tgt := 128) Cx dX4_decide_117 (by decide) (fun h117 => ?_) (fun h117 => ?_)
              · refine vV_aload_n Cx 0 dX4_decide_128 rfl rfl ?_
                refine vV_iload_n Cx 1 dX4_decide_129 rfl rfl ?_
                refine vV_iconst (v := 0) Cx dX4_decide_130 (by decide) ?_
                refine vV_iconst (v := 2) Cx dX4_decide_131 (by decide) ?_
                refine vV_callVv Cx (KX4_put hi v7_0 _) (cwV 3 Cx.1.2.2.2.2 (uGV u3_65 u3_67 us_19 u1_7 u3_68) rfl rfl rfl hdX4_put ⟨Nat.le_of_ble_eq_true rfl, Nat.le_of_ble_eq_true rfl⟩) 0 rfl rfl rfl rfl (Nat.le_of_ble_eq_true rfl) ⟨Nat.zero_le _, Nat.zero_le _⟩ dX4_decide_132 ?_
                refine vV_aload_n Cx 0 dX4_decide_135 rfl rfl ?_
                refine vV_iload_n Cx 1 dX4_decide_136 rfl rfl ?_
                refine vV_iconst (v := 0) Cx dX4_decide_137 (by decide) ?_
                refine vV_callVi Cx (KX4_get hi v7_0) (cwV 2 Cx.1.2.2.2.2 (uGV u3_113 u3_115 us_24 u1_7 u3_116) rfl rfl rfl hdX4_get ⟨Nat.le_of_ble_eq_true rfl, Nat.le_of_ble_eq_true rfl⟩) 0 rfl rfl rfl rfl (Nat.le_of_ble_eq_true rfl) ⟨Nat.zero_le _, Nat.zero_le _⟩ dX4_decide_138 ?_
                refine vV_iconst (v := 2) Cx dX4_decide_141 (by decide) ?_
                refine vV_icmp_ne (tgt := 161) Cx dX4_decide_142 (by decide) (fun h142 => ?_) (fun h142 => ?_)
                · exact vV_vret Cx hr hlk dX4_decide_161 (by exact congrArg (fun z => wN cI cZ ad E z N) (by clear Cx hr hlk; simp_all [-Int32.not_lt, -Int32.not_le, m_dec, m_d1, m_d2, m_late, m_wk, cS_same, cS_ne]))
                · refine vV_aload_n Cx 0 dX4_decide_145 rfl rfl ?_
                  refine vV_iload_n Cx 1 dX4_decide_146 rfl rfl ?_
                  refine vV_iconst (v := 1) Cx dX4_decide_147 (by decide) ?_
                  refine vV_callVi Cx (KX4_get hi v7_1) (cwV 2 Cx.1.2.2.2.2 (uGV u3_113 u3_115 us_24 u1_7 u3_116) rfl rfl rfl hdX4_get ⟨Nat.le_of_ble_eq_true rfl, Nat.le_of_ble_eq_true rfl⟩) 0 rfl rfl rfl rfl (Nat.le_of_ble_eq_true rfl) ⟨Nat.zero_le _, Nat.zero_le _⟩ dX4_decide_148 ?_
                  refine vV_if_ne (tgt := 161) Cx dX4_decide_151 (by decide) (fun h151 => ?_) (fun h151 => ?_)
                  · exact vV_vret Cx hr hlk dX4_decide_161 (by exact congrArg (fun z => wN cI cZ ad E z N) (by clear Cx hr hlk; simp_all [-Int32.not_lt, -Int32.not_le, m_dec, m_d1, m_d2, m_late, m_wk, cS_same, cS_ne]))
                  · refine vV_aload_n Cx 0 dX4_decide_154 rfl rfl ?_
                    refine vV_iload_n Cx 1 dX4_decide_155 rfl rfl ?_
                    refine vV_iconst (v := 0) Cx dX4_decide_156 (by decide) ?_
                    refine vV_iconst (v := 3) Cx dX4_decide_157 (by decide) ?_
                    refine vV_callVv Cx (KX4_put hi v7_0 _) (cwV 3 Cx.1.2.2.2.2 (uGV u3_65 u3_67 us_19 u1_7 u3_68) rfl rfl rfl hdX4_put ⟨Nat.le_of_ble_eq_true rfl, Nat.le_of_ble_eq_true rfl⟩) 0 rfl rfl rfl rfl (Nat.le_of_ble_eq_true rfl) ⟨Nat.zero_le _, Nat.zero_le _⟩ dX4_decide_158 ?_
                    exact vV_vret Cx hr hlk dX4_decide_161 (by exact congrArg (fun z => wN cI cZ ad E z N) (by clear Cx hr hlk; simp_all [-Int32.not_lt, -Int32.not_le, m_dec, m_d1, m_d2, m_late, m_wk, cS_same, cS_ne]))
              · refine vV_aload_n Cx 0 dX4_decide_120 rfl rfl ?_
                refine vV_iload_n Cx 1 dX4_decide_121 rfl rfl ?_
                refine vV_callVi Cx (KX4_isWeak hi) (cwV 1 Cx.1.2.2.2.2 (uGV u3_121 u3_123 us_26 u1_7 u3_124) rfl rfl rfl hdX4_isWeak ⟨Nat.le_of_ble_eq_true rfl, Nat.le_of_ble_eq_true rfl⟩) 0 rfl rfl rfl rfl (Nat.le_of_ble_eq_true rfl) ⟨Nat.zero_le _, Nat.zero_le _⟩ dX4_decide_122 ?_
                refine vV_if_eq (tgt := 135) Cx dX4_decide_125 (by decide) (fun h125 => ?_) (fun h125 => ?_)
                · refine vV_aload_n Cx 0 dX4_decide_135 rfl rfl ?_
                  refine vV_iload_n Cx 1 dX4_decide_136 rfl rfl ?_
                  refine vV_iconst (v := 0) Cx dX4_decide_137 (by decide) ?_
                  refine vV_callVi Cx (KX4_get hi v7_0) (cwV 2 Cx.1.2.2.2.2 (uGV u3_113 u3_115 us_24 u1_7 u3_116) rfl rfl rfl hdX4_get ⟨Nat.le_of_ble_eq_true rfl, Nat.le_of_ble_eq_true rfl⟩) 0 rfl rfl rfl rfl (Nat.le_of_ble_eq_true rfl) ⟨Nat.zero_le _, Nat.zero_le _⟩ dX4_decide_138 ?_
                  refine vV_iconst (v := 2) Cx dX4_decide_141 (by decide) ?_
                  refine vV_icmp_ne (tgt := 161) Cx dX4_decide_142 (by decide) (fun h142 => ?_) (fun h142 => ?_)
                  · exact vV_vret Cx hr hlk dX4_decide_161 (by exact congrArg (fun z => wN cI cZ ad E z N) (by clear Cx hr hlk; simp_all [-Int32.not_lt, -Int32.not_le, m_dec, m_d1, m_d2, m_late, m_wk, cS_same, cS_ne]))
                  · refine vV_aload_n Cx 0 dX4_decide_145 rfl rfl ?_
                    refine vV_iload_n Cx 1 dX4_decide_146 rfl rfl ?_
                    refine vV_iconst (v := 1) Cx dX4_decide_147 (by decide) ?_
                    refine vV_callVi Cx (KX4_get hi v7_1) (cwV 2 Cx.1.2.2.2.2 (uGV u3_113 u3_115 us_24 u1_7 u3_116) rfl rfl rfl hdX4_get ⟨Nat.le_of_ble_eq_true rfl, Nat.le_of_ble_eq_true rfl⟩) 0 rfl rfl rfl rfl (Nat.le_of_ble_eq_true rfl) ⟨Nat.zero_le _, Nat.zero_le _⟩ dX4_decide_148 ?_
                    refine vV_if_ne (tgt := 161) Cx dX4_decide_151 (by decide) (fun h151 => ?_) (fun h151 => ?_)
                    · exact vV_vret Cx hr hlk dX4_decide_161 (by exact congrArg (fun z => wN cI cZ ad E z N) (by clear Cx hr hlk; simp_all [-Int32.not_lt, -Int32.not_le, m_dec, m_d1, m_d2, m_late, m_wk, cS_same, cS_ne]))
                    · refine vV_aload_n Cx 0 dX4_decide_154 rfl rfl ?_
                      refine vV_iload_n Cx 1 dX4_decide_155 rfl rfl ?_
                      refine vV_iconst (v := 0) Cx dX4_decide_156 (by decide) ?_
                      refine vV_iconst (v := 3) Cx dX4_decide_157 (by decide) ?_
                      refine vV_callVv Cx (KX4_put hi v7_0 _) (cwV 3 Cx.1.2.2.2.2 (uGV u3_65 u3_67 us_19 u1_7 u3_68) rfl rfl rfl hdX4_put ⟨Nat.le_of_ble_eq_true rfl, Nat.le_of_ble_eq_true rfl⟩) 0 rfl rfl rfl rfl (Nat.le_of_ble_eq_true rfl) ⟨Nat.zero_le _, Nat.zero_le _⟩ dX4_decide_158 ?_
                      exact vV_vret Cx hr hlk dX4_decide_161 (by exact congrArg (fun z => wN cI cZ ad E z N) (by clear Cx hr hlk; simp_all [-Int32.not_lt, -Int32.not_le, m_dec, m_d1, m_d2, m_late, m_wk, cS_same, cS_ne]))
                · refine vV_aload_n Cx 0 dX4_decide_128 rfl rfl ?_
                  refine vV_iload_n Cx 1 dX4_decide_129 rfl rfl ?_
                  refine vV_iconst (v := 0) Cx dX4_decide_130 (by decide) ?_
                  refine vV_iconst (v := 2) Cx dX4_decide_131 (by decide) ?_
                  refine vV_callVv Cx (KX4_put hi v7_0 _) (cwV 3 Cx.1.2.2.2.2 (uGV u3_65 u3_67 us_19 u1_7 u3_68) rfl rfl rfl hdX4_put ⟨Nat.le_of_ble_eq_true rfl, Nat.le_of_ble_eq_true rfl⟩) 0 rfl rfl rfl rfl (Nat.le_of_ble_eq_true rfl) ⟨Nat.zero_le _, Nat.zero_le _⟩ dX4_decide_132 ?_
                  refine vV_aload_n Cx 0 dX4_decide_135 rfl rfl ?_
                  refine vV_iload_n Cx 1 dX4_decide_136 rfl rfl ?_
                  refine vV_iconst (v := 0) Cx dX4_decide_137 (by decide) ?_
                  refine vV_callVi Cx (KX4_get hi v7_0) (cwV 2 Cx.1.2.2.2.2 (uGV u3_113 u3_115 us_24 u1_7 u3_116) rfl rfl rfl hdX4_get ⟨Nat.le_of_ble_eq_true rfl, Nat.le_of_ble_eq_true rfl⟩) 0 rfl rfl rfl rfl (Nat.le_of_ble_eq_true rfl) ⟨Nat.zero_le _, Nat.zero_le _⟩ dX4_decide_138 ?_
                  refine vV_iconst (v := 2) Cx dX4_decide_141 (by decide) ?_
                  refine vV_icmp_ne (tgt := 161) Cx dX4_decide_142 (by decide) (fun h142 => ?_) (fun h142 => ?_)
                  · exact vV_vret Cx hr hlk dX4_decide_161 (by exact congrArg (fun z => wN cI cZ ad E z N) (by clear Cx hr hlk; simp_all [-Int32.not_lt, -Int32.not_le, m_dec, m_d1, m_d2, m_late, m_wk, cS_same, cS_ne]))
                  · refine vV_aload_n Cx 0 dX4_decide_145 rfl rfl ?_
                    refine vV_iload_n Cx 1 dX4_decide_146 rfl rfl ?_
                    refine vV_iconst (v := 1) Cx dX4_decide_147 (by decide) ?_
                    refine vV_callVi Cx (KX4_get hi v7_1) (cwV 2 Cx.1.2.2.2.2 (uGV u3_113 u3_115 us_24 u1_7 u3_116) rfl rfl rfl hdX4_get ⟨Nat.le_of_ble_eq_true rfl, Nat.le_of_ble_eq_true rfl⟩) 0 rfl rfl rfl rfl (Nat.le_of_ble_eq_true rfl) ⟨Nat.zero_le _, Nat.zero_le _⟩ dX4_decide_148 ?_
                    refine vV_if_ne (tgt := 161) Cx dX4_decide_151 (by decide) (fun h151 => ?_) (fun h151 => ?_)
                    · exact vV_vret Cx hr hlk dX4_decide_161 (by exact congrArg (fun z => wN cI cZ ad E z N) (by clear Cx hr hlk; simp_all [-Int32.not_lt, -Int32.not_le, m_dec, m_d1, m_d2, m_late, m_wk, cS_same, cS_ne]))
                    · refine vV_aload_n Cx 0 dX4_decide_154 rfl rfl ?_
                      refine vV_iload_n Cx 1 dX4_decide_155 rfl rfl ?_
                      refine vV_iconst (v := 0) Cx dX4_decide_156 (by decide) ?_
                      refine vV_iconst (v := 3) Cx dX4_decide_157 (by decide) ?_
                      refine vV_callVv Cx (KX4_put hi v7_0 _) (cwV 3 Cx.1.2.2.2.2 (uGV u3_65 u3_67 us_19 u1_7 u3_68) rfl rfl rfl hdX4_put ⟨Nat.le_of_ble_eq_true rfl, Nat.le_of_ble_eq_true rfl⟩) 0 rfl rfl rfl rfl (Nat.le_of_ble_eq_true rfl) ⟨Nat.zero_le _, Nat.zero_le _⟩ dX4_decide_158 ?_
                      exact vV_vret Cx hr hlk dX4_decide_161 (by exact congrArg (fun z => wN cI cZ ad E z N) (by clear Cx hr hlk; simp_all [-Int32.not_lt, -Int32.not_le, m_dec, m_d1, m_d2, m_late, m_wk, cS_same, cS_ne]))
    · refine vV_iload_n Cx 2 dX4_decide_28 rfl rfl ?_
      refine vV_if_eq (tgt := 60) Cx dX4_decide_29 (by decide) (fun h29 => ?_) (fun h29 => ?_)
      · refine vV_aload_n Cx 0 dX4_decide_60 rfl rfl ?_
        refine vU_get Cx hinX4 0 rfl rfl 4 (by decide) u2_231 rfl dX4_decide_61 ?_
        refine vV_aload_n Cx 0 dX4_decide_64 rfl rfl ?_
        refine vU_get Cx hinX4 0 rfl rfl 7 (by decide) u2_234 rfl dX4_decide_65 ?_
        refine vV_aload_n Cx 0 dX4_decide_68 rfl rfl ?_
        refine vU_get Cx hinX4 0 rfl rfl 9 (by decide) u2_236 rfl dX4_decide_69 ?_
        refine vV_iload_n Cx 1 dX4_decide_72 rfl rfl ?_
        refine vV_iald Cx 6 0 rfl rfl (by assumption) dX4_decide_73 ?_
        refine vV_iald Cx 5 0 rfl rfl (by assumption) dX4_decide_74 ?_
        refine vV_icmp_lt (tgt := 100) Cx dX4_decide_75 (by decide) (fun h75 => ?_) (fun h75 => ?_)
        · refine vV_iconst (v := 0) Cx dX4_decide_100 (by decide) ?_
          refine vV_istore_n Cx 3 dX4_decide_101 rfl (by decide) ?_
          refine vV_aload_n Cx 0 dX4_decide_102 rfl rfl ?_
          refine vV_iload_n Cx 1 dX4_decide_103 rfl rfl ?_
          refine vV_iconst (v := 0) Cx dX4_decide_104 (by decide) ?_
          refine vV_callVi Cx (KX4_get hi v7_0) (cwV 2 Cx.1.2.2.2.2 (uGV u3_113 u3_115 us_24 u1_7 u3_116) rfl rfl rfl hdX4_get ⟨Nat.le_of_ble_eq_true rfl, Nat.le_of_ble_eq_true rfl⟩) 0 rfl rfl rfl rfl (Nat.le_of_ble_eq_true rfl) ⟨Nat.zero_le _, Nat.zero_le _⟩ dX4_decide_105 ?_
          refine vV_iconst (v := 2) Cx dX4_decide_108 (by decide) ?_
          refine vV_icmp_ge (tgt := 135) Cx dX4_decide_109 (by decide) (fun h109 => ?_) (fun h109 => ?_)
          · refine vV_aload_n Cx 0 dX4_decide_135 rfl rfl ?_
            refine vV_iload_n Cx 1 dX4_decide_136 rfl rfl ?_
            refine vV_iconst (v := 0) Cx dX4_decide_137 (by decide) ?_
            refine vV_callVi Cx (KX4_get hi v7_0) (cwV 2 Cx.1.2.2.2.2 (uGV u3_113 u3_115 us_24 u1_7 u3_116) rfl rfl rfl hdX4_get ⟨Nat.le_of_ble_eq_true rfl, Nat.le_of_ble_eq_true rfl⟩) 0 rfl rfl rfl rfl (Nat.le_of_ble_eq_true rfl) ⟨Nat.zero_le _, Nat.zero_le _⟩ dX4_decide_138 ?_
            refine vV_iconst (v := 2) Cx dX4_decide_141 (by decide) ?_
            refine vV_icmp_ne (tgt := 161) Cx dX4_decide_142 (by decide) (fun h142 => ?_) (fun h142 => ?_)
            · exact vV_vret Cx hr hlk dX4_decide_161 (by exact congrArg (fun z => wN cI cZ ad E z N) (by clear Cx hr hlk; simp_all [-Int32.not_lt, -Int32.not_le, m_dec, m_d1, m_d2, m_late, m_wk, cS_same, cS_ne]))
            · refine vV_aload_n Cx 0 dX4_decide_145 rfl rfl ?_
              refine vV_iload_n Cx 1 dX4_decide_146 rfl rfl ?_
              refine vV_iconst (v := 1) Cx dX4_decide_147 (by decide) ?_
              refine vV_callVi Cx (KX4_get hi v7_1) (cwV 2 Cx.1.2.2.2.2 (uGV u3_113 u3_115 us_24 u1_7 u3_116) rfl rfl rfl hdX4_get ⟨Nat.le_of_ble_eq_true rfl, Nat.le_of_ble_eq_true rfl⟩) 0 rfl rfl rfl rfl (Nat.le_of_ble_eq_true rfl) ⟨Nat.zero_le _, Nat.zero_le _⟩ dX4_decide_148 ?_
              refine vV_if_ne (tgt := 161) Cx dX4_decide_151 (by decide) (fun h151 => ?_) (fun h151 => ?_)
              · exact vV_vret Cx hr hlk dX4_decide_161 (by exact congrArg (fun z => wN cI cZ ad E z N) (by clear Cx hr hlk; simp_all [-Int32.not_lt, -Int32.not_le, m_dec, m_d1, m_d2, m_late, m_wk, cS_same, cS_ne]))
              · refine vV_aload_n Cx 0 dX4_decide_154 rfl rfl ?_
                refine vV_iload_n Cx 1 dX4_decide_155 rfl rfl ?_
                refine vV_iconst (v := 0) Cx dX4_decide_156 (by decide) ?_
                refine vV_iconst (v := 3) Cx dX4_decide_157 (by decide) ?_
                refine vV_callVv Cx (KX4_put hi v7_0 _) (cwV 3 Cx.1.2.2.2.2 (uGV u3_65 u3_67 us_19 u1_7 u3_68) rfl rfl rfl hdX4_put ⟨Nat.le_of_ble_eq_true rfl, Nat.le_of_ble_eq_true rfl⟩) 0 rfl rfl rfl rfl (Nat.le_of_ble_eq_true rfl) ⟨Nat.zero_le _, Nat.zero_le _⟩ dX4_decide_158 ?_
                exact vV_vret Cx hr hlk dX4_decide_161 (by exact congrArg (fun z => wN cI cZ ad E z N) (by clear Cx hr hlk; simp_all [-Int32.not_lt, -Int32.not_le, m_dec, m_d1, m_d2, m_late, m_wk, cS_same, cS_ne]))
          · refine vV_iload_n Cx 2 dX4_decide_112 rfl rfl ?_
            refine vV_if_ne (tgt := 128) Cx dX4_decide_113 (by decide) (fun h113 => ?_) (fun h113 => ?_)
            · refine vV_aload_n Cx 0 dX4_decide_128 rfl rfl ?_
              refine vV_iload_n Cx 1 dX4_decide_129 rfl rfl ?_
              refine vV_iconst (v := 0) Cx dX4_decide_130 (by decide) ?_
              refine vV_iconst (v := 2) Cx dX4_decide_131 (by decide) ?_
              refine vV_callVv Cx (KX4_put hi v7_0 _) (cwV 3 Cx.1.2.2.2.2 (uGV u3_65 u3_67 us_19 u1_7 u3_68) rfl rfl rfl hdX4_put ⟨Nat.le_of_ble_eq_true rfl, Nat.le_of_ble_eq_true rfl⟩) 0 rfl rfl rfl rfl (Nat.le_of_ble_eq_true rfl) ⟨Nat.zero_le _, Nat.zero_le _⟩ dX4_decide_132 ?_
              refine vV_aload_n Cx 0 dX4_decide_135 rfl rfl ?_
              refine vV_iload_n Cx 1 dX4_decide_136 rfl rfl ?_
              refine vV_iconst (v := 0) Cx dX4_decide_137 (by decide) ?_
              refine vV_callVi Cx (KX4_get hi v7_0) (cwV 2 Cx.1.2.2.2.2 (uGV u3_113 u3_115 us_24 u1_7 u3_116) rfl rfl rfl hdX4_get ⟨Nat.le_of_ble_eq_true rfl, Nat.le_of_ble_eq_true rfl⟩) 0 rfl rfl rfl rfl (Nat.le_of_ble_eq_true rfl) ⟨Nat.zero_le _, Nat.zero_le _⟩ dX4_decide_138 ?_
              refine vV_iconst (v := 2) Cx dX4_decide_141 (by decide) ?_
              refine vV_icmp_ne (tgt := 161) Cx dX4_decide_142 (by decide) (fun h142 => ?_) (fun h142 => ?_)
              · exact vV_vret Cx hr hlk dX4_decide_161 (by exact congrArg (fun z => wN cI cZ ad E z N) (by clear Cx hr hlk; simp_all [-Int32.not_lt, -Int32.not_le, m_dec, m_d1, m_d2, m_late, m_wk, cS_same, cS_ne]))
              · refine vV_aload_n Cx 0 dX4_decide_145 rfl rfl ?_
                refine vV_iload_n Cx 1 dX4_decide_146 rfl rfl ?_
                refine vV_iconst (v := 1) Cx dX4_decide_147 (by decide) ?_
                refine vV_callVi Cx (KX4_get hi v7_1) (cwV 2 Cx.1.2.2.2.2 (uGV u3_113 u3_115 us_24 u1_7 u3_116) rfl rfl rfl hdX4_get ⟨Nat.le_of_ble_eq_true rfl, Nat.le_of_ble_eq_true rfl⟩) 0 rfl rfl rfl rfl (Nat.le_of_ble_eq_true rfl) ⟨Nat.zero_le _, Nat.zero_le _⟩ dX4_decide_148 ?_
                refine vV_if_ne (tgt := 161) Cx dX4_decide_151 (by decide) (fun h151 => ?_) (fun h151 => ?_)
                · exact vV_vret Cx hr hlk dX4_decide_161 (by exact congrArg (fun z => wN cI cZ ad E z N) (by clear Cx hr hlk; simp_all [-Int32.not_lt, -Int32.not_le, m_dec, m_d1, m_d2, m_late, m_wk, cS_same, cS_ne]))
                · refine vV_aload_n Cx 0 dX4_decide_154 rfl rfl ?_
                  refine vV_iload_n Cx 1 dX4_decide_155 rfl rfl ?_
                  refine vV_iconst (v := 0) Cx dX4_decide_156 (by decide) ?_
                  refine vV_iconst (v := 3) Cx dX4_decide_157 (by decide) ?_
                  refine vV_callVv Cx (KX4_put hi v7_0 _) (cwV 3 Cx.1.2.2.2.2 (uGV u3_65 u3_67 us_19 u1_7 u3_68) rfl rfl rfl hdX4_put ⟨Nat.le_of_ble_eq_true rfl, Nat.le_of_ble_eq_true rfl⟩) 0 rfl rfl rfl rfl (Nat.le_of_ble_eq_true rfl) ⟨Nat.zero_le _, Nat.zero_le _⟩ dX4_decide_158 ?_
                  exact vV_vret Cx hr hlk dX4_decide_161 (by exact congrArg (fun z => wN cI cZ ad E z N) (by clear Cx hr hlk; simp_all [-Int32.not_lt, -Int32.not_le, m_dec, m_d1, m_d2, m_late, m_wk, cS_same, cS_ne]))
            · refine vV_iload_n Cx 3 dX4_decide_116 rfl rfl ?_
              refine vV_if_ne (tgt := 128) Cx dX4_decide_117 (by decide) (fun h117 => ?_) (fun h117 => ?_)
              · refine vV_aload_n Cx 0 dX4_decide_128 rfl rfl ?_
                refine vV_iload_n Cx 1 dX4_decide_129 rfl rfl ?_
                refine vV_iconst (v := 0) Cx dX4_decide_130 (by decide) ?_
                refine vV_iconst (v := 2) Cx dX4_decide_131 (by decide) ?_
                refine vV_callVv Cx (KX4_put hi v7_0 _) (cwV 3 Cx.1.2.2.2.2 (uGV u3_65 u3_67 us_19 u1_7 u3_68) rfl rfl rfl hdX4_put ⟨Nat.le_of_ble_eq_true rfl, Nat.le_of_ble_eq_true rfl⟩) 0 rfl rfl rfl rfl (Nat.le_of_ble_eq_true rfl) ⟨Nat.zero_le _, Nat.zero_le _⟩ dX4_decide_132 ?_
                refine vV_aload_n Cx 0 dX4_decide_135 rfl rfl ?_
                refine vV_iload_n Cx 1 dX4_decide_136 rfl rfl ?_
                refine vV_iconst (v := 0) Cx dX4_decide_137 (by decide) ?_
                refine vV_callVi Cx (KX4_get hi v7_0) (cwV 2 Cx.1.2.2.2.2 (uGV u3_113 u3_115 us_24 u1_7 u3_116) rfl rfl rfl hdX4_get ⟨Nat.le_of_ble_eq_true rfl, Nat.le_of_ble_eq_true rfl⟩) 0 rfl rfl rfl rfl (Nat.le_of_ble_eq_true rfl) ⟨Nat.zero_le _, Nat.zero_le _⟩ dX4_decide_138 ?_
                refine vV_iconst (v := 2) Cx dX4_decide_141 (by decide) ?_
                refine vV_icmp_ne (tgt := 161) Cx dX4_decide_142 (by decide) (fun h142 => ?_) (fun h142 => ?_)
                · exact vV_vret Cx hr hlk dX4_decide_161 (by exact congrArg (fun z => wN cI cZ ad E z N) (by clear Cx hr hlk; simp_all [-Int32.not_lt, -Int32.not_le, m_dec, m_d1, m_d2, m_late, m_wk, cS_same, cS_ne]))
                · refine vV_aload_n Cx 0 dX4_decide_145 rfl rfl ?_
                  refine vV_iload_n Cx 1 dX4_decide_146 rfl rfl ?_
                  refine vV_iconst (v := 1) Cx dX4_decide_147 (by decide) ?_
                  refine vV_callVi Cx (KX4_get hi v7_1) (cwV 2 Cx.1.2.2.2.2 (uGV u3_113 u3_115 us_24 u1_7 u3_116) rfl rfl rfl hdX4_get ⟨Nat.le_of_ble_eq_true rfl, Nat.le_of_ble_eq_true rfl⟩) 0 rfl rfl rfl rfl (Nat.le_of_ble_eq_true rfl) ⟨Nat.zero_le _, Nat.zero_le _⟩ dX4_decide_148 ?_
                  refine vV_if_ne (tgt := 161) Cx dX4_decide_151 (by decide) (fun h151 => ?_) (fun h151 => ?_)
                  · exact vV_vret Cx hr hlk dX4_decide_161 (by exact congrArg (fun z => wN cI cZ ad E z N) (by clear Cx hr hlk; simp_all [-Int32.not_lt, -Int32.not_le, m_dec, m_d1, m_d2, m_late, m_wk, cS_same, cS_ne]))
                  · refine vV_aload_n Cx 0 dX4_decide_154 rfl rfl ?_
                    refine vV_iload_n Cx 1 dX4_decide_155 rfl rfl ?_
                    refine vV_iconst (v := 0) Cx dX4_decide_156 (by decide) ?_
                    refine vV_iconst (v := 3) Cx dX4_decide_157 (by decide) ?_
                    refine vV_callVv Cx (KX4_put hi v7_0 _) (cwV 3 Cx.1.2.2.2.2 (uGV u3_65 u3_67 us_19 u1_7 u3_68) rfl rfl rfl hdX4_put ⟨Nat.le_of_ble_eq_true rfl, Nat.le_of_ble_eq_true rfl⟩) 0 rfl rfl rfl rfl (Nat.le_of_ble_eq_true rfl) ⟨Nat.zero_le _, Nat.zero_le _⟩ dX4_decide_158 ?_
                    exact vV_vret Cx hr hlk dX4_decide_161 (by exact congrArg (fun z => wN cI cZ ad E z N) (by clear Cx hr hlk; simp_all [-Int32.not_lt, -Int32.not_le, m_dec, m_d1, m_d2, m_late, m_wk, cS_same, cS_ne]))
              · refine vV_aload_n Cx 0 dX4_decide_120 rfl rfl ?_
                refine vV_iload_n Cx 1 dX4_decide_121 rfl rfl ?_
                refine vV_callVi Cx (KX4_isWeak hi) (cwV 1 Cx.1.2.2.2.2 (uGV u3_121 u3_123 us_26 u1_7 u3_124) rfl rfl rfl hdX4_isWeak ⟨Nat.le_of_ble_eq_true rfl, Nat.le_of_ble_eq_true rfl⟩) 0 rfl rfl rfl rfl (Nat.le_of_ble_eq_true rfl) ⟨Nat.zero_le _, Nat.zero_le _⟩ dX4_decide_122 ?_
                refine vV_if_eq (tgt := 135) Cx dX4_decide_125 (by decide) (fun h125 => ?_) (fun h125 => ?_)
                · refine vV_aload_n Cx 0 dX4_decide_135 rfl rfl ?_
                  refine vV_iload_n Cx 1 dX4_decide_136 rfl rfl ?_
                  refine vV_iconst (v := 0) Cx dX4_decide_137 (by decide) ?_
                  refine vV_callVi Cx (KX4_get hi v7_0) (cwV 2 Cx.1.2.2.2.2 (uGV u3_113 u3_115 us_24 u1_7 u3_116) rfl rfl rfl hdX4_get ⟨Nat.le_of_ble_eq_true rfl, Nat.le_of_ble_eq_true rfl⟩) 0 rfl rfl rfl rfl (Nat.le_of_ble_eq_true rfl) ⟨Nat.zero_le _, Nat.zero_le _⟩ dX4_decide_138 ?_
                  refine vV_iconst (v := 2) Cx dX4_decide_141 (by decide) ?_
                  refine vV_icmp_ne (tgt := 161) Cx dX4_decide_142 (by decide) (fun h142 => ?_) (fun h142 => ?_)
                  · exact vV_vret Cx hr hlk dX4_decide_161 (by exact congrArg (fun z => wN cI cZ ad E z N) (by clear Cx hr hlk; simp_all [-Int32.not_lt, -Int32.not_le, m_dec, m_d1, m_d2, m_late, m_wk, cS_same, cS_ne]))
                  · refine vV_aload_n Cx 0 dX4_decide_145 rfl rfl ?_
                    refine vV_iload_n Cx 1 dX4_decide_146 rfl rfl ?_
                    refine vV_iconst (v := 1) Cx dX4_decide_147 (by decide) ?_
                    refine vV_callVi Cx (KX4_get hi v7_1) (cwV 2 Cx.1.2.2.2.2 (uGV u3_113 u3_115 us_24 u1_7 u3_116) rfl rfl rfl hdX4_get ⟨Nat.le_of_ble_eq_true rfl, Nat.le_of_ble_eq_true rfl⟩) 0 rfl rfl rfl rfl (Nat.le_of_ble_eq_true rfl) ⟨Nat.zero_le _, Nat.zero_le _⟩ dX4_decide_148 ?_
                    refine vV_if_ne (tgt := 161) Cx dX4_decide_151 (by decide) (fun h151 => ?_) (fun h151 => ?_)
                    · exact vV_vret Cx hr hlk dX4_decide_161 (by exact congrArg (fun z => wN cI cZ ad E z N) (by clear Cx hr hlk; simp_all [-Int32.not_lt, -Int32.not_le, m_dec, m_d1, m_d2, m_late, m_wk, cS_same, cS_ne]))
                    · refine vV_aload_n Cx 0 dX4_decide_154 rfl rfl ?_
                      refine vV_iload_n Cx 1 dX4_decide_155 rfl rfl ?_
                      refine vV_iconst (v := 0) Cx dX4_decide_156 (by decide) ?_
                      refine vV_iconst (v := 3) Cx dX4_decide_157 (by decide) ?_
                      refine vV_callVv Cx (KX4_put hi v7_0 _) (cwV 3 Cx.1.2.2.2.2 (uGV u3_65 u3_67 us_19 u1_7 u3_68) rfl rfl rfl hdX4_put ⟨Nat.le_of_ble_eq_true rfl, Nat.le_of_ble_eq_true rfl⟩) 0 rfl rfl rfl rfl (Nat.le_of_ble_eq_true rfl) ⟨Nat.zero_le _, Nat.zero_le _⟩ dX4_decide_158 ?_
                      exact vV_vret Cx hr hlk dX4_decide_161 (by exact congrArg (fun z => wN cI cZ ad E z N) (by clear Cx hr hlk; simp_all [-Int32.not_lt, -Int32.not_le, m_dec, m_d1, m_d2, m_late, m_wk, cS_same, cS_ne]))
                · refine vV_aload_n Cx 0 dX4_decide_128 rfl rfl ?_
                  refine vV_iload_n Cx 1 dX4_decide_129 rfl rfl ?_
                  refine vV_iconst (v := 0) Cx dX4_decide_130 (by decide) ?_
                  refine vV_iconst (v := 2) Cx dX4_decide_131 (by decide) ?_
                  refine vV_callVv Cx (KX4_put hi v7_0 _) (cwV 3 Cx.1.2.2.2.2 (uGV u3_65 u3_67 us_19 u1_7 u3_68) rfl rfl rfl hdX4_put ⟨Nat.le_of_ble_eq_true rfl, Nat.le_of_ble_eq_true rfl⟩) 0 rfl rfl rfl rfl (Nat.le_of_ble_eq_true rfl) ⟨Nat.zero_le _, Nat.zero_le _⟩ dX4_decide_132 ?_
                  refine vV_aload_n Cx 0 dX4_decide_135 rfl rfl ?_
                  refine vV_iload_n Cx 1 dX4_decide_136 rfl rfl ?_
                  refine vV_iconst (v := 0) Cx dX4_decide_137 (by decide) ?_
                  refine vV_callVi Cx (KX4_get hi v7_0) (cwV 2 Cx.1.2.2.2.2 (uGV u3_113 u3_115 us_24 u1_7 u3_116) rfl rfl rfl hdX4_get ⟨Nat.le_of_ble_eq_true rfl, Nat.le_of_ble_eq_true rfl⟩) 0 rfl rfl rfl rfl (Nat.le_of_ble_eq_true rfl) ⟨Nat.zero_le _, Nat.zero_le _⟩ dX4_decide_138 ?_
                  refine vV_iconst (v := 2) Cx dX4_decide_141 (by decide) ?_
                  refine vV_icmp_ne (tgt := 161) Cx dX4_decide_142 (by decide) (fun h142 => ?_) (fun h142 => ?_)
                  · exact vV_vret Cx hr hlk dX4_decide_161 (by exact congrArg (fun z => wN cI cZ ad E z N) (by clear Cx hr hlk; simp_all [-Int32.not_lt, -Int32.not_le, m_dec, m_d1, m_d2, m_late, m_wk, cS_same, cS_ne]))
                  · refine vV_aload_n Cx 0 dX4_decide_145 rfl rfl ?_
                    refine vV_iload_n Cx 1 dX4_decide_146 rfl rfl ?_
                    refine vV_iconst (v := 1) Cx dX4_decide_147 (by decide) ?_
                    refine vV_callVi Cx (KX4_get hi v7_1) (cwV 2 Cx.1.2.2.2.2 (uGV u3_113 u3_115 us_24 u1_7 u3_116) rfl rfl rfl hdX4_get ⟨Nat.le_of_ble_eq_true rfl, Nat.le_of_ble_eq_true rfl⟩) 0 rfl rfl rfl rfl (Nat.le_of_ble_eq_true rfl) ⟨Nat.zero_le _, Nat.zero_le _⟩ dX4_decide_148 ?_
                    refine vV_if_ne (tgt := 161) Cx dX4_decide_151 (by decide) (fun h151 => ?_) (fun h151 => ?_)
                    · exact vV_vret Cx hr hlk dX4_decide_161 (by exact congrArg (fun z => wN cI cZ ad E z N) (by clear Cx hr hlk; simp_all [-Int32.not_lt, -Int32.not_le, m_dec, m_d1, m_d2, m_late, m_wk, cS_same, cS_ne]))
                    · refine vV_aload_n Cx 0 dX4_decide_154 rfl rfl ?_
                      refine vV_iload_n Cx 1 dX4_decide_155 rfl rfl ?_
                      refine vV_iconst (v := 0) Cx dX4_decide_156 (by decide) ?_
                      refine vV_iconst (v := 3) Cx dX4_decide_157 (by decide) ?_
                      refine vV_callVv Cx (KX4_put hi v7_0 _) (cwV 3 Cx.1.2.2.2.2 (uGV u3_65 u3_67 us_19 u1_7 u3_68) rfl rfl rfl hdX4_put ⟨Nat.le_of_ble_eq_true rfl, Nat.le_of_ble_eq_true rfl⟩) 0 rfl rfl rfl rfl (Nat.le_of_ble_eq_true rfl) ⟨Nat.zero_le _, Nat.zero_le _⟩ dX4_decide_158 ?_
                      exact vV_vret Cx hr hlk dX4_decide_161 (by exact congrArg (fun z => wN cI cZ ad E z N) (by clear Cx hr hlk; simp_all [-Int32.not_lt, -Int32.not_le, m_dec, m_d1, m_d2, m_late, m_wk, cS_same, cS_ne]))
        · refine vV_aload_n Cx 0 dX4_decide_78 rfl rfl ?_
          refine vU_get Cx hinX4 0 rfl rfl 4 (by decide) u2_231 rfl dX4_decide_79 ?_
          refine vV_aload_n Cx 0 dX4_decide_82 rfl rfl ?_
          refine vU_get Cx hinX4 0 rfl rfl 6 (by decide) u2_233 rfl dX4_decide_83 ?_
          refine vV_aload_n Cx 0 dX4_decide_86 rfl rfl ?_
          refine vU_get Cx hinX4 0 rfl rfl 9 (by decide) u2_236 rfl dX4_decide_87 ?_
          refine vV_iload_n Cx 1 dX4_decide_90 rfl rfl ?_
          refine vV_iald Cx 6 0 rfl rfl (by assumption) dX4_decide_91 ?_
          refine vV_iald Cx 4 0 rfl rfl (by assumption) dX4_decide_92 ?_
          refine vV_icmp_lt (tgt := 100) Cx dX4_decide_93 (by decide) (fun h93 => ?_) (fun h93 => ?_)
          · refine vV_iconst (v := 0) Cx dX4_decide_100 (by decide) ?_
            refine vV_istore_n Cx 3 dX4_decide_101 rfl (by decide) ?_
            refine vV_aload_n Cx 0 dX4_decide_102 rfl rfl ?_
            refine vV_iload_n Cx 1 dX4_decide_103 rfl rfl ?_
            refine vV_iconst (v := 0) Cx dX4_decide_104 (by decide) ?_
            refine vV_callVi Cx (KX4_get hi v7_0) (cwV 2 Cx.1.2.2.2.2 (uGV u3_113 u3_115 us_24 u1_7 u3_116) rfl rfl rfl hdX4_get ⟨Nat.le_of_ble_eq_true rfl, Nat.le_of_ble_eq_true rfl⟩) 0 rfl rfl rfl rfl (Nat.le_of_ble_eq_true rfl) ⟨Nat.zero_le _, Nat.zero_le _⟩ dX4_decide_105 ?_
            refine vV_iconst (v := 2) Cx dX4_decide_108 (by decide) ?_
            refine vV_icmp_ge (tgt := 135) Cx dX4_decide_109 (by decide) (fun h109 => ?_) (fun h109 => ?_)
            · refine vV_aload_n Cx 0 dX4_decide_135 rfl rfl ?_
              refine vV_iload_n Cx 1 dX4_decide_136 rfl rfl ?_
              refine vV_iconst (v := 0) Cx dX4_decide_137 (by decide) ?_
              refine vV_callVi Cx (KX4_get hi v7_0) (cwV 2 Cx.1.2.2.2.2 (uGV u3_113 u3_115 us_24 u1_7 u3_116) rfl rfl rfl hdX4_get ⟨Nat.le_of_ble_eq_true rfl, Nat.le_of_ble_eq_true rfl⟩) 0 rfl rfl rfl rfl (Nat.le_of_ble_eq_true rfl) ⟨Nat.zero_le _, Nat.zero_le _⟩ dX4_decide_138 ?_
              refine vV_iconst (v := 2) Cx dX4_decide_141 (by decide) ?_
              refine vV_icmp_ne (tgt := 161) Cx dX4_decide_142 (by decide) (fun h142 => ?_) (fun h142 => ?_)
              · exact vV_vret Cx hr hlk dX4_decide_161 (by exact congrArg (fun z => wN cI cZ ad E z N) (by clear Cx hr hlk; simp_all [-Int32.not_lt, -Int32.not_le, m_dec, m_d1, m_d2, m_late, m_wk, cS_same, cS_ne]))
              · refine vV_aload_n Cx 0 dX4_decide_145 rfl rfl ?_
                refine vV_iload_n Cx 1 dX4_decide_146 rfl rfl ?_
                refine vV_iconst (v := 1) Cx dX4_decide_147 (by decide) ?_
                refine vV_callVi Cx (KX4_get hi v7_1) (cwV 2 Cx.1.2.2.2.2 (uGV u3_113 u3_115 us_24 u1_7 u3_116) rfl rfl rfl hdX4_get ⟨Nat.le_of_ble_eq_true rfl, Nat.le_of_ble_eq_true rfl⟩) 0 rfl rfl rfl rfl (Nat.le_of_ble_eq_true rfl) ⟨Nat.zero_le _, Nat.zero_le _⟩ dX4_decide_148 ?_
                refine vV_if_ne (tgt := 161) Cx dX4_decide_151 (by decide) (fun h151 => ?_) (fun h151 => ?_)
                · exact vV_vret Cx hr hlk dX4_decide_161 (by exact congrArg (fun z => wN cI cZ ad E z N) (by clear Cx hr hlk; simp_all [-Int32.not_lt, -Int32.not_le, m_dec, m_d1, m_d2, m_late, m_wk, cS_same, cS_ne]))
                · refine vV_aload_n Cx 0 dX4_decide_154 rfl rfl ?_
                  refine vV_iload_n Cx 1 dX4_decide_155 rfl rfl ?_
                  refine vV_iconst (v := 0) Cx dX4_decide_156 (by decide) ?_
                  refine vV_iconst (v := 3) Cx dX4_decide_157 (by decide) ?_
                  refine vV_callVv Cx (KX4_put hi v7_0 _) (cwV 3 Cx.1.2.2.2.2 (uGV u3_65 u3_67 us_19 u1_7 u3_68) rfl rfl rfl hdX4_put ⟨Nat.le_of_ble_eq_true rfl, Nat.le_of_ble_eq_true rfl⟩) 0 rfl rfl rfl rfl (Nat.le_of_ble_eq_true rfl) ⟨Nat.zero_le _, Nat.zero_le _⟩ dX4_decide_158 ?_
                  exact vV_vret Cx hr hlk dX4_decide_161 (by exact congrArg (fun z => wN cI cZ ad E z N) (by clear Cx hr hlk; simp_all [-Int32.not_lt, -Int32.not_le, m_dec, m_d1, m_d2, m_late, m_wk, cS_same, cS_ne]))
            · refine vV_iload_n Cx 2 dX4_decide_112 rfl rfl ?_
              refine vV_if_ne (tgt := 128) Cx dX4_decide_113 (by decide) (fun h113 => ?_) (fun h113 => ?_)
              · refine vV_aload_n Cx 0 dX4_decide_128 rfl rfl ?_
                refine vV_iload_n Cx 1 dX4_decide_129 rfl rfl ?_
                refine vV_iconst (v := 0) Cx dX4_decide_130 (by decide) ?_
                refine vV_iconst (v := 2) Cx dX4_decide_131 (by decide) ?_
                refine vV_callVv Cx (KX4_put hi v7_0 _) (cwV 3 Cx.1.2.2.2.2 (uGV u3_65 u3_67 us_19 u1_7 u3_68) rfl rfl rfl hdX4_put ⟨Nat.le_of_ble_eq_true rfl, Nat.le_of_ble_eq_true rfl⟩) 0 rfl rfl rfl rfl (Nat.le_of_ble_eq_true rfl) ⟨Nat.zero_le _, Nat.zero_le _⟩ dX4_decide_132 ?_
                refine vV_aload_n Cx 0 dX4_decide_135 rfl rfl ?_
                refine vV_iload_n Cx 1 dX4_decide_136 rfl rfl ?_
                refine vV_iconst (v := 0) Cx dX4_decide_137 (by decide) ?_
                refine vV_callVi Cx (KX4_get hi v7_0) (cwV 2 Cx.1.2.2.2.2 (uGV u3_113 u3_115 us_24 u1_7 u3_116) rfl rfl rfl hdX4_get ⟨Nat.le_of_ble_eq_true rfl, Nat.le_of_ble_eq_true rfl⟩) 0 rfl rfl rfl rfl (Nat.le_of_ble_eq_true rfl) ⟨Nat.zero_le _, Nat.zero_le _⟩ dX4_decide_138 ?_
                refine vV_iconst (v := 2) Cx dX4_decide_141 (by decide) ?_
                refine vV_icmp_ne (tgt := 161) Cx dX4_decide_142 (by decide) (fun h142 => ?_) (fun h142 => ?_)
                · exact vV_vret Cx hr hlk dX4_decide_161 (by exact congrArg (fun z => wN cI cZ ad E z N) (by clear Cx hr hlk; simp_all [-Int32.not_lt, -Int32.not_le, m_dec, m_d1, m_d2, m_late, m_wk, cS_same, cS_ne]))
                · refine vV_aload_n Cx 0 dX4_decide_145 rfl rfl ?_
                  refine vV_iload_n Cx 1 dX4_decide_146 rfl rfl ?_
                  refine vV_iconst (v := 1) Cx dX4_decide_147 (by decide) ?_
                  refine vV_callVi Cx (KX4_get hi v7_1) (cwV 2 Cx.1.2.2.2.2 (uGV u3_113 u3_115 us_24 u1_7 u3_116) rfl rfl rfl hdX4_get ⟨Nat.le_of_ble_eq_true rfl, Nat.le_of_ble_eq_true rfl⟩) 0 rfl rfl rfl rfl (Nat.le_of_ble_eq_true rfl) ⟨Nat.zero_le _, Nat.zero_le _⟩ dX4_decide_148 ?_
                  refine vV_if_ne (tgt := 161) Cx dX4_decide_151 (by decide) (fun h151 => ?_) (fun h151 => ?_)
                  · exact vV_vret Cx hr hlk dX4_decide_161 (by exact congrArg (fun z => wN cI cZ ad E z N) (by clear Cx hr hlk; simp_all [-Int32.not_lt, -Int32.not_le, m_dec, m_d1, m_d2, m_late, m_wk, cS_same, cS_ne]))
                  · refine vV_aload_n Cx 0 dX4_decide_154 rfl rfl ?_
                    refine vV_iload_n Cx 1 dX4_decide_155 rfl rfl ?_
                    refine vV_iconst (v := 0) Cx dX4_decide_156 (by decide) ?_
                    refine vV_iconst (v := 3) Cx dX4_decide_157 (by decide) ?_
                    refine vV_callVv Cx (KX4_put hi v7_0 _) (cwV 3 Cx.1.2.2.2.2 (uGV u3_65 u3_67 us_19 u1_7 u3_68) rfl rfl rfl hdX4_put ⟨Nat.le_of_ble_eq_true rfl, Nat.le_of_ble_eq_true rfl⟩) 0 rfl rfl rfl rfl (Nat.le_of_ble_eq_true rfl) ⟨Nat.zero_le _, Nat.zero_le _⟩ dX4_decide_158 ?_
                    exact vV_vret Cx hr hlk dX4_decide_161 (by exact congrArg (fun z => wN cI cZ ad E z N) (by clear Cx hr hlk; simp_all [-Int32.not_lt, -Int32.not_le, m_dec, m_d1, m_d2, m_late, m_wk, cS_same, cS_ne]))
              · refine vV_iload_n Cx 3 dX4_decide_116 rfl rfl ?_
                refine vV_if_ne (tgt := 128) Cx dX4_decide_117 (by decide) (fun h117 => ?_) (fun h117 => ?_)
                · refine vV_aload_n Cx 0 dX4_decide_128 rfl rfl ?_
                  refine vV_iload_n Cx 1 dX4_decide_129 rfl rfl ?_
                  refine vV_iconst (v := 0) Cx dX4_decide_130 (by decide) ?_
                  refine vV_iconst (v := 2) Cx dX4_decide_131 (by decide) ?_
                  refine vV_callVv Cx (KX4_put hi v7_0 _) (cwV 3 Cx.1.2.2.2.2 (uGV u3_65 u3_67 us_19 u1_7 u3_68) rfl rfl rfl hdX4_put ⟨Nat.le_of_ble_eq_true rfl, Nat.le_of_ble_eq_true rfl⟩) 0 rfl rfl rfl rfl (Nat.le_of_ble_eq_true rfl) ⟨Nat.zero_le _, Nat.zero_le _⟩ dX4_decide_132 ?_
                  refine vV_aload_n Cx 0 dX4_decide_135 rfl rfl ?_
                  refine vV_iload_n Cx 1 dX4_decide_136 rfl rfl ?_
                  refine vV_iconst (v := 0) Cx dX4_decide_137 (by decide) ?_
                  refine vV_callVi Cx (KX4_get hi v7_0) (cwV 2 Cx.1.2.2.2.2 (uGV u3_113 u3_115 us_24 u1_7 u3_116) rfl rfl rfl hdX4_get ⟨Nat.le_of_ble_eq_true rfl, Nat.le_of_ble_eq_true rfl⟩) 0 rfl rfl rfl rfl (Nat.le_of_ble_eq_true rfl) ⟨Nat.zero_le _, Nat.zero_le _⟩ dX4_decide_138 ?_
                  refine vV_iconst (v := 2) Cx dX4_decide_141 (by decide) ?_
                  refine vV_icmp_ne (tgt := 161) Cx dX4_decide_142 (by decide) (fun h142 => ?_) (fun h142 => ?_)
                  · exact vV_vret Cx hr hlk dX4_decide_161 (by exact congrArg (fun z => wN cI cZ ad E z N) (by clear Cx hr hlk; simp_all [-Int32.not_lt, -Int32.not_le, m_dec, m_d1, m_d2, m_late, m_wk, cS_same, cS_ne]))
                  · refine vV_aload_n Cx 0 dX4_decide_145 rfl rfl ?_
                    refine vV_iload_n Cx 1 dX4_decide_146 rfl rfl ?_
                    refine vV_iconst (v := 1) Cx dX4_decide_147 (by decide) ?_
                    refine vV_callVi Cx (KX4_get hi v7_1) (cwV 2 Cx.1.2.2.2.2 (uGV u3_113 u3_115 us_24 u1_7 u3_116) rfl rfl rfl hdX4_get ⟨Nat.le_of_ble_eq_true rfl, Nat.le_of_ble_eq_true rfl⟩) 0 rfl rfl rfl rfl (Nat.le_of_ble_eq_true rfl) ⟨Nat.zero_le _, Nat.zero_le _⟩ dX4_decide_148 ?_
                    refine vV_if_ne (tgt := 161) Cx dX4_decide_151 (by decide) (fun h151 => ?_) (fun h151 => ?_)
                    · exact vV_vret Cx hr hlk dX4_decide_161 (by exact congrArg (fun z => wN cI cZ ad E z N) (by clear Cx hr hlk; simp_all [-Int32.not_lt, -Int32.not_le, m_dec, m_d1, m_d2, m_late, m_wk, cS_same, cS_ne]))
                    · refine vV_aload_n Cx 0 dX4_decide_154 rfl rfl ?_
                      refine vV_iload_n Cx 1 dX4_decide_155 rfl rfl ?_
                      refine vV_iconst (v := 0) Cx dX4_decide_156 (by decide) ?_
                      refine vV_iconst (v := 3) Cx dX4_decide_157 (by decide) ?_
                      refine vV_callVv Cx (KX4_put hi v7_0 _) (cwV 3 Cx.1.2.2.2.2 (uGV u3_65 u3_67 us_19 u1_7 u3_68) rfl rfl rfl hdX4_put ⟨Nat.le_of_ble_eq_true rfl, Nat.le_of_ble_eq_true rfl⟩) 0 rfl rfl rfl rfl (Nat.le_of_ble_eq_true rfl) ⟨Nat.zero_le _, Nat.zero_le _⟩ dX4_decide_158 ?_
                      exact vV_vret Cx hr hlk dX4_decide_161 (by exact congrArg (fun z => wN cI cZ ad E z N) (by clear Cx hr hlk; simp_all [-Int32.not_lt, -Int32.not_le, m_dec, m_d1, m_d2, m_late, m_wk, cS_same, cS_ne]))
                · refine vV_aload_n Cx 0 dX4_decide_120 rfl rfl ?_
                  refine vV_iload_n Cx 1 dX4_decide_121 rfl rfl ?_
                  refine vV_callVi Cx (KX4_isWeak hi) (cwV 1 Cx.1.2.2.2.2 (uGV u3_121 u3_123 us_26 u1_7 u3_124) rfl rfl rfl hdX4_isWeak ⟨Nat.le_of_ble_eq_true rfl, Nat.le_of_ble_eq_true rfl⟩) 0 rfl rfl rfl rfl (Nat.le_of_ble_eq_true rfl) ⟨Nat.zero_le _, Nat.zero_le _⟩ dX4_decide_122 ?_
                  refine vV_if_eq (tgt := 135) Cx dX4_decide_125 (by decide) (fun h125 => ?_) (fun h125 => ?_)
                  · refine vV_aload_n Cx 0 dX4_decide_135 rfl rfl ?_
                    refine vV_iload_n Cx 1 dX4_decide_136 rfl rfl ?_
                    refine vV_iconst (v := 0) Cx dX4_decide_137 (by decide) ?_
                    refine vV_callVi Cx (KX4_get hi v7_0) (cwV 2 Cx.1.2.2.2.2 (uGV u3_113 u3_115 us_24 u1_7 u3_116) rfl rfl rfl hdX4_get ⟨Nat.le_of_ble_eq_true rfl, Nat.le_of_ble_eq_true rfl⟩) 0 rfl rfl rfl rfl (Nat.le_of_ble_eq_true rfl) ⟨Nat.zero_le _, Nat.zero_le _⟩ dX4_decide_138 ?_
                    refine vV_iconst (v := 2) Cx dX4_decide_141 (by decide) ?_
                    refine vV_icmp_ne (tgt := 161) Cx dX4_decide_142 (by decide) (fun h142 => ?_) (fun h142 => ?_)
                    · exact vV_vret Cx hr hlk dX4_decide_161 (by exact congrArg (fun z => wN cI cZ ad E z N) (by clear Cx hr hlk; simp_all [-Int32.not_lt, -Int32.not_le, m_dec, m_d1, m_d2, m_late, m_wk, cS_same, cS_ne]))
                    · refine vV_aload_n Cx 0 dX4_decide_145 rfl rfl ?_
                      refine vV_iload_n Cx 1 dX4_decide_146 rfl rfl ?_
                      refine vV_iconst (v := 1) Cx dX4_decide_147 (by decide) ?_
                      refine vV_callVi Cx (KX4_get hi v7_1) (cwV 2 Cx.1.2.2.2.2 (uGV u3_113 u3_115 us_24 u1_7 u3_116) rfl rfl rfl hdX4_get ⟨Nat.le_of_ble_eq_true rfl, Nat.le_of_ble_eq_true rfl⟩) 0 rfl rfl rfl rfl (Nat.le_of_ble_eq_true rfl) ⟨Nat.zero_le _, Nat.zero_le _⟩ dX4_decide_148 ?_
                      refine vV_if_ne (tgt := 161) Cx dX4_decide_151 (by decide) (fun h151 => ?_) (fun h151 => ?_)
                      · exact vV_vret Cx hr hlk dX4_decide_161 (by exact congrArg (fun z => wN cI cZ ad E z N) (by clear Cx hr hlk; simp_all [-Int32.not_lt, -Int32.not_le, m_dec, m_d1, m_d2, m_late, m_wk, cS_same, cS_ne]))
                      · refine vV_aload_n Cx 0 dX4_decide_154 rfl rfl ?_
                        refine vV_iload_n Cx 1 dX4_decide_155 rfl rfl ?_
                        refine vV_iconst (v := 0) Cx dX4_decide_156 (by decide) ?_
                        refine vV_iconst (v := 3) Cx dX4_decide_157 (by decide) ?_
                        refine vV_callVv Cx (KX4_put hi v7_0 _) (cwV 3 Cx.1.2.2.2.2 (uGV u3_65 u3_67 us_19 u1_7 u3_68) rfl rfl rfl hdX4_put ⟨Nat.le_of_ble_eq_true rfl, Nat.le_of_ble_eq_true rfl⟩) 0 rfl rfl rfl rfl (Nat.le_of_ble_eq_true rfl) ⟨Nat.zero_le _, Nat.zero_le _⟩ dX4_decide_158 ?_
                        exact vV_vret Cx hr hlk dX4_decide_161 (by exact congrArg (fun z => wN cI cZ ad E z N) (by clear Cx hr hlk; simp_all [-Int32.not_lt, -Int32.not_le, m_dec, m_d1, m_d2, m_late, m_wk, cS_same, cS_ne]))
                  · refine vV_aload_n Cx 0 dX4_decide_128 rfl rfl ?_
                    refine vV_iload_n Cx 1 dX4_decide_129 rfl rfl ?_
                    refine vV_iconst (v := 0) Cx dX4_decide_130 (by decide) ?_
                    refine vV_iconst (v := 2) Cx dX4_decide_131 (by decide) ?_
                    refine vV_callVv Cx (KX4_put hi v7_0 _) (cwV 3 Cx.1.2.2.2.2 (uGV u3_65 u3_67 us_19 u1_7 u3_68) rfl rfl rfl hdX4_put ⟨Nat.le_of_ble_eq_true rfl, Nat.le_of_ble_eq_true rfl⟩) 0 rfl rfl rfl rfl (Nat.le_of_ble_eq_true rfl) ⟨Nat.zero_le _, Nat.zero_le _⟩ dX4_decide_132 ?_
                    refine vV_aload_n Cx 0 dX4_decide_135 rfl rfl ?_
                    refine vV_iload_n Cx 1 dX4_decide_136 rfl rfl ?_
                    refine vV_iconst (v := 0) Cx dX4_decide_137 (by decide) ?_
                    refine vV_callVi Cx (KX4_get hi v7_0) (cwV 2 Cx.1.2.2.2.2 (uGV u3_113 u3_115 us_24 u1_7 u3_116) rfl rfl rfl hdX4_get ⟨Nat.le_of_ble_eq_true rfl, Nat.le_of_ble_eq_true rfl⟩) 0 rfl rfl rfl rfl (Nat.le_of_ble_eq_true rfl) ⟨Nat.zero_le _, Nat.zero_le _⟩ dX4_decide_138 ?_
                    refine vV_iconst (v := 2) Cx dX4_decide_141 (by decide) ?_
                    refine vV_icmp_ne (tgt := 161) Cx dX4_decide_142 (by decide) (fun h142 => ?_) (fun h142 => ?_)
                    · exact vV_vret Cx hr hlk dX4_decide_161 (by exact congrArg (fun z => wN cI cZ ad E z N) (by clear Cx hr hlk; simp_all [-Int32.not_lt, -Int32.not_le, m_dec, m_d1, m_d2, m_late, m_wk, cS_same, cS_ne]))
                    · refine vV_aload_n Cx 0 dX4_decide_145 rfl rfl ?_
                      refine vV_iload_n Cx 1 dX4_decide_146 rfl rfl ?_
                      refine vV_iconst (v := 1) Cx dX4_decide_147 (by decide) ?_
                      refine vV_callVi Cx (KX4_get hi v7_1) (cwV 2 Cx.1.2.2.2.2 (uGV u3_113 u3_115 us_24 u1_7 u3_116) rfl rfl rfl hdX4_get ⟨Nat.le_of_ble_eq_true rfl, Nat.le_of_ble_eq_true rfl⟩) 0 rfl rfl rfl rfl (Nat.le_of_ble_eq_true rfl) ⟨Nat.zero_le _, Nat.zero_le _⟩ dX4_decide_148 ?_
                      refine vV_if_ne (tgt := 161) Cx dX4_decide_151 (by decide) (fun h151 => ?_) (fun h151 => ?_)
                      · exact vV_vret Cx hr hlk dX4_decide_161 (by exact congrArg (fun z => wN cI cZ ad E z N) (by clear Cx hr hlk; simp_all [-Int32.not_lt, -Int32.not_le, m_dec, m_d1, m_d2, m_late, m_wk, cS_same, cS_ne]))
                      · refine vV_aload_n Cx 0 dX4_decide_154 rfl rfl ?_
                        refine vV_iload_n Cx 1 dX4_decide_155 rfl rfl ?_
                        refine vV_iconst (v := 0) Cx dX4_decide_156 (by decide) ?_
                        refine vV_iconst (v := 3) Cx dX4_decide_157 (by decide) ?_
                        refine vV_callVv Cx (KX4_put hi v7_0 _) (cwV 3 Cx.1.2.2.2.2 (uGV u3_65 u3_67 us_19 u1_7 u3_68) rfl rfl rfl hdX4_put ⟨Nat.le_of_ble_eq_true rfl, Nat.le_of_ble_eq_true rfl⟩) 0 rfl rfl rfl rfl (Nat.le_of_ble_eq_true rfl) ⟨Nat.zero_le _, Nat.zero_le _⟩ dX4_decide_158 ?_
                        exact vV_vret Cx hr hlk dX4_decide_161 (by exact congrArg (fun z => wN cI cZ ad E z N) (by clear Cx hr hlk; simp_all [-Int32.not_lt, -Int32.not_le, m_dec, m_d1, m_d2, m_late, m_wk, cS_same, cS_ne]))
          · refine vV_iconst (v := 1) Cx dX4_decide_96 (by decide) ?_
            refine vV_goto (tgt := 101) Cx dX4_decide_97 (by decide) ?_
            refine vV_istore_n Cx 3 dX4_decide_101 rfl (by decide) ?_
            refine vV_aload_n Cx 0 dX4_decide_102 rfl rfl ?_
            refine vV_iload_n Cx 1 dX4_decide_103 rfl rfl ?_
            refine vV_iconst (v := 0) Cx dX4_decide_104 (by decide) ?_
            refine vV_callVi Cx (KX4_get hi v7_0) (cwV 2 Cx.1.2.2.2.2 (uGV u3_113 u3_115 us_24 u1_7 u3_116) rfl rfl rfl hdX4_get ⟨Nat.le_of_ble_eq_true rfl, Nat.le_of_ble_eq_true rfl⟩) 0 rfl rfl rfl rfl (Nat.le_of_ble_eq_true rfl) ⟨Nat.zero_le _, Nat.zero_le _⟩ dX4_decide_105 ?_
            refine vV_iconst (v := 2) Cx dX4_decide_108 (by decide) ?_
            refine vV_icmp_ge (tgt := 135) Cx dX4_decide_109 (by decide) (fun h109 => ?_) (fun h109 => ?_)
            · refine vV_aload_n Cx 0 dX4_decide_135 rfl rfl ?_
              refine vV_iload_n Cx 1 dX4_decide_136 rfl rfl ?_
              refine vV_iconst (v := 0) Cx dX4_decide_137 (by decide) ?_
              refine vV_callVi Cx (KX4_get hi v7_0) (cwV 2 Cx.1.2.2.2.2 (uGV u3_113 u3_115 us_24 u1_7 u3_116) rfl rfl rfl hdX4_get ⟨Nat.le_of_ble_eq_true rfl, Nat.le_of_ble_eq_true rfl⟩) 0 rfl rfl rfl rfl (Nat.le_of_ble_eq_true rfl) ⟨Nat.zero_le _, Nat.zero_le _⟩ dX4_decide_138 ?_
              refine vV_iconst (v := 2) Cx dX4_decide_141 (by decide) ?_
              refine vV_icmp_ne (tgt := 161) Cx dX4_decide_142 (by decide) (fun h142 => ?_) (fun h142 => ?_)
              · exact vV_vret Cx hr hlk dX4_decide_161 (by exact congrArg (fun z => wN cI cZ ad E z N) (by clear Cx hr hlk; simp_all [-Int32.not_lt, -Int32.not_le, m_dec, m_d1, m_d2, m_late, m_wk, cS_same, cS_ne]))
              · refine vV_aload_n Cx 0 dX4_decide_145 rfl rfl ?_
                refine vV_iload_n Cx 1 dX4_decide_146 rfl rfl ?_
                refine vV_iconst (v := 1) Cx dX4_decide_147 (by decide) ?_
                refine vV_callVi Cx (KX4_get hi v7_1) (cwV 2 Cx.1.2.2.2.2 (uGV u3_113 u3_115 us_24 u1_7 u3_116) rfl rfl rfl hdX4_get ⟨Nat.le_of_ble_eq_true rfl, Nat.le_of_ble_eq_true rfl⟩) 0 rfl rfl rfl rfl (Nat.le_of_ble_eq_true rfl) ⟨Nat.zero_le _, Nat.zero_le _⟩ dX4_decide_148 ?_
                refine vV_if_ne (tgt := 161) Cx dX4_decide_151 (by decide) (fun h151 => ?_) (fun h151 => ?_)
                · exact vV_vret Cx hr hlk dX4_decide_161 (by exact congrArg (fun z => wN cI cZ ad E z N) (by clear Cx hr hlk; simp_all [-Int32.not_lt, -Int32.not_le, m_dec, m_d1, m_d2, m_late, m_wk, cS_same, cS_ne]))
                · refine vV_aload_n Cx 0 dX4_decide_154 rfl rfl ?_
                  refine vV_iload_n Cx 1 dX4_decide_155 rfl rfl ?_
                  refine vV_iconst (v := 0) Cx dX4_decide_156 (by decide) ?_
                  refine vV_iconst (v := 3) Cx dX4_decide_157 (by decide) ?_
                  refine vV_callVv Cx (KX4_put hi v7_0 _) (cwV 3 Cx.1.2.2.2.2 (uGV u3_65 u3_67 us_19 u1_7 u3_68) rfl rfl rfl hdX4_put ⟨Nat.le_of_ble_eq_true rfl, Nat.le_of_ble_eq_true rfl⟩) 0 rfl rfl rfl rfl (Nat.le_of_ble_eq_true rfl) ⟨Nat.zero_le _, Nat.zero_le _⟩ dX4_decide_158 ?_
                  exact vV_vret Cx hr hlk dX4_decide_161 (by exact congrArg (fun z => wN cI cZ ad E z N) (by clear Cx hr hlk; simp_all [-Int32.not_lt, -Int32.not_le, m_dec, m_d1, m_d2, m_late, m_wk, cS_same, cS_ne]))
            · refine vV_iload_n Cx 2 dX4_decide_112 rfl rfl ?_
              refine vV_if_ne (tgt := 128) Cx dX4_decide_113 (by decide) (fun h113 => ?_) (fun h113 => ?_)
              · refine vV_aload_n Cx 0 dX4_decide_128 rfl rfl ?_
                refine vV_iload_n Cx 1 dX4_decide_129 rfl rfl ?_
                refine vV_iconst (v := 0) Cx dX4_decide_130 (by decide) ?_
                refine vV_iconst (v := 2) Cx dX4_decide_131 (by decide) ?_
                refine vV_callVv Cx (KX4_put hi v7_0 _) (cwV 3 Cx.1.2.2.2.2 (uGV u3_65 u3_67 us_19 u1_7 u3_68) rfl rfl rfl hdX4_put ⟨Nat.le_of_ble_eq_true rfl, Nat.le_of_ble_eq_true rfl⟩) 0 rfl rfl rfl rfl (Nat.le_of_ble_eq_true rfl) ⟨Nat.zero_le _, Nat.zero_le _⟩ dX4_decide_132 ?_
                refine vV_aload_n Cx 0 dX4_decide_135 rfl rfl ?_
                refine vV_iload_n Cx 1 dX4_decide_136 rfl rfl ?_
                refine vV_iconst (v := 0) Cx dX4_decide_137 (by decide) ?_
                refine vV_callVi Cx (KX4_get hi v7_0) (cwV 2 Cx.1.2.2.2.2 (uGV u3_113 u3_115 us_24 u1_7 u3_116) rfl rfl rfl hdX4_get ⟨Nat.le_of_ble_eq_true rfl, Nat.le_of_ble_eq_true rfl⟩) 0 rfl rfl rfl rfl (Nat.le_of_ble_eq_true rfl) ⟨Nat.zero_le _, Nat.zero_le _⟩ dX4_decide_138 ?_
                refine vV_iconst (v := 2) Cx dX4_decide_141 (by decide) ?_
                refine vV_icmp_ne (tgt := 161) Cx dX4_decide_142 (by decide) (fun h142 => ?_) (fun h142 => ?_)
                · exact vV_vret Cx hr hlk dX4_decide_161 (by exact congrArg (fun z => wN cI cZ ad E z N) (by clear Cx hr hlk; simp_all [-Int32.not_lt, -Int32.not_le, m_dec, m_d1, m_d2, m_late, m_wk, cS_same, cS_ne]))
                · refine vV_aload_n Cx 0 dX4_decide_145 rfl rfl ?_
                  refine vV_iload_n Cx 1 dX4_decide_146 rfl rfl ?_
                  refine vV_iconst (v := 1) Cx dX4_decide_147 (by decide) ?_
                  refine vV_callVi Cx (KX4_get hi v7_1) (cwV 2 Cx.1.2.2.2.2 (uGV u3_113 u3_115 us_24 u1_7 u3_116) rfl rfl rfl hdX4_get ⟨Nat.le_of_ble_eq_true rfl, Nat.le_of_ble_eq_true rfl⟩) 0 rfl rfl rfl rfl (Nat.le_of_ble_eq_true rfl) ⟨Nat.zero_le _, Nat.zero_le _⟩ dX4_decide_148 ?_
                  refine vV_if_ne (tgt := 161) Cx dX4_decide_151 (by decide) (fun h151 => ?_) (fun h151 => ?_)
                  · exact vV_vret Cx hr hlk dX4_decide_161 (by exact congrArg (fun z => wN cI cZ ad E z N) (by clear Cx hr hlk; simp_all [-Int32.not_lt, -Int32.not_le, m_dec, m_d1, m_d2, m_late, m_wk, cS_same, cS_ne]))
                  · refine vV_aload_n Cx 0 dX4_decide_154 rfl rfl ?_
                    refine vV_iload_n Cx 1 dX4_decide_155 rfl rfl ?_
                    refine vV_iconst (v := 0) Cx dX4_decide_156 (by decide) ?_
                    refine vV_iconst (v := 3) Cx dX4_decide_157 (by decide) ?_
                    refine vV_callVv Cx (KX4_put hi v7_0 _) (cwV 3 Cx.1.2.2.2.2 (uGV u3_65 u3_67 us_19 u1_7 u3_68) rfl rfl rfl hdX4_put ⟨Nat.le_of_ble_eq_true rfl, Nat.le_of_ble_eq_true rfl⟩) 0 rfl rfl rfl rfl (Nat.le_of_ble_eq_true rfl) ⟨Nat.zero_le _, Nat.zero_le _⟩ dX4_decide_158 ?_
                    exact vV_vret Cx hr hlk dX4_decide_161 (by exact congrArg (fun z => wN cI cZ ad E z N) (by clear Cx hr hlk; simp_all [-Int32.not_lt, -Int32.not_le, m_dec, m_d1, m_d2, m_late, m_wk, cS_same, cS_ne]))
              · refine vV_iload_n Cx 3 dX4_decide_116 rfl rfl ?_
                refine vV_if_ne (tgt := 128) Cx dX4_decide_117 (by decide) (fun h117 => ?_) (fun h117 => ?_)
                · refine vV_aload_n Cx 0 dX4_decide_128 rfl rfl ?_
                  refine vV_iload_n Cx 1 dX4_decide_129 rfl rfl ?_
                  refine vV_iconst (v := 0) Cx dX4_decide_130 (by decide) ?_
                  refine vV_iconst (v := 2) Cx dX4_decide_131 (by decide) ?_
                  refine vV_callVv Cx (KX4_put hi v7_0 _) (cwV 3 Cx.1.2.2.2.2 (uGV u3_65 u3_67 us_19 u1_7 u3_68) rfl rfl rfl hdX4_put ⟨Nat.le_of_ble_eq_true rfl, Nat.le_of_ble_eq_true rfl⟩) 0 rfl rfl rfl rfl (Nat.le_of_ble_eq_true rfl) ⟨Nat.zero_le _, Nat.zero_le _⟩ dX4_decide_132 ?_
                  refine vV_aload_n Cx 0 dX4_decide_135 rfl rfl ?_
                  refine vV_iload_n Cx 1 dX4_decide_136 rfl rfl ?_
                  refine vV_iconst (v := 0) Cx dX4_decide_137 (by decide) ?_
                  refine vV_callVi Cx (KX4_get hi v7_0) (cwV 2 Cx.1.2.2.2.2 (uGV u3_113 u3_115 us_24 u1_7 u3_116) rfl rfl rfl hdX4_get ⟨Nat.le_of_ble_eq_true rfl, Nat.le_of_ble_eq_true rfl⟩) 0 rfl rfl rfl rfl (Nat.le_of_ble_eq_true rfl) ⟨Nat.zero_le _, Nat.zero_le _⟩ dX4_decide_138 ?_
                  refine vV_iconst (v := 2) Cx dX4_decide_141 (by decide) ?_
                  refine vV_icmp_ne (tgt := 161) Cx dX4_decide_142 (by decide) (fun h142 => ?_) (fun h142 => ?_)
                  · exact vV_vret Cx hr hlk dX4_decide_161 (by exact congrArg (fun z => wN cI cZ ad E z N) (by clear Cx hr hlk; simp_all [-Int32.not_lt, -Int32.not_le, m_dec, m_d1, m_d2, m_late, m_wk, cS_same, cS_ne]))
                  · refine vV_aload_n Cx 0 dX4_decide_145 rfl rfl ?_
                    refine vV_iload_n Cx 1 dX4_decide_146 rfl rfl ?_
                    refine vV_iconst (v := 1) Cx dX4_decide_147 (by decide) ?_
                    refine vV_callVi Cx (KX4_get hi v7_1) (cwV 2 Cx.1.2.2.2.2 (uGV u3_113 u3_115 us_24 u1_7 u3_116) rfl rfl rfl hdX4_get ⟨Nat.le_of_ble_eq_true rfl, Nat.le_of_ble_eq_true rfl⟩) 0 rfl rfl rfl rfl (Nat.le_of_ble_eq_true rfl) ⟨Nat.zero_le _, Nat.zero_le _⟩ dX4_decide_148 ?_
                    refine vV_if_ne (tgt := 161) Cx dX4_decide_151 (by decide) (fun h151 => ?_) (fun h151 => ?_)
                    · exact vV_vret Cx hr hlk dX4_decide_161 (by exact congrArg (fun z => wN cI cZ ad E z N) (by clear Cx hr hlk; simp_all [-Int32.not_lt, -Int32.not_le, m_dec, m_d1, m_d2, m_late, m_wk, cS_same, cS_ne]))
                    · refine vV_aload_n Cx 0 dX4_decide_154 rfl rfl ?_
                      refine vV_iload_n Cx 1 dX4_decide_155 rfl rfl ?_
                      refine vV_iconst (v := 0) Cx dX4_decide_156 (by decide) ?_
                      refine vV_iconst (v := 3) Cx dX4_decide_157 (by decide) ?_
                      refine vV_callVv Cx (KX4_put hi v7_0 _) (cwV 3 Cx.1.2.2.2.2 (uGV u3_65 u3_67 us_19 u1_7 u3_68) rfl rfl rfl hdX4_put ⟨Nat.le_of_ble_eq_true rfl, Nat.le_of_ble_eq_true rfl⟩) 0 rfl rfl rfl rfl (Nat.le_of_ble_eq_true rfl) ⟨Nat.zero_le _, Nat.zero_le _⟩ dX4_decide_158 ?_
                      exact vV_vret Cx hr hlk dX4_decide_161 (by exact congrArg (fun z => wN cI cZ ad E z N) (by clear Cx hr hlk; simp_all [-Int32.not_lt, -Int32.not_le, m_dec, m_d1, m_d2, m_late, m_wk, cS_same, cS_ne]))
                · refine vV_aload_n Cx 0 dX4_decide_120 rfl rfl ?_
                  refine vV_iload_n Cx 1 dX4_decide_121 rfl rfl ?_
                  refine vV_callVi Cx (KX4_isWeak hi) (cwV 1 Cx.1.2.2.2.2 (uGV u3_121 u3_123 us_26 u1_7 u3_124) rfl rfl rfl hdX4_isWeak ⟨Nat.le_of_ble_eq_true rfl, Nat.le_of_ble_eq_true rfl⟩) 0 rfl rfl rfl rfl (Nat.le_of_ble_eq_true rfl) ⟨Nat.zero_le _, Nat.zero_le _⟩ dX4_decide_122 ?_
                  refine vV_if_eq (tgt := 135) Cx dX4_decide_125 (by decide) (fun h125 => ?_) (fun h125 => ?_)
                  · refine vV_aload_n Cx 0 dX4_decide_135 rfl rfl ?_
                    refine vV_iload_n Cx 1 dX4_decide_136 rfl rfl ?_
                    refine vV_iconst (v := 0) Cx dX4_decide_137 (by decide) ?_
                    refine vV_callVi Cx (KX4_get hi v7_0) (cwV 2 Cx.1.2.2.2.2 (uGV u3_113 u3_115 us_24 u1_7 u3_116) rfl rfl rfl hdX4_get ⟨Nat.le_of_ble_eq_true rfl, Nat.le_of_ble_eq_true rfl⟩) 0 rfl rfl rfl rfl (Nat.le_of_ble_eq_true rfl) ⟨Nat.zero_le _, Nat.zero_le _⟩ dX4_decide_138 ?_
                    refine vV_iconst (v := 2) Cx dX4_decide_141 (by decide) ?_
                    refine vV_icmp_ne (tgt := 161) Cx dX4_decide_142 (by decide) (fun h142 => ?_) (fun h142 => ?_)
                    · exact vV_vret Cx hr hlk dX4_decide_161 (by exact congrArg (fun z => wN cI cZ ad E z N) (by clear Cx hr hlk; simp_all [-Int32.not_lt, -Int32.not_le, m_dec, m_d1, m_d2, m_late, m_wk, cS_same, cS_ne]))
                    · refine vV_aload_n Cx 0 dX4_decide_145 rfl rfl ?_
                      refine vV_iload_n Cx 1 dX4_decide_146 rfl rfl ?_
                      refine vV_iconst (v := 1) Cx dX4_decide_147 (by decide) ?_
                      refine vV_callVi Cx (KX4_get hi v7_1) (cwV 2 Cx.1.2.2.2.2 (uGV u3_113 u3_115 us_24 u1_7 u3_116) rfl rfl rfl hdX4_get ⟨Nat.le_of_ble_eq_true rfl, Nat.le_of_ble_eq_true rfl⟩) 0 rfl rfl rfl rfl (Nat.le_of_ble_eq_true rfl) ⟨Nat.zero_le _, Nat.zero_le _⟩ dX4_decide_148 ?_
                      refine vV_if_ne (tgt := 161) Cx dX4_decide_151 (by decide) (fun h151 => ?_) (fun h151 => ?_)
                      · exact vV_vret Cx hr hlk dX4_decide_161 (by exact congrArg (fun z => wN cI cZ ad E z N) (by clear Cx hr hlk; simp_all [-Int32.not_lt, -Int32.not_le, m_dec, m_d1, m_d2, m_late, m_wk, cS_same, cS_ne]))
                      · refine vV_aload_n Cx 0 dX4_decide_154 rfl rfl ?_
                        refine vV_iload_n Cx 1 dX4_decide_155 rfl rfl ?_
                        refine vV_iconst (v := 0) Cx dX4_decide_156 (by decide) ?_
                        refine vV_iconst (v := 3) Cx dX4_decide_157 (by decide) ?_
                        refine vV_callVv Cx (KX4_put hi v7_0 _) (cwV 3 Cx.1.2.2.2.2 (uGV u3_65 u3_67 us_19 u1_7 u3_68) rfl rfl rfl hdX4_put ⟨Nat.le_of_ble_eq_true rfl, Nat.le_of_ble_eq_true rfl⟩) 0 rfl rfl rfl rfl (Nat.le_of_ble_eq_true rfl) ⟨Nat.zero_le _, Nat.zero_le _⟩ dX4_decide_158 ?_
                        exact vV_vret Cx hr hlk dX4_decide_161 (by exact congrArg (fun z => wN cI cZ ad E z N) (by clear Cx hr hlk; simp_all [-Int32.not_lt, -Int32.not_le, m_dec, m_d1, m_d2, m_late, m_wk, cS_same, cS_ne]))
                  · refine vV_aload_n Cx 0 dX4_decide_128 rfl rfl ?_
                    refine vV_iload_n Cx 1 dX4_decide_129 rfl rfl ?_
                    refine vV_iconst (v := 0) Cx dX4_decide_130 (by decide) ?_
                    refine vV_iconst (v := 2) Cx dX4_decide_131 (by decide) ?_
                    refine vV_callVv Cx (KX4_put hi v7_0 _) (cwV 3 Cx.1.2.2.2.2 (uGV u3_65 u3_67 us_19 u1_7 u3_68) rfl rfl rfl hdX4_put ⟨Nat.le_of_ble_eq_true rfl, Nat.le_of_ble_eq_true rfl⟩) 0 rfl rfl rfl rfl (Nat.le_of_ble_eq_true rfl) ⟨Nat.zero_le _, Nat.zero_le _⟩ dX4_decide_132 ?_
                    refine vV_aload_n Cx 0 dX4_decide_135 rfl rfl ?_
                    refine vV_iload_n Cx 1 dX4_decide_136 rfl rfl ?_
                    refine vV_iconst (v := 0) Cx dX4_decide_137 (by decide) ?_
                    refine vV_callVi Cx (KX4_get hi v7_0) (cwV 2 Cx.1.2.2.2.2 (uGV u3_113 u3_115 us_24 u1_7 u3_116) rfl rfl rfl hdX4_get ⟨Nat.le_of_ble_eq_true rfl, Nat.le_of_ble_eq_true rfl⟩) 0 rfl rfl rfl rfl (Nat.le_of_ble_eq_true rfl) ⟨Nat.zero_le _, Nat.zero_le _⟩ dX4_decide_138 ?_
                    refine vV_iconst (v := 2) Cx dX4_decide_141 (by decide) ?_
                    refine vV_icmp_ne (tgt := 161) Cx dX4_decide_142 (by decide) (fun h142 => ?_) (fun h142 => ?_)
                    · exact vV_vret Cx hr hlk dX4_decide_161 (by exact congrArg (fun z => wN cI cZ ad E z N) (by clear Cx hr hlk; simp_all [-Int32.not_lt, -Int32.not_le, m_dec, m_d1, m_d2, m_late, m_wk, cS_same, cS_ne]))
                    · refine vV_aload_n Cx 0 dX4_decide_145 rfl rfl ?_
                      refine vV_iload_n Cx 1 dX4_decide_146 rfl rfl ?_
                      refine vV_iconst (v := 1) Cx dX4_decide_147 (by decide) ?_
                      refine vV_callVi Cx (KX4_get hi v7_1) (cwV 2 Cx.1.2.2.2.2 (uGV u3_113 u3_115 us_24 u1_7 u3_116) rfl rfl rfl hdX4_get ⟨Nat.le_of_ble_eq_true rfl, Nat.le_of_ble_eq_true rfl⟩) 0 rfl rfl rfl rfl (Nat.le_of_ble_eq_true rfl) ⟨Nat.zero_le _, Nat.zero_le _⟩ dX4_decide_148 ?_
                      refine vV_if_ne (tgt := 161) Cx dX4_decide_151 (by decide) (fun h151 => ?_) (fun h151 => ?_)
                      · exact vV_vret Cx hr hlk dX4_decide_161 (by exact congrArg (fun z => wN cI cZ ad E z N) (by clear Cx hr hlk; simp_all [-Int32.not_lt, -Int32.not_le, m_dec, m_d1, m_d2, m_late, m_wk, cS_same, cS_ne]))
                      · refine vV_aload_n Cx 0 dX4_decide_154 rfl rfl ?_
                        refine vV_iload_n Cx 1 dX4_decide_155 rfl rfl ?_
                        refine vV_iconst (v := 0) Cx dX4_decide_156 (by decide) ?_
                        refine vV_iconst (v := 3) Cx dX4_decide_157 (by decide) ?_
                        refine vV_callVv Cx (KX4_put hi v7_0 _) (cwV 3 Cx.1.2.2.2.2 (uGV u3_65 u3_67 us_19 u1_7 u3_68) rfl rfl rfl hdX4_put ⟨Nat.le_of_ble_eq_true rfl, Nat.le_of_ble_eq_true rfl⟩) 0 rfl rfl rfl rfl (Nat.le_of_ble_eq_true rfl) ⟨Nat.zero_le _, Nat.zero_le _⟩ dX4_decide_158 ?_
                        exact vV_vret Cx hr hlk dX4_decide_161 (by exact congrArg (fun z => wN cI cZ ad E z N) (by clear Cx hr hlk; simp_all [-Int32.not_lt, -Int32.not_le, m_dec, m_d1, m_d2, m_late, m_wk, cS_same, cS_ne]))
      · refine vV_aload_n Cx 0 dX4_decide_32 rfl rfl ?_
        refine vV_iload_n Cx 1 dX4_decide_33 rfl rfl ?_
        refine vV_iconst (v := 0) Cx dX4_decide_34 (by decide) ?_
        refine vV_iconst (v := 1) Cx dX4_decide_35 (by decide) ?_
        refine vV_callVv Cx (KX4_put hi v7_0 _) (cwV 3 Cx.1.2.2.2.2 (uGV u3_65 u3_67 us_19 u1_7 u3_68) rfl rfl rfl hdX4_put ⟨Nat.le_of_ble_eq_true rfl, Nat.le_of_ble_eq_true rfl⟩) 0 rfl rfl rfl rfl (Nat.le_of_ble_eq_true rfl) ⟨Nat.zero_le _, Nat.zero_le _⟩ dX4_decide_36 ?_
        refine vV_aload_n Cx 0 dX4_decide_39 rfl rfl ?_
        refine vV_iload_n Cx 1 dX4_decide_40 rfl rfl ?_
        refine vV_iconst (v := 4) Cx dX4_decide_41 (by decide) ?_
        refine vV_callVi Cx (KX4_get hi v7_4) (cwV 2 Cx.1.2.2.2.2 (uGV u3_113 u3_115 us_24 u1_7 u3_116) rfl rfl rfl hdX4_get ⟨Nat.le_of_ble_eq_true rfl, Nat.le_of_ble_eq_true rfl⟩) 0 rfl rfl rfl rfl (Nat.le_of_ble_eq_true rfl) ⟨Nat.zero_le _, Nat.zero_le _⟩ dX4_decide_42 ?_
        refine vV_iconst (v := -1) Cx dX4_decide_45 (by decide) ?_
        refine vV_icmp_ne (tgt := 59) Cx dX4_decide_46 (by decide) (fun h46 => ?_) (fun h46 => ?_)
        · exact vV_vret Cx hr hlk dX4_decide_59 (by exact congrArg (fun z => wN cI cZ ad E z N) (by clear Cx hr hlk; simp_all [-Int32.not_lt, -Int32.not_le, m_dec, m_d1, m_d2, m_late, m_wk, cS_same, cS_ne]))
        · refine vV_aload_n Cx 0 dX4_decide_49 rfl rfl ?_
          refine vV_iload_n Cx 1 dX4_decide_50 rfl rfl ?_
          refine vV_iconst (v := 4) Cx dX4_decide_51 (by decide) ?_
          refine vV_aload_n Cx 0 dX4_decide_52 rfl rfl ?_
          refine vU_get Cx hinX4 0 rfl rfl 4 (by decide) u2_231 rfl dX4_decide_53 ?_
          refine vV_callVv Cx (KX4_put hi v7_4 _) (cwV 3 Cx.1.2.2.2.2 (uGV u3_65 u3_67 us_19 u1_7 u3_68) rfl rfl rfl hdX4_put ⟨Nat.le_of_ble_eq_true rfl, Nat.le_of_ble_eq_true rfl⟩) 0 rfl rfl rfl rfl (Nat.le_of_ble_eq_true rfl) ⟨Nat.zero_le _, Nat.zero_le _⟩ dX4_decide_56 ?_
          exact vV_vret Cx hr hlk dX4_decide_59 (by exact congrArg (fun z => wN cI cZ ad E z N) (by clear Cx hr hlk; simp_all [-Int32.not_lt, -Int32.not_le, m_dec, m_d1, m_d2, m_late, m_wk, cS_same, cS_ne]))
abbrev rX4_breathe : Room := { frames := 2, cells := 0, slots := 0, locals := 43 }
set_option maxRecDepth 100000 in
set_option maxHeartbeats 4000000 in
theorem KX4_breathe {l : Launch} {D : va_G} {cI cZ : ClassId} {ad : Nat → Nat} {A : Nat → Prop} {E C N : mT} {x : Int32} {i : Nat} (hi : vix x 12 i) : vKv l D (vtys cI cZ) A yX4_breathe (uT yX4_breathe cX4_breathe 3 (none)) rX4_breathe (wN cI cZ ad E C N) [.ref (ad 0), .int x] (wN cI cZ ad (E) (m_br E i C) (N)) := by
  refine vKv_of (cc := cX4_breathe) (maxL := 3) (ret := none) (by decide) rfl rfl (Nat.le_of_ble_eq_true rfl) ?_
  intro p e s m below meth c Cx hr hlk
  refine vV_aload_n Cx 0 dX4_breathe_0 rfl rfl ?_
  refine vV_iload_n Cx 1 dX4_breathe_1 rfl rfl ?_
  refine vV_iconst (v := 0) Cx dX4_breathe_2 (by decide) ?_
  refine vV_callVi Cx (KX4_get hi v7_0) (cwV 2 Cx.1.2.2.2.2 (uGV u3_113 u3_115 us_24 u1_7 u3_116) rfl rfl rfl hdX4_get ⟨Nat.le_of_ble_eq_true rfl, Nat.le_of_ble_eq_true rfl⟩) 0 rfl rfl rfl rfl (Nat.le_of_ble_eq_true rfl) ⟨Nat.zero_le _, Nat.zero_le _⟩ dX4_breathe_3 ?_
  refine vV_iconst (v := 3) Cx dX4_breathe_6 (by decide) ?_
  refine vV_icmp_ne (tgt := 11) Cx dX4_breathe_7 (by decide) (fun h7 => ?_) (fun h7 => ?_)
  · refine vV_aload_n Cx 0 dX4_breathe_11 rfl rfl ?_
    refine vV_iload_n Cx 1 dX4_breathe_12 rfl rfl ?_
    refine vV_callVi Cx (KX4_isAtCamp hi) (cwV 1 Cx.1.2.2.2.2 (uGV u3_109 u3_111 us_23 u1_7 u3_112) rfl rfl rfl hdX4_isAtCamp ⟨Nat.le_of_ble_eq_true rfl, Nat.le_of_ble_eq_true rfl⟩) 0 rfl rfl rfl rfl (Nat.le_of_ble_eq_true rfl) ⟨Nat.zero_le _, Nat.zero_le _⟩ dX4_breathe_13 ?_
    refine vV_istore_n Cx 2 dX4_breathe_16 rfl (by decide) ?_
    refine vV_iload_n Cx 2 dX4_breathe_17 rfl rfl ?_
    refine vV_if_eq (tgt := 30) Cx dX4_breathe_18 (by decide) (fun h18 => ?_) (fun h18 => ?_)
    · refine vV_aload_n Cx 0 dX4_breathe_30 rfl rfl ?_
      refine vV_iload_n Cx 1 dX4_breathe_31 rfl rfl ?_
      refine vV_callVi Cx (KX4_pitchOf hi) (cwV 1 Cx.1.2.2.2.2 (uGV u3_137 u3_139 us_30 u1_7 u3_140) rfl rfl rfl hdX4_pitchOf ⟨Nat.le_of_ble_eq_true rfl, Nat.le_of_ble_eq_true rfl⟩) 0 rfl rfl rfl rfl (Nat.le_of_ble_eq_true rfl) ⟨Nat.zero_le _, Nat.zero_le _⟩ dX4_breathe_32 ?_
      refine vV_aload_n Cx 0 dX4_breathe_35 rfl rfl ?_
      refine vU_get Cx hinX4 0 rfl rfl 3 (by decide) u2_230 rfl dX4_breathe_36 ?_
      refine vV_icmp_ge (tgt := 43) Cx dX4_breathe_39 (by decide) (fun h39 => ?_) (fun h39 => ?_)
      · refine vV_aload_n Cx 0 dX4_breathe_43 rfl rfl ?_
        refine vV_iload_n Cx 1 dX4_breathe_44 rfl rfl ?_
        refine vV_iconst (v := 3) Cx dX4_breathe_45 (by decide) ?_
        refine vV_iconst (v := 0) Cx dX4_breathe_46 (by decide) ?_
        refine vV_aload_n Cx 0 dX4_breathe_47 rfl rfl ?_
        refine vV_iload_n Cx 1 dX4_breathe_48 rfl rfl ?_
        refine vV_iconst (v := 3) Cx dX4_breathe_49 (by decide) ?_
        refine vV_callVi Cx (KX4_get hi v7_3) (cwV 2 Cx.1.2.2.2.2 (uGV u3_113 u3_115 us_24 u1_7 u3_116) rfl rfl rfl hdX4_get ⟨Nat.le_of_ble_eq_true rfl, Nat.le_of_ble_eq_true rfl⟩) 0 rfl rfl rfl rfl (Nat.le_of_ble_eq_true rfl) ⟨Nat.zero_le _, Nat.zero_le _⟩ dX4_breathe_50 ?_
        refine vV_iconst (v := 1) Cx dX4_breathe_53 (by decide) ?_
        refine vV_isub Cx dX4_breathe_54 ?_
        refine vU_mmax Cx u3_141 u2_34 u1_3 u2_35 (Nat.le_of_ble_eq_true rfl) (Nat.le_of_ble_eq_true rfl) (Nat.zero_le _) (Nat.zero_le _) dX4_breathe_55 ?_
        rw [show (if 0 < C 3 i - 1 then C 3 i - 1 else 0) = m_less (C 3 i) from rfl]
        refine vV_callVv Cx (KX4_put hi v7_3 _) (cwV 3 Cx.1.2.2.2.2 (uGV u3_65 u3_67 us_19 u1_7 u3_68) rfl rfl rfl hdX4_put ⟨Nat.le_of_ble_eq_true rfl, Nat.le_of_ble_eq_true rfl⟩) 0 rfl rfl rfl rfl (Nat.le_of_ble_eq_true rfl) ⟨Nat.zero_le _, Nat.zero_le _⟩ dX4_breathe_58 ?_
        refine vV_iload_n Cx 2 dX4_breathe_61 rfl rfl ?_
        refine vV_if_eq (tgt := 107) Cx dX4_breathe_62 (by decide) (fun h62 => ?_) (fun h62 => ?_)
        · exact vV_vret Cx hr hlk dX4_breathe_107 (by exact congrArg (fun z => wN cI cZ ad E z N) (by clear Cx hr hlk; simp_all [-Int32.not_lt, -Int32.not_le, m_br, m_wh, m_ac, m_wk, cS_same, cS_ne]))
        · refine vV_aload_n Cx 0 dX4_breathe_65 rfl rfl ?_
          refine vV_iload_n Cx 1 dX4_breathe_66 rfl rfl ?_
          refine vV_callVi Cx (KX4_isWeak hi) (cwV 1 Cx.1.2.2.2.2 (uGV u3_121 u3_123 us_26 u1_7 u3_124) rfl rfl rfl hdX4_isWeak ⟨Nat.le_of_ble_eq_true rfl, Nat.le_of_ble_eq_true rfl⟩) 0 rfl rfl rfl rfl (Nat.le_of_ble_eq_true rfl) ⟨Nat.zero_le _, Nat.zero_le _⟩ dX4_breathe_67 ?_
          refine vV_if_eq (tgt := 107) Cx dX4_breathe_70 (by decide) (fun h70 => ?_) (fun h70 => ?_)
          · exact vV_vret Cx hr hlk dX4_breathe_107 (by exact congrArg (fun z => wN cI cZ ad E z N) (by clear Cx hr hlk; simp_all [-Int32.not_lt, -Int32.not_le, m_br, m_wh, m_ac, m_wk, cS_same, cS_ne]))
          · refine vV_aload_n Cx 0 dX4_breathe_73 rfl rfl ?_
            refine vV_iload_n Cx 1 dX4_breathe_74 rfl rfl ?_
            refine vV_iconst (v := 0) Cx dX4_breathe_75 (by decide) ?_
            refine vV_callVi Cx (KX4_get hi v7_0) (cwV 2 Cx.1.2.2.2.2 (uGV u3_113 u3_115 us_24 u1_7 u3_116) rfl rfl rfl hdX4_get ⟨Nat.le_of_ble_eq_true rfl, Nat.le_of_ble_eq_true rfl⟩) 0 rfl rfl rfl rfl (Nat.le_of_ble_eq_true rfl) ⟨Nat.zero_le _, Nat.zero_le _⟩ dX4_breathe_76 ?_
            refine vV_iconst (v := 3) Cx dX4_breathe_79 (by decide) ?_
            refine vV_icmp_ge (tgt := 107) Cx dX4_breathe_80 (by decide) (fun h80 => ?_) (fun h80 => ?_)
            · exact vV_vret Cx hr hlk dX4_breathe_107 (by exact congrArg (fun z => wN cI cZ ad E z N) (by clear Cx hr hlk; simp_all [-Int32.not_lt, -Int32.not_le, m_br, m_wh, m_ac, m_wk, cS_same, cS_ne]))
            · refine vV_aload_n Cx 0 dX4_breathe_83 rfl rfl ?_
              refine vU_get Cx hinX4 0 rfl rfl 4 (by decide) u2_231 rfl dX4_breathe_84 ?_
              refine vV_aload_n Cx 0 dX4_breathe_87 rfl rfl ?_
              refine vV_iload_n Cx 1 dX4_breathe_88 rfl rfl ?_
              refine vV_bipush (v := 6) Cx dX4_breathe_89 (by decide) ?_
              refine vV_callVi Cx (KX4_get hi v7_6) (cwV 2 Cx.1.2.2.2.2 (uGV u3_113 u3_115 us_24 u1_7 u3_116) rfl rfl rfl hdX4_get ⟨Nat.le_of_ble_eq_true rfl, Nat.le_of_ble_eq_true rfl⟩) 0 rfl rfl rfl rfl (Nat.le_of_ble_eq_true rfl) ⟨Nat.zero_le _, Nat.zero_le _⟩ dX4_breathe_91 ?_
              refine vV_isub Cx dX4_breathe_94 ?_
              refine vV_bipush (v := 6) Cx dX4_breathe_95 (by decide) ?_
              refine vV_icmp_lt (tgt := 107) Cx dX4_breathe_97 (by decide) (fun h97 => ?_) (fun h97 => ?_)
              · exact vV_vret Cx hr hlk dX4_breathe_107 (by exact congrArg (fun z => wN cI cZ ad E z N) (by clear Cx hr hlk; simp_all [-Int32.not_lt, -Int32.not_le, m_br, m_wh, m_ac, m_wk, cS_same, cS_ne]))
              · refine vV_aload_n Cx 0 dX4_breathe_100 rfl rfl ?_
                refine vV_iload_n Cx 1 dX4_breathe_101 rfl rfl ?_
                refine vV_iconst (v := 0) Cx dX4_breathe_102 (by decide) ?_
                refine vV_iconst (v := 4) Cx dX4_breathe_103 (by decide) ?_
                refine vV_callVv Cx (KX4_put hi v7_0 _) (cwV 3 Cx.1.2.2.2.2 (uGV u3_65 u3_67 us_19 u1_7 u3_68) rfl rfl rfl hdX4_put ⟨Nat.le_of_ble_eq_true rfl, Nat.le_of_ble_eq_true rfl⟩) 0 rfl rfl rfl rfl (Nat.le_of_ble_eq_true rfl) ⟨Nat.zero_le _, Nat.zero_le _⟩ dX4_breathe_104 ?_
                exact vV_vret Cx hr hlk dX4_breathe_107 (by exact congrArg (fun z => wN cI cZ ad E z N) (by clear Cx hr hlk; simp_all [-Int32.not_lt, -Int32.not_le, m_br, m_wh, m_ac, m_wk, cS_same, cS_ne]))
      · exact vV_vret Cx hr hlk dX4_breathe_42 (by exact congrArg (fun z => wN cI cZ ad E z N) (by clear Cx hr hlk; simp_all [-Int32.not_lt, -Int32.not_le, m_br, m_wh, m_ac, m_wk, cS_same, cS_ne]))
    · refine vV_aload_n Cx 0 dX4_breathe_21 rfl rfl ?_
      refine vV_iload_n Cx 1 dX4_breathe_22 rfl rfl ?_
      refine vV_iconst (v := 1) Cx dX4_breathe_23 (by decide) ?_
      refine vV_callVi Cx (KX4_get hi v7_1) (cwV 2 Cx.1.2.2.2.2 (uGV u3_113 u3_115 us_24 u1_7 u3_116) rfl rfl rfl hdX4_get ⟨Nat.le_of_ble_eq_true rfl, Nat.le_of_ble_eq_true rfl⟩) 0 rfl rfl rfl rfl (Nat.le_of_ble_eq_true rfl) ⟨Nat.zero_le _, Nat.zero_le _⟩ dX4_breathe_24 ?_
      refine vV_goto (tgt := 35) Cx dX4_breathe_27 (by decide) ?_
      refine vV_aload_n Cx 0 dX4_breathe_35 rfl rfl ?_
      refine vU_get Cx hinX4 0 rfl rfl 3 (by decide) u2_230 rfl dX4_breathe_36 ?_
      refine vV_icmp_ge (tgt := 43) Cx dX4_breathe_39 (by decide) (fun h39 => ?_) (fun h39 => ?_)
      · refine vV_aload_n Cx 0 dX4_breathe_43 rfl rfl ?_
        refine vV_iload_n Cx 1 dX4_breathe_44 rfl rfl ?_
        refine vV_iconst (v := 3) Cx dX4_breathe_45 (by decide) ?_
        refine vV_iconst (v := 0) Cx dX4_breathe_46 (by decide) ?_
        refine vV_aload_n Cx 0 dX4_breathe_47 rfl rfl ?_
        refine vV_iload_n Cx 1 dX4_breathe_48 rfl rfl ?_
        refine vV_iconst (v := 3) Cx dX4_breathe_49 (by decide) ?_
        refine vV_callVi Cx (KX4_get hi v7_3) (cwV 2 Cx.1.2.2.2.2 (uGV u3_113 u3_115 us_24 u1_7 u3_116) rfl rfl rfl hdX4_get ⟨Nat.le_of_ble_eq_true rfl, Nat.le_of_ble_eq_true rfl⟩) 0 rfl rfl rfl rfl (Nat.le_of_ble_eq_true rfl) ⟨Nat.zero_le _, Nat.zero_le _⟩ dX4_breathe_50 ?_
        refine vV_iconst (v := 1) Cx dX4_breathe_53 (by decide) ?_
        refine vV_isub Cx dX4_breathe_54 ?_
        refine vU_mmax Cx u3_141 u2_34 u1_3 u2_35 (Nat.le_of_ble_eq_true rfl) (Nat.le_of_ble_eq_true rfl) (Nat.zero_le _) (Nat.zero_le _) dX4_breathe_55 ?_
        rw [show (if 0 < C 3 i - 1 then C 3 i - 1 else 0) = m_less (C 3 i) from rfl]
        refine vV_callVv Cx (KX4_put hi v7_3 _) (cwV 3 Cx.1.2.2.2.2 (uGV u3_65 u3_67 us_19 u1_7 u3_68) rfl rfl rfl hdX4_put ⟨Nat.le_of_ble_eq_true rfl, Nat.le_of_ble_eq_true rfl⟩) 0 rfl rfl rfl rfl (Nat.le_of_ble_eq_true rfl) ⟨Nat.zero_le _, Nat.zero_le _⟩ dX4_breathe_58 ?_
        refine vV_iload_n Cx 2 dX4_breathe_61 rfl rfl ?_
        refine vV_if_eq (tgt := 107) Cx dX4_breathe_62 (by decide) (fun h62 => ?_) (fun h62 => ?_)
        · exact vV_vret Cx hr hlk dX4_breathe_107 (by exact congrArg (fun z => wN cI cZ ad E z N) (by clear Cx hr hlk; simp_all [-Int32.not_lt, -Int32.not_le, m_br, m_wh, m_ac, m_wk, cS_same, cS_ne]))
        · refine vV_aload_n Cx 0 dX4_breathe_65 rfl rfl ?_
          refine vV_iload_n Cx 1 dX4_breathe_66 rfl rfl ?_
          refine vV_callVi Cx (KX4_isWeak hi) (cwV 1 Cx.1.2.2.2.2 (uGV u3_121 u3_123 us_26 u1_7 u3_124) rfl rfl rfl hdX4_isWeak ⟨Nat.le_of_ble_eq_true rfl, Nat.le_of_ble_eq_true rfl⟩) 0 rfl rfl rfl rfl (Nat.le_of_ble_eq_true rfl) ⟨Nat.zero_le _, Nat.zero_le _⟩ dX4_breathe_67 ?_
          refine vV_if_eq (tgt := 107) Cx dX4_breathe_70 (by decide) (fun h70 => ?_) (fun h70 => ?_)
          · exact vV_vret Cx hr hlk dX4_breathe_107 (by exact congrArg (fun z => wN cI cZ ad E z N) (by clear Cx hr hlk; simp_all [-Int32.not_lt, -Int32.not_le, m_br, m_wh, m_ac, m_wk, cS_same, cS_ne]))
          · refine vV_aload_n Cx 0 dX4_breathe_73 rfl rfl ?_
            refine vV_iload_n Cx 1 dX4_breathe_74 rfl rfl ?_
            refine vV_iconst (v := 0) Cx dX4_breathe_75 (by decide) ?_
            refine vV_callVi Cx (KX4_get hi v7_0) (cwV 2 Cx.1.2.2.2.2 (uGV u3_113 u3_115 us_24 u1_7 u3_116) rfl rfl rfl hdX4_get ⟨Nat.le_of_ble_eq_true rfl, Nat.le_of_ble_eq_true rfl⟩) 0 rfl rfl rfl rfl (Nat.le_of_ble_eq_true rfl) ⟨Nat.zero_le _, Nat.zero_le _⟩ dX4_breathe_76 ?_
            refine vV_iconst (v := 3) Cx dX4_breathe_79 (by decide) ?_
            refine vV_icmp_ge (tgt := 107) Cx dX4_breathe_80 (by decide) (fun h80 => ?_) (fun h80 => ?_)
            · exact vV_vret Cx hr hlk dX4_breathe_107 (by exact congrArg (fun z => wN cI cZ ad E z N) (by clear Cx hr hlk; simp_all [-Int32.not_lt, -Int32.not_le, m_br, m_wh, m_ac, m_wk, cS_same, cS_ne]))
            · refine vV_aload_n Cx 0 dX4_breathe_83 rfl rfl ?_
              refine vU_get Cx hinX4 0 rfl rfl 4 (by decide) u2_231 rfl dX4_breathe_84 ?_
              refine vV_aload_n Cx 0 dX4_breathe_87 rfl rfl ?_
              refine vV_iload_n Cx 1 dX4_breathe_88 rfl rfl ?_
              refine vV_bipush (v := 6) Cx dX4_breathe_89 (by decide) ?_
              refine vV_callVi Cx (KX4_get hi v7_6) (cwV 2 Cx.1.2.2.2.2 (uGV u3_113 u3_115 us_24 u1_7 u3_116) rfl rfl rfl hdX4_get ⟨Nat.le_of_ble_eq_true rfl, Nat.le_of_ble_eq_true rfl⟩) 0 rfl rfl rfl rfl (Nat.le_of_ble_eq_true rfl) ⟨Nat.zero_le _, Nat.zero_le _⟩ dX4_breathe_91 ?_
              refine vV_isub Cx dX4_breathe_94 ?_
              refine vV_bipush (v := 6) Cx dX4_breathe_95 (by decide) ?_
              refine vV_icmp_lt (tgt := 107) Cx dX4_breathe_97 (by decide) (fun h97 => ?_) (fun h97 => ?_)
              · exact vV_vret Cx hr hlk dX4_breathe_107 (by exact congrArg (fun z => wN cI cZ ad E z N) (by clear Cx hr hlk; simp_all [-Int32.not_lt, -Int32.not_le, m_br, m_wh, m_ac, m_wk, cS_same, cS_ne]))
              · refine vV_aload_n Cx 0 dX4_breathe_100 rfl rfl ?_
                refine vV_iload_n Cx 1 dX4_breathe_101 rfl rfl ?_
                refine vV_iconst (v := 0) Cx dX4_breathe_102 (by decide) ?_
                refine vV_iconst (v := 4) Cx dX4_breathe_103 (by decide) ?_
                refine vV_callVv Cx (KX4_put hi v7_0 _) (cwV 3 Cx.1.2.2.2.2 (uGV u3_65 u3_67 us_19 u1_7 u3_68) rfl rfl rfl hdX4_put ⟨Nat.le_of_ble_eq_true rfl, Nat.le_of_ble_eq_true rfl⟩) 0 rfl rfl rfl rfl (Nat.le_of_ble_eq_true rfl) ⟨Nat.zero_le _, Nat.zero_le _⟩ dX4_breathe_104 ?_
                exact vV_vret Cx hr hlk dX4_breathe_107 (by exact congrArg (fun z => wN cI cZ ad E z N) (by clear Cx hr hlk; simp_all [-Int32.not_lt, -Int32.not_le, m_br, m_wh, m_ac, m_wk, cS_same, cS_ne]))
      · exact vV_vret Cx hr hlk dX4_breathe_42 (by exact congrArg (fun z => wN cI cZ ad E z N) (by clear Cx hr hlk; simp_all [-Int32.not_lt, -Int32.not_le, m_br, m_wh, m_ac, m_wk, cS_same, cS_ne]))
  · exact vV_vret Cx hr hlk dX4_breathe_10 (by exact congrArg (fun z => wN cI cZ ad E z N) (by clear Cx hr hlk; simp_all [-Int32.not_lt, -Int32.not_le, m_br, m_wh, m_ac, m_wk, cS_same, cS_ne]))
