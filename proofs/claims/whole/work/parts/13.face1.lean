/-! RopeMountain: its public methods as functions -/
theorem vV_ws {D : va_G} {tys : List (ClassId × FieldType)} {A : Nat → Prop} {nL : Nat} {p : Program} {l : Launch} {e : Env} {R : Room} {s : State} {m : MethodId} {args : Array Value} {below : List Frame} {meth : Method} {c : Code} {cells slots : Nat} {Q : State → Prop} {L : List Value} {pc : Nat} {st : List Value} {w1 w2 : va_W} (h : w1 = w2) (k : vV D tys A nL p l e R s m args below meth c cells slots Q w1 L pc st) : vV D tys A nL p l e R s m args below meth c cells slots Q w2 L pc st := by subst h; exact k
theorem isW_nI {v : Int32} {k : Nat} (h : ¬ isW v 0 (nI k) = 0) (hk : k < 2 ^ 31) : ∃ j, j ≤ k ∧ v = nI j := nI_of2 (nI_toInt hk) (Int32.not_lt.mpr (isW_in h).1) (isW_in h).2
theorem isW_nI1 {v : Int32} {k : Nat} (h : ¬ isW v 0 (nI k - 1) = 0) (hk : k < 2 ^ 30) : ∃ j, j < k ∧ v = nI j := by
  obtain ⟨h0, h1⟩ := isW_in h
  cases k with
  | zero => exact absurd (Int32.le_trans h0 h1) (by decide)
  | succ k =>
    rw [nI_pred] at h1
    obtain ⟨j, hj, e⟩ := nI_of2 (nI_toInt (by omega)) (Int32.not_lt.mpr h0) h1
    exact ⟨j, by omega, e⟩
theorem isW_nI2 {v : Int32} {k a : Nat} (ha : a < 2 ^ 31) (h : ¬ isW v (nI a) (nI k) = 0) (hk : k < 2 ^ 31) : ∃ j, a ≤ j ∧ j ≤ k ∧ v = nI j := by
  obtain ⟨h0, h1⟩ := isW_in h
  obtain ⟨j, hj, e⟩ := nI_of2 (nI_toInt hk) (Int32.not_lt.mpr (Int32.le_trans (nI_pos' ha) h0)) h1
  refine ⟨j, ?_, hj, e⟩
  rw [e] at h0
  exact (nI_leI ha (by omega)).mp h0
abbrev rX3_mountain : Room := { frames := 2, cells := 0, slots := 0, locals := 61 }
set_option maxRecDepth 100000 in
set_option maxHeartbeats 4000000 in
theorem KX3_mountain {l : Launch} {D : va_G} {cI cZ : ClassId} {ad : Nat → Nat} {A : Nat → Prop} {E C T : mT} {S : Nat → Int32} {n : Nat} (hn : E 8 2 = nI n) (h12n : n ≤ 12) (v : Int32) : vKi l D (vtys cI cZ) A yX3_mountain (uT yX3_mountain cX3_mountain 2 (some .boolean)) rX3_mountain (wR cI cZ ad E C T S) [.ref (ad 0), .int v] (isW v 1 6) (wR cI cZ ad (if isW v 1 6 = 0 then E else layE E v) (if isW v 1 6 = 0 then C else c_reset (layE E v) n C) (T) (S)) := by
  refine vKi_of (cc := cX3_mountain) (maxL := 2) (ret := some .boolean) (by decide) rfl rfl (Nat.le_of_ble_eq_true rfl) ?_
  intro p e s m below meth c Cx hr hlk
  refine vV_iload_n Cx 1 dX3_mountain_0 rfl rfl ?_
  refine vV_iconst (v := 1) Cx dX3_mountain_1 (by decide) ?_
  refine vV_bipush (v := 6) Cx dX3_mountain_2 (by decide) ?_
  refine vV_callSi Cx (KX3_isWithin (ad := ad) _ _ _ _) (cwS 3 Cx.1.2.2.2.2 (uGS u1_171 u1_172 u1_1 u1_173) rfl rfl rfl hdX3_isWithin ⟨Nat.le_of_ble_eq_true rfl, Nat.le_of_ble_eq_true rfl⟩) rfl rfl (Nat.le_of_ble_eq_true rfl) ⟨Nat.zero_le _, Nat.zero_le _⟩ dX3_mountain_4 ?_
  refine vV_if_ne (tgt := 12) Cx dX3_mountain_7 (by decide) (fun h7 => ?_) (fun h7 => ?_)
  · refine vV_aload_n Cx 0 dX3_mountain_12 rfl rfl ?_
    refine vU_get Cx hinX3 0 rfl rfl 0 (by decide) u1_154 rfl dX3_mountain_13 ?_
    refine vV_iload_n Cx 1 dX3_mountain_16 rfl rfl ?_
    refine vV_callVv Cx (R_layAnew v) (cwV 1 Cx.1.2.2.2.2 (uGV u1_174 u1_28 u1_29 u1_2 u1_30) rfl rfl rfl hdX2_layAnew ⟨Nat.le_of_ble_eq_true rfl, Nat.le_of_ble_eq_true rfl⟩) 1 rfl rfl rfl rfl (Nat.le_of_ble_eq_true rfl) ⟨Nat.zero_le _, Nat.zero_le _⟩ dX3_mountain_17 ?_
    refine vV_aload_n Cx 0 dX3_mountain_20 rfl rfl ?_
    refine vU_get Cx hinX3 0 rfl rfl 2 (by decide) u1_156 rfl dX3_mountain_21 ?_
    refine vV_callVv Cx (R1_reset (E := layE E v) (n := n) hn h12n) (cwV 0 Cx.1.2.2.2.2 (uGV u1_175 u1_176 u1_177 u1_6 u1_178) rfl rfl rfl hdX0_reset ⟨Nat.le_of_ble_eq_true rfl, Nat.le_of_ble_eq_true rfl⟩) 11 rfl rfl rfl rfl (Nat.le_of_ble_eq_true rfl) ⟨Nat.zero_le _, Nat.zero_le _⟩ dX3_mountain_24 ?_
    refine vV_iconst (v := 1) Cx dX3_mountain_27 (by decide) ?_
    exact vV_zret Cx hr hlk dX3_mountain_28 (by first | rfl | decide) (by exact (isW_ne.resolve_left h7).symm) (by simp [h7])
  · refine vV_iconst (v := 0) Cx dX3_mountain_10 (by decide) ?_
    exact vV_zret Cx hr hlk dX3_mountain_11 (by first | rfl | decide) (by first | rfl | (clear Cx hr hlk; simp_all [-Int32.not_lt, -Int32.not_le])) (by simp [h7])
def r_pitch (E : mT) (v x y : Int32) : Int32 := if isW v 0 (E 8 0 - 1) = 0 then 0 else if isW x 1 8 = 0 then 0 else if isW y 1 6 = 0 then 0 else 1
def e_pitch (E : mT) (v x y : Int32) : mT := if r_pitch E v x y = 0 then E else cS (cS E 0 v.toNatClampNeg x) 1 v.toNatClampNeg y
abbrev rX3_pitch : Room := { frames := 2, cells := 0, slots := 0, locals := 43 }
set_option maxRecDepth 100000 in
set_option maxHeartbeats 4000000 in
theorem KX3_pitch {l : Launch} {D : va_G} {cI cZ : ClassId} {ad : Nat → Nat} {A : Nat → Prop} {E C T : mT} {S : Nat → Int32} {np : Nat} (hp : E 8 0 = nI np) (hp6 : np ≤ 6) (v x y : Int32) : vKi l D (vtys cI cZ) A yX3_pitch (uT yX3_pitch cX3_pitch 4 (some .boolean)) rX3_pitch (wR cI cZ ad E C T S) [.ref (ad 0), .int v, .int x, .int y] (r_pitch E v x y) (wR cI cZ ad (e_pitch E v x y) (C) (T) (S)) := by
  refine vKi_of (cc := cX3_pitch) (maxL := 4) (ret := some .boolean) (by decide) rfl rfl (Nat.le_of_ble_eq_true rfl) ?_
  intro p e s m below meth c Cx hr hlk
  refine vV_aload_n Cx 0 dX3_pitch_0 rfl rfl ?_
  refine vU_get Cx hinX3 0 rfl rfl 0 (by decide) u1_154 rfl dX3_pitch_1 ?_
  refine vV_iload_n Cx 1 dX3_pitch_4 rfl rfl ?_
  refine vV_callVi Cx (R_hasPitch v) (cwV 1 Cx.1.2.2.2.2 (uGV u1_187 u1_188 u1_189 u1_2 u1_190) rfl rfl rfl hdX2_hasPitch ⟨Nat.le_of_ble_eq_true rfl, Nat.le_of_ble_eq_true rfl⟩) 1 rfl rfl rfl rfl (Nat.le_of_ble_eq_true rfl) ⟨Nat.zero_le _, Nat.zero_le _⟩ dX3_pitch_5 ?_
  refine vV_if_eq (tgt := 31) Cx dX3_pitch_8 (by decide) (fun h8 => ?_) (fun h8 => ?_)
  · refine vV_iconst (v := 0) Cx dX3_pitch_31 (by decide) ?_
    exact vV_zret Cx hr hlk dX3_pitch_32 (by first | rfl | decide) (by first | rfl | (clear Cx hr hlk; simp_all [-Int32.not_lt, -Int32.not_le, r_pitch])) (by first | (simp [e_pitch, r_pitch, h8]; done) | (simp [e_pitch, r_pitch, h8]; rfl))
  · refine vV_iload_n Cx 2 dX3_pitch_11 rfl rfl ?_
    refine vV_iconst (v := 1) Cx dX3_pitch_12 (by decide) ?_
    refine vV_bipush (v := 8) Cx dX3_pitch_13 (by decide) ?_
    refine vV_callSi Cx (KX3_isWithin (ad := ad) _ _ _ _) (cwS 3 Cx.1.2.2.2.2 (uGS u1_171 u1_172 u1_1 u1_173) rfl rfl rfl hdX3_isWithin ⟨Nat.le_of_ble_eq_true rfl, Nat.le_of_ble_eq_true rfl⟩) rfl rfl (Nat.le_of_ble_eq_true rfl) ⟨Nat.zero_le _, Nat.zero_le _⟩ dX3_pitch_15 ?_
    refine vV_if_eq (tgt := 31) Cx dX3_pitch_18 (by decide) (fun h18 => ?_) (fun h18 => ?_)
    · refine vV_iconst (v := 0) Cx dX3_pitch_31 (by decide) ?_
      exact vV_zret Cx hr hlk dX3_pitch_32 (by first | rfl | decide) (by first | rfl | (clear Cx hr hlk; simp_all [-Int32.not_lt, -Int32.not_le, r_pitch])) (by first | (simp [e_pitch, r_pitch, h8, h18]; done) | (simp [e_pitch, r_pitch, h8, h18]; rfl))
    · refine vV_iload_n Cx 3 dX3_pitch_21 rfl rfl ?_
      refine vV_iconst (v := 1) Cx dX3_pitch_22 (by decide) ?_
      refine vV_bipush (v := 6) Cx dX3_pitch_23 (by decide) ?_
      refine vV_callSi Cx (KX3_isWithin (ad := ad) _ _ _ _) (cwS 3 Cx.1.2.2.2.2 (uGS u1_171 u1_172 u1_1 u1_173) rfl rfl rfl hdX3_isWithin ⟨Nat.le_of_ble_eq_true rfl, Nat.le_of_ble_eq_true rfl⟩) rfl rfl (Nat.le_of_ble_eq_true rfl) ⟨Nat.zero_le _, Nat.zero_le _⟩ dX3_pitch_25 ?_
      refine vV_if_ne (tgt := 33) Cx dX3_pitch_28 (by decide) (fun h28 => ?_) (fun h28 => ?_)
      · have hi : vix v 6 v.toNatClampNeg := by rw [hp] at h8; obtain ⟨j, hj, rfl⟩ := isW_nI1 h8 (by omega); exact ⟨(vix_nI (n := 6) (by omega) (by decide)).1, rfl⟩
        refine vV_aload_n Cx 0 dX3_pitch_33 rfl rfl ?_
        refine vU_get Cx hinX3 0 rfl rfl 0 (by decide) u1_154 rfl dX3_pitch_34 ?_
        refine vU_get Cx hinX2 1 rfl rfl 2 (by decide) u1_44 rfl dX3_pitch_37 ?_
        refine vV_iload_n Cx 1 dX3_pitch_40 rfl rfl ?_
        refine vV_iload_n Cx 2 dX3_pitch_41 rfl rfl ?_
        refine vV_iast Cx 2 0 rfl rfl (by assumption) dX3_pitch_42 wk_length ?_
        refine vV_aload_n Cx 0 dX3_pitch_43 rfl rfl ?_
        refine vU_get Cx hinX3 0 rfl rfl 0 (by decide) u1_154 rfl dX3_pitch_44 ?_
        refine vU_get Cx hinX2 1 rfl rfl 3 (by decide) u1_47 rfl dX3_pitch_47 ?_
        refine vV_iload_n Cx 1 dX3_pitch_50 rfl rfl ?_
        refine vV_iload_n Cx 3 dX3_pitch_51 rfl rfl ?_
        refine vV_iast Cx 3 0 rfl rfl (by assumption) dX3_pitch_52 wk_width ?_
        refine vV_iconst (v := 1) Cx dX3_pitch_53 (by decide) ?_
        exact vV_zret Cx hr hlk dX3_pitch_54 (by first | rfl | decide) (by first | rfl | (clear Cx hr hlk; simp_all [-Int32.not_lt, -Int32.not_le, r_pitch])) (by first | (simp [e_pitch, r_pitch, h8, h18, h28]; done) | (simp [e_pitch, r_pitch, h8, h18, h28]; rfl))
      · refine vV_iconst (v := 0) Cx dX3_pitch_31 (by decide) ?_
        exact vV_zret Cx hr hlk dX3_pitch_32 (by first | rfl | decide) (by first | rfl | (clear Cx hr hlk; simp_all [-Int32.not_lt, -Int32.not_le, r_pitch])) (by first | (simp [e_pitch, r_pitch, h8, h18, h28]; done) | (simp [e_pitch, r_pitch, h8, h18, h28]; rfl))
abbrev rX3_high : Room := { frames := 2, cells := 0, slots := 0, locals := 43 }
set_option maxRecDepth 100000 in
set_option maxHeartbeats 4000000 in
theorem KX3_high {l : Launch} {D : va_G} {cI cZ : ClassId} {ad : Nat → Nat} {A : Nat → Prop} {E C T : mT} {S : Nat → Int32} (v : Int32) : vKi l D (vtys cI cZ) A yX3_high (uT yX3_high cX3_high 3 (some .int)) rX3_high (wR cI cZ ad E C T S) [.ref (ad 0), .int v] (if isW v 0 (E 8 0) = 0 then -1 else E 8 1) (wR cI cZ ad (if isW v 0 (E 8 0) = 0 then E else cS E 8 1 v) (C) (T) (S)) := by
  refine vKi_of (cc := cX3_high) (maxL := 3) (ret := some .int) (by decide) rfl rfl (Nat.le_of_ble_eq_true rfl) ?_
  intro p e s m below meth c Cx hr hlk
  refine vV_aload_n Cx 0 dX3_high_0 rfl rfl ?_
  refine vU_get Cx hinX3 0 rfl rfl 0 (by decide) u1_154 rfl dX3_high_1 ?_
  refine vV_iload_n Cx 1 dX3_high_4 rfl rfl ?_
  refine vV_callVi Cx (R_hasCamp v) (cwV 1 Cx.1.2.2.2.2 (uGV u1_196 u1_197 u1_198 u1_2 u1_199) rfl rfl rfl hdX2_hasCamp ⟨Nat.le_of_ble_eq_true rfl, Nat.le_of_ble_eq_true rfl⟩) 1 rfl rfl rfl rfl (Nat.le_of_ble_eq_true rfl) ⟨Nat.zero_le _, Nat.zero_le _⟩ dX3_high_5 ?_
  refine vV_if_ne (tgt := 13) Cx dX3_high_8 (by decide) (fun h8 => ?_) (fun h8 => ?_)
  · refine vV_aload_n Cx 0 dX3_high_13 rfl rfl ?_
    refine vU_get Cx hinX3 0 rfl rfl 0 (by decide) u1_154 rfl dX3_high_14 ?_
    refine vU_get Cx hinX2 1 rfl rfl 1 (by decide) u1_41 rfl dX3_high_17 ?_
    refine vV_istore_n Cx 2 dX3_high_20 rfl (by decide) ?_
    refine vV_aload_n Cx 0 dX3_high_21 rfl rfl ?_
    refine vU_get Cx hinX3 0 rfl rfl 0 (by decide) u1_154 rfl dX3_high_22 ?_
    refine vV_iload_n Cx 1 dX3_high_25 rfl rfl ?_
    refine vU_put Cx hinX2 tyX2_ok nmX2 1 rfl rfl 1 (by decide) u1_41 rfl (by decide +kernel) (Nat.le_of_ble_eq_true rfl) dX3_high_26 wp_high ?_
    refine vV_iload_n Cx 2 dX3_high_29 rfl rfl ?_
    exact vV_iret Cx hr hlk dX3_high_30 (by simp [h8]) (by simp [h8])
  · refine vV_iconst (v := -1) Cx dX3_high_11 (by decide) ?_
    exact vV_iret Cx hr hlk dX3_high_12 (by simp [h8]) (by simp [h8])
def r_wind (f t : Int32) : Int32 := if f < 0 then 0 else if t < f then 0 else if t < 200 then 1 else 0
def e_wind (E : mT) (f t z : Int32) : mT := if r_wind f t = 0 then E else vlp (fun h E => cS E 2 h (vp_nar .boolean z)) (t.toNatClampNeg + 1) f.toNatClampNeg E
abbrev rX3_wind : Room := { frames := 0, cells := 0, slots := 0, locals := 0 }
set_option maxRecDepth 100000 in
set_option maxHeartbeats 4000000 in
theorem KX3_wind {l : Launch} {D : va_G} {cI cZ : ClassId} {ad : Nat → Nat} {A : Nat → Prop} {E C T : mT} {S : Nat → Int32} (f t z : Int32) : vKi l D (vtys cI cZ) A yX3_wind (uT yX3_wind cX3_wind 5 (some .boolean)) rX3_wind (wR cI cZ ad E C T S) [.ref (ad 0), .int f, .int t, .int z] (r_wind f t) (wR cI cZ ad (e_wind E f t z) (C) (T) (S)) := by
  refine vKi_of (cc := cX3_wind) (maxL := 5) (ret := some .boolean) (by decide) rfl rfl (Nat.le_of_ble_eq_true rfl) ?_
  intro p e s m below meth c Cx hr hlk
  have Lp : ∀ (fuel i : Nat) (Z : mT), t.toNatClampNeg + 1 - i < fuel → i ≤ t.toNatClampNeg + 1 → t = nI t.toNatClampNeg → t.toNatClampNeg < 200 → r_wind f t = 1 → vlp (fun h E => cS E 2 h (vp_nar .boolean z)) (t.toNatClampNeg + 1) i Z = e_wind E f t z → vV D (vtys cI cZ) A 5 p l e rX3_wind s m ([.ref (ad 0), .int f, .int t, .int z] : List Value).toArray below meth c 0 0 (MQ below (vQi D A (r_wind f t) (wR cI cZ ad (e_wind E f t z) (C) (T) (S))) ([.ref (ad 0), .int f, .int t, .int z] : List Value).toArray s 0 0 A) (wR cI cZ ad (Z) (C) (T) (S)) [.ref (ad 0), .int f, .int t, .int z, .int (nI i)] 21 [] := by
    intro fuel
    induction fuel with
    | zero => intro i Z h2; exact absurd h2 (Nat.not_lt_zero _)
    | succ fuel ih =>
      intro i Z h2 h1 hte ht hrw h3
      refine vV_iload Cx dX3_wind_21 rfl ?_
      refine vV_iload_n Cx 2 dX3_wind_23 rfl rfl ?_
      refine vV_icmp_gt (tgt := 44) Cx dX3_wind_24 (by decide) (fun h24 => ?_) (fun h24 => ?_)
      · have hin : t.toNatClampNeg + 1 ≤ i := by rw [hte] at h24; exact (nI_ltI (by omega) (by omega)).mp h24
        refine vV_iconst (v := 1) Cx dX3_wind_44 (by decide) ?_
        exact vV_zret Cx hr hlk dX3_wind_45 (by first | rfl | decide) (by exact hrw.symm) (by rw [vlp_done hin] at h3; rw [h3])
      · have hlt : i < t.toNatClampNeg + 1 := Nat.lt_of_not_le (fun hh => h24 (by rw [hte]; exact nI_lt hh (by omega)))
        have hi : vix (nI i) 200 i := vix_nI (by omega) (by decide)
        refine vV_aload_n Cx 0 dX3_wind_27 rfl rfl ?_
        refine vU_get Cx hinX3 0 rfl rfl 0 (by decide) u1_154 rfl dX3_wind_28 ?_
        refine vU_get Cx hinX2 1 rfl rfl 4 (by decide) u1_50 rfl dX3_wind_31 ?_
        refine vV_iload Cx dX3_wind_34 rfl ?_
        refine vV_iload_n Cx 3 dX3_wind_36 rfl rfl ?_
        refine vV_zast Cx 4 1 rfl rfl (by assumption) dX3_wind_37 wk_windy ?_
        refine vV_iinc Cx dX3_wind_38 rfl (vinc _) (by decide) ?_
        refine vV_goto (tgt := 21) Cx dX3_wind_41 (by decide) ?_
        exact ih (i + 1) _ (by omega) (by omega) hte ht hrw ((vlp_step hlt).symm.trans h3)
  refine vV_iload_n Cx 1 dX3_wind_0 rfl rfl ?_
  refine vV_if_lt (tgt := 16) Cx dX3_wind_1 (by decide) (fun h1 => ?_) (fun h1 => ?_)
  · refine vV_iconst (v := 0) Cx dX3_wind_16 (by decide) ?_
    exact vV_zret Cx hr hlk dX3_wind_17 (by first | rfl | decide) (by simp [-Int32.not_lt, r_wind, h1]) (by simp [-Int32.not_lt, e_wind, r_wind, h1])
  · refine vV_iload_n Cx 2 dX3_wind_4 rfl rfl ?_
    refine vV_iload_n Cx 1 dX3_wind_5 rfl rfl ?_
    refine vV_icmp_lt (tgt := 16) Cx dX3_wind_6 (by decide) (fun h6 => ?_) (fun h6 => ?_)
    · refine vV_iconst (v := 0) Cx dX3_wind_16 (by decide) ?_
      exact vV_zret Cx hr hlk dX3_wind_17 (by first | rfl | decide) (by simp [-Int32.not_lt, r_wind, h1, h6]) (by simp [-Int32.not_lt, e_wind, r_wind, h1, h6])
    · refine vV_iload_n Cx 2 dX3_wind_9 rfl rfl ?_
      refine vV_sipush (v := 200) Cx dX3_wind_10 (by decide) ?_
      refine vV_icmp_lt (tgt := 18) Cx dX3_wind_13 (by decide) (fun h13 => ?_) (fun h13 => ?_)
      · refine vV_iload_n Cx 1 dX3_wind_18 rfl rfl ?_
        refine vV_istore Cx dX3_wind_19 (by decide) ?_
        have hr1 : r_wind f t = 1 := by simp [-Int32.not_lt, r_wind, h1, h6, h13]
        obtain ⟨i, hi, rfl⟩ := nI_of h1
        obtain ⟨j, hj, rfl⟩ := nI_of (x := t) (fun hh => h6 (Int32.lt_of_lt_of_le hh (nI_pos' hi)))
        have hj2 : j < 200 := (nI_ltI hj (by decide)).mp h13
        have hij : i ≤ j := Nat.le_of_not_lt (fun hh => h6 (nI_lt hh hi))
        exact Lp (j + 2) i E (by rw [nI_clamp hj]; omega) (by rw [nI_clamp hj]; omega) (by rw [nI_clamp hj]) (by rw [nI_clamp hj]; exact hj2) hr1 (by rw [e_wind, hr1, if_neg (by decide), nI_clamp hi])
      · refine vV_iconst (v := 0) Cx dX3_wind_16 (by decide) ?_
        exact vV_zret Cx hr hlk dX3_wind_17 (by first | rfl | decide) (by simp [-Int32.not_lt, r_wind, h1, h6, h13]) (by simp [-Int32.not_lt, e_wind, r_wind, h1, h6, h13])
def r_ok3 (t q r : Int32) : Int32 := if isW t 0 3 = 0 then 0 else if isW q 0 4 = 0 then 0 else if isW r 0 200 = 0 then 0 else 1
def e_join (E : mT) (n : Nat) (t q r : Int32) : mT := cS (cS (cS (cS E 3 n t) 4 n q) 5 n r) 8 2 (nI n + 1)
abbrev rX3_climber : Room := { frames := 1, cells := 0, slots := 0, locals := 24 }
set_option maxRecDepth 100000 in
set_option maxHeartbeats 4000000 in
theorem KX3_climber {l : Launch} {D : va_G} {cI cZ : ClassId} {ad : Nat → Nat} {A : Nat → Prop} {E C T : mT} {S : Nat → Int32} {n : Nat} (hn : E 8 2 = nI n) (h12n : n ≤ 12) (t q r : Int32) : vKi l D (vtys cI cZ) A yX3_climber (uT yX3_climber cX3_climber 5 (some .int)) rX3_climber (wR cI cZ ad E C T S) [.ref (ad 0), .int t, .int q, .int r] (if r_ok3 t q r = 0 ∨ ¬ n < 12 then -1 else nI n) (wR cI cZ ad (if r_ok3 t q r = 0 ∨ ¬ n < 12 then E else e_join E n t q r) (if r_ok3 t q r = 0 ∨ ¬ n < 12 then C else c_paf (e_join E n t q r) n C) (T) (S)) := by
  refine vKi_of (cc := cX3_climber) (maxL := 5) (ret := some .int) (by decide) rfl rfl (Nat.le_of_ble_eq_true rfl) ?_
  intro p e s m below meth c Cx hr hlk
  refine vV_iload_n Cx 1 dX3_climber_0 rfl rfl ?_
  refine vV_iconst (v := 0) Cx dX3_climber_1 (by decide) ?_
  refine vV_iconst (v := 3) Cx dX3_climber_2 (by decide) ?_
  refine vV_callSi Cx (KX3_isWithin (ad := ad) _ _ _ _) (cwS 3 Cx.1.2.2.2.2 (uGS u1_171 u1_172 u1_1 u1_173) rfl rfl rfl hdX3_isWithin ⟨Nat.le_of_ble_eq_true rfl, Nat.le_of_ble_eq_true rfl⟩) rfl rfl (Nat.le_of_ble_eq_true rfl) ⟨Nat.zero_le _, Nat.zero_le _⟩ dX3_climber_3 ?_
  refine vV_if_eq (tgt := 41) Cx dX3_climber_6 (by decide) (fun h6 => ?_) (fun h6 => ?_)
  · refine vV_iconst (v := -1) Cx dX3_climber_41 (by decide) ?_
    exact vV_iret Cx hr hlk dX3_climber_42 (by first | rfl | (clear Cx hr hlk; simp_all [-Int32.not_lt, -Int32.not_le, r_ok3])) (by first | rfl | (clear Cx hr hlk; simp_all [-Int32.not_lt, -Int32.not_le, r_ok3]))
  · refine vV_iload_n Cx 2 dX3_climber_9 rfl rfl ?_
    refine vV_iconst (v := 0) Cx dX3_climber_10 (by decide) ?_
    refine vV_iconst (v := 4) Cx dX3_climber_11 (by decide) ?_
    refine vV_callSi Cx (KX3_isWithin (ad := ad) _ _ _ _) (cwS 3 Cx.1.2.2.2.2 (uGS u1_171 u1_172 u1_1 u1_173) rfl rfl rfl hdX3_isWithin ⟨Nat.le_of_ble_eq_true rfl, Nat.le_of_ble_eq_true rfl⟩) rfl rfl (Nat.le_of_ble_eq_true rfl) ⟨Nat.zero_le _, Nat.zero_le _⟩ dX3_climber_12 ?_
    refine vV_if_eq (tgt := 41) Cx dX3_climber_15 (by decide) (fun h15 => ?_) (fun h15 => ?_)
    · refine vV_iconst (v := -1) Cx dX3_climber_41 (by decide) ?_
      exact vV_iret Cx hr hlk dX3_climber_42 (by first | rfl | (clear Cx hr hlk; simp_all [-Int32.not_lt, -Int32.not_le, r_ok3])) (by first | rfl | (clear Cx hr hlk; simp_all [-Int32.not_lt, -Int32.not_le, r_ok3]))
    · refine vV_iload_n Cx 3 dX3_climber_18 rfl rfl ?_
      refine vV_iconst (v := 0) Cx dX3_climber_19 (by decide) ?_
      refine vV_sipush (v := 200) Cx dX3_climber_20 (by decide) ?_
      refine vV_callSi Cx (KX3_isWithin (ad := ad) _ _ _ _) (cwS 3 Cx.1.2.2.2.2 (uGS u1_171 u1_172 u1_1 u1_173) rfl rfl rfl hdX3_isWithin ⟨Nat.le_of_ble_eq_true rfl, Nat.le_of_ble_eq_true rfl⟩) rfl rfl (Nat.le_of_ble_eq_true rfl) ⟨Nat.zero_le _, Nat.zero_le _⟩ dX3_climber_23 ?_
      refine vV_if_eq (tgt := 41) Cx dX3_climber_26 (by decide) (fun h26 => ?_) (fun h26 => ?_)
      · refine vV_iconst (v := -1) Cx dX3_climber_41 (by decide) ?_
        exact vV_iret Cx hr hlk dX3_climber_42 (by first | rfl | (clear Cx hr hlk; simp_all [-Int32.not_lt, -Int32.not_le, r_ok3])) (by first | rfl | (clear Cx hr hlk; simp_all [-Int32.not_lt, -Int32.not_le, r_ok3]))
      · refine vV_aload_n Cx 0 dX3_climber_29 rfl rfl ?_
        refine vU_get Cx hinX3 0 rfl rfl 1 (by decide) u1_155 rfl dX3_climber_30 ?_
        refine vU_get Cx hinX1 5 rfl rfl 0 (by decide) u1_73 rfl dX3_climber_33 ?_
        refine vV_bipush (v := 12) Cx dX3_climber_36 (by decide) ?_
        refine vV_icmp_lt (tgt := 43) Cx dX3_climber_38 (by decide) (fun h38 => ?_) (fun h38 => ?_)
        · rw [hn] at h38
          have hlt : n < 12 := (nI_ltI (by omega) (by decide)).mp h38
          have hi : vix (nI n) 12 n := vix_nI (by omega) (by decide)
          have hok : ¬ (r_ok3 t q r = 0 ∨ ¬ n < 12) := by simp [r_ok3, h6, h15, h26, h38, hlt]
          refine vV_aload_n Cx 0 dX3_climber_43 rfl rfl ?_
          refine vU_get Cx hinX3 0 rfl rfl 1 (by decide) u1_155 rfl dX3_climber_44 ?_
          refine vV_iload_n Cx 1 dX3_climber_47 rfl rfl ?_
          refine vV_iload_n Cx 2 dX3_climber_48 rfl rfl ?_
          refine vV_iload_n Cx 3 dX3_climber_49 rfl rfl ?_
          refine vV_callVi Cx (KX1_join hn hi t q r) (cwV 3 Cx.1.2.2.2.2 (uGV u1_208 u1_209 u1_210 u1_5 u1_211) rfl rfl rfl hdX1_join ⟨Nat.le_of_ble_eq_true rfl, Nat.le_of_ble_eq_true rfl⟩) 5 rfl rfl rfl rfl (Nat.le_of_ble_eq_true rfl) ⟨Nat.zero_le _, Nat.zero_le _⟩ dX3_climber_50 ?_
          refine vV_istore Cx dX3_climber_53 (by decide) ?_
          refine vV_aload_n Cx 0 dX3_climber_55 rfl rfl ?_
          refine vU_get Cx hinX3 0 rfl rfl 2 (by decide) u1_156 rfl dX3_climber_56 ?_
          refine vV_iload Cx dX3_climber_59 rfl ?_
          refine vV_callVv Cx (R1_putAtFoot (E := e_join E n t q r) hi) (cwV 1 Cx.1.2.2.2.2 (uGV u1_212 u1_180 u1_181 u1_6 u1_182) rfl rfl rfl hdX0_putAtFoot ⟨Nat.le_of_ble_eq_true rfl, Nat.le_of_ble_eq_true rfl⟩) 11 rfl rfl rfl rfl (Nat.le_of_ble_eq_true rfl) ⟨Nat.zero_le _, Nat.zero_le _⟩ dX3_climber_61 ?_
          refine vV_iload Cx dX3_climber_64 rfl ?_
          exact vV_iret Cx hr hlk dX3_climber_66 (by rw [if_neg hok]) (by rw [if_neg hok, if_neg hok])
        · rw [hn] at h38
          have hlt : ¬ n < 12 := fun hh => h38 (nI_lt hh (by decide))
          refine vV_iconst (v := -1) Cx dX3_climber_41 (by decide) ?_
          exact vV_iret Cx hr hlk dX3_climber_42 (by first | rfl | (clear Cx hr hlk; simp_all [-Int32.not_lt, -Int32.not_le, r_ok3])) (by first | rfl | (clear Cx hr hlk; simp_all [-Int32.not_lt, -Int32.not_le, r_ok3]))
def r_team (t w v : Int32) : Int32 := if isW t 0 3 = 0 then 0 else if isW w 0 1 = 0 then 0 else if isW v 0 (if w = 0 then 100 else 200) = 0 then 0 else 1
def e_team (E : mT) (t w v : Int32) : mT := if r_team t w v = 0 then E else if w = 0 then cS E 6 t.toNatClampNeg v else cS E 7 t.toNatClampNeg v
def a_team (E : mT) (t w v : Int32) : Int32 := if r_team t w v = 0 then -1 else if w = 0 then E 6 t.toNatClampNeg else E 7 t.toNatClampNeg
abbrev rX3_team : Room := { frames := 1, cells := 0, slots := 0, locals := 22 }
set_option maxRecDepth 100000 in
set_option maxHeartbeats 4000000 in
theorem KX3_team {l : Launch} {D : va_G} {cI cZ : ClassId} {ad : Nat → Nat} {A : Nat → Prop} {E C T : mT} {S : Nat → Int32} (t w v : Int32) : vKi l D (vtys cI cZ) A yX3_team (uT yX3_team cX3_team 6 (some .int)) rX3_team (wR cI cZ ad E C T S) [.ref (ad 0), .int t, .int w, .int v] (a_team E t w v) (wR cI cZ ad (e_team E t w v) (C) (T) (S)) := by
  refine vKi_of (cc := cX3_team) (maxL := 6) (ret := some .int) (by decide) rfl rfl (Nat.le_of_ble_eq_true rfl) ?_
  intro p e s m below meth c Cx hr hlk
  refine vV_iload_n Cx 1 dX3_team_0 rfl rfl ?_
  refine vV_iconst (v := 0) Cx dX3_team_1 (by decide) ?_
  refine vV_iconst (v := 3) Cx dX3_team_2 (by decide) ?_
  refine vV_callSi Cx (KX3_isWithin (ad := ad) _ _ _ _) (cwS 3 Cx.1.2.2.2.2 (uGS u1_171 u1_172 u1_1 u1_173) rfl rfl rfl hdX3_isWithin ⟨Nat.le_of_ble_eq_true rfl, Nat.le_of_ble_eq_true rfl⟩) rfl rfl (Nat.le_of_ble_eq_true rfl) ⟨Nat.zero_le _, Nat.zero_le _⟩ dX3_team_3 ?_
  refine vV_if_eq (tgt := 18) Cx dX3_team_6 (by decide) (fun h6 => ?_) (fun h6 => ?_)
  · refine vV_iconst (v := -1) Cx dX3_team_18 (by decide) ?_
    exact vV_iret Cx hr hlk dX3_team_19 (by simp_all [a_team, r_team]) (by simp_all [e_team, r_team])
  · have hi : vix t 4 t.toNatClampNeg := vix_of (M := 3) rfl (isW_in h6).1 (isW_in h6).2
    refine vV_iload_n Cx 2 dX3_team_9 rfl rfl ?_
    refine vV_iconst (v := 0) Cx dX3_team_10 (by decide) ?_
    refine vV_iconst (v := 1) Cx dX3_team_11 (by decide) ?_
    refine vV_callSi Cx (KX3_isWithin (ad := ad) _ _ _ _) (cwS 3 Cx.1.2.2.2.2 (uGS u1_171 u1_172 u1_1 u1_173) rfl rfl rfl hdX3_isWithin ⟨Nat.le_of_ble_eq_true rfl, Nat.le_of_ble_eq_true rfl⟩) rfl rfl (Nat.le_of_ble_eq_true rfl) ⟨Nat.zero_le _, Nat.zero_le _⟩ dX3_team_12 ?_
    refine vV_if_ne (tgt := 20) Cx dX3_team_15 (by decide) (fun h15 => ?_) (fun h15 => ?_)
    · refine vV_iload_n Cx 3 dX3_team_20 rfl rfl ?_
      refine vV_iconst (v := 0) Cx dX3_team_21 (by decide) ?_
      refine vV_iload_n Cx 2 dX3_team_22 rfl rfl ?_
      refine vV_if_ne (tgt := 31) Cx dX3_team_23 (by decide) (fun h23 => ?_) (fun h23 => ?_)
      · refine vV_sipush (v := 200) Cx dX3_team_31 (by decide) ?_
        refine vV_callSi Cx (KX3_isWithin (ad := ad) _ _ _ _) (cwS 3 Cx.1.2.2.2.2 (uGS u1_171 u1_172 u1_1 u1_173) rfl rfl rfl hdX3_isWithin ⟨Nat.le_of_ble_eq_true rfl, Nat.le_of_ble_eq_true rfl⟩) rfl rfl (Nat.le_of_ble_eq_true rfl) ⟨Nat.zero_le _, Nat.zero_le _⟩ dX3_team_34 ?_
        refine vV_if_ne (tgt := 42) Cx dX3_team_37 (by decide) (fun h37 => ?_) (fun h37 => ?_)
        · refine vV_iload_n Cx 2 dX3_team_42 rfl rfl ?_
          refine vV_if_ne (tgt := 56) Cx dX3_team_43 (by decide) (fun h43 => ?_) (fun h43 => ?_)
          · refine vV_aload_n Cx 0 dX3_team_56 rfl rfl ?_
            refine vU_get Cx hinX3 0 rfl rfl 1 (by decide) u1_155 rfl dX3_team_57 ?_
            refine vU_get Cx hinX1 5 rfl rfl 5 (by decide) u1_84 rfl dX3_team_60 ?_
            refine vV_astore Cx dX3_team_63 (by decide) ?_
            refine vV_aload Cx dX3_team_65 rfl ?_
            refine vV_iload_n Cx 1 dX3_team_67 rfl rfl ?_
            refine vV_iald Cx 10 0 rfl rfl (by assumption) dX3_team_68 ?_
            refine vV_istore Cx dX3_team_69 (by decide) ?_
            refine vV_aload Cx dX3_team_71 rfl ?_
            refine vV_iload_n Cx 1 dX3_team_73 rfl rfl ?_
            refine vV_iload_n Cx 3 dX3_team_74 rfl rfl ?_
            refine vV_iast Cx 10 0 rfl rfl (by assumption) dX3_team_75 wk_turn ?_
            refine vV_iload Cx dX3_team_76 rfl ?_
            exact vV_iret Cx hr hlk dX3_team_78 (by simp_all [a_team, r_team]) (by simp_all [e_team, r_team])
          · refine vV_aload_n Cx 0 dX3_team_46 rfl rfl ?_
            refine vU_get Cx hinX3 0 rfl rfl 1 (by decide) u1_155 rfl dX3_team_47 ?_
            refine vU_get Cx hinX1 5 rfl rfl 4 (by decide) u1_81 rfl dX3_team_50 ?_
            refine vV_goto (tgt := 63) Cx dX3_team_53 (by decide) ?_
            refine vV_astore Cx dX3_team_63 (by decide) ?_
            refine vV_aload Cx dX3_team_65 rfl ?_
            refine vV_iload_n Cx 1 dX3_team_67 rfl rfl ?_
            refine vV_iald Cx 9 0 rfl rfl (by assumption) dX3_team_68 ?_
            refine vV_istore Cx dX3_team_69 (by decide) ?_
            refine vV_aload Cx dX3_team_71 rfl ?_
            refine vV_iload_n Cx 1 dX3_team_73 rfl rfl ?_
            refine vV_iload_n Cx 3 dX3_team_74 rfl rfl ?_
            refine vV_iast Cx 9 0 rfl rfl (by assumption) dX3_team_75 wk_start ?_
            refine vV_iload Cx dX3_team_76 rfl ?_
            exact vV_iret Cx hr hlk dX3_team_78 (by simp_all [a_team, r_team]) (by simp_all [e_team, r_team])
        · refine vV_iconst (v := -1) Cx dX3_team_40 (by decide) ?_
          exact vV_iret Cx hr hlk dX3_team_41 (by simp_all [a_team, r_team]) (by simp_all [e_team, r_team])
      · refine vV_bipush (v := 100) Cx dX3_team_26 (by decide) ?_
        refine vV_goto (tgt := 34) Cx dX3_team_28 (by decide) ?_
        refine vV_callSi Cx (KX3_isWithin (ad := ad) _ _ _ _) (cwS 3 Cx.1.2.2.2.2 (uGS u1_171 u1_172 u1_1 u1_173) rfl rfl rfl hdX3_isWithin ⟨Nat.le_of_ble_eq_true rfl, Nat.le_of_ble_eq_true rfl⟩) rfl rfl (Nat.le_of_ble_eq_true rfl) ⟨Nat.zero_le _, Nat.zero_le _⟩ dX3_team_34 ?_
        refine vV_if_ne (tgt := 42) Cx dX3_team_37 (by decide) (fun h37 => ?_) (fun h37 => ?_)
        · refine vV_iload_n Cx 2 dX3_team_42 rfl rfl ?_
          refine vV_if_ne (tgt := 56) Cx dX3_team_43 (by decide) (fun h43 => ?_) (fun h43 => ?_)
          · refine vV_aload_n Cx 0 dX3_team_56 rfl rfl ?_
            refine vU_get Cx hinX3 0 rfl rfl 1 (by decide) u1_155 rfl dX3_team_57 ?_
            refine vU_get Cx hinX1 5 rfl rfl 5 (by decide) u1_84 rfl dX3_team_60 ?_
            refine vV_astore Cx dX3_team_63 (by decide) ?_
            refine vV_aload Cx dX3_team_65 rfl ?_
            refine vV_iload_n Cx 1 dX3_team_67 rfl rfl ?_
            refine vV_iald Cx 10 0 rfl rfl (by assumption) dX3_team_68 ?_
            refine vV_istore Cx dX3_team_69 (by decide) ?_
            refine vV_aload Cx dX3_team_71 rfl ?_
            refine vV_iload_n Cx 1 dX3_team_73 rfl rfl ?_
            refine vV_iload_n Cx 3 dX3_team_74 rfl rfl ?_
            refine vV_iast Cx 10 0 rfl rfl (by assumption) dX3_team_75 wk_turn ?_
            refine vV_iload Cx dX3_team_76 rfl ?_
            exact vV_iret Cx hr hlk dX3_team_78 (by simp_all [a_team, r_team]) (by simp_all [e_team, r_team])
          · refine vV_aload_n Cx 0 dX3_team_46 rfl rfl ?_
            refine vU_get Cx hinX3 0 rfl rfl 1 (by decide) u1_155 rfl dX3_team_47 ?_
            refine vU_get Cx hinX1 5 rfl rfl 4 (by decide) u1_81 rfl dX3_team_50 ?_
            refine vV_goto (tgt := 63) Cx dX3_team_53 (by decide) ?_
            refine vV_astore Cx dX3_team_63 (by decide) ?_
            refine vV_aload Cx dX3_team_65 rfl ?_
            refine vV_iload_n Cx 1 dX3_team_67 rfl rfl ?_
            refine vV_iald Cx 9 0 rfl rfl (by assumption) dX3_team_68 ?_
            refine vV_istore Cx dX3_team_69 (by decide) ?_
            refine vV_aload Cx dX3_team_71 rfl ?_
            refine vV_iload_n Cx 1 dX3_team_73 rfl rfl ?_
            refine vV_iload_n Cx 3 dX3_team_74 rfl rfl ?_
            refine vV_iast Cx 9 0 rfl rfl (by assumption) dX3_team_75 wk_start ?_
            refine vV_iload Cx dX3_team_76 rfl ?_
            exact vV_iret Cx hr hlk dX3_team_78 (by simp_all [a_team, r_team]) (by simp_all [e_team, r_team])
        · refine vV_iconst (v := -1) Cx dX3_team_40 (by decide) ?_
          exact vV_iret Cx hr hlk dX3_team_41 (by simp_all [a_team, r_team]) (by simp_all [e_team, r_team])
    · refine vV_iconst (v := -1) Cx dX3_team_18 (by decide) ?_
      exact vV_iret Cx hr hlk dX3_team_19 (by simp_all [a_team, r_team]) (by simp_all [e_team, r_team])
abbrev rX3_begin : Room := { frames := 2, cells := 0, slots := 0, locals := 42 }
set_option maxRecDepth 100000 in
set_option maxHeartbeats 4000000 in
theorem KX3_begin {l : Launch} {D : va_G} {cI cZ : ClassId} {ad : Nat → Nat} {A : Nat → Prop} {E C T : mT} {S : Nat → Int32} {n : Nat} (hn : E 8 2 = nI n) (h12n : n ≤ 12) : vKi l D (vtys cI cZ) A yX3_begin (uT yX3_begin cX3_begin 1 (some .int)) rX3_begin (wR cI cZ ad E C T S) [.ref (ad 0)] (nI n) (wR cI cZ ad E (c_reset E n C) T S) := by
  refine vKi_of (cc := cX3_begin) (maxL := 1) (ret := some .int) (by decide) rfl rfl (Nat.le_of_ble_eq_true rfl) ?_
  intro p e s m below meth c Cx hr hlk
  refine vV_aload_n Cx 0 dX3_begin_0 rfl rfl ?_
  refine vU_get Cx hinX3 0 rfl rfl 2 (by decide) u1_156 rfl dX3_begin_1 ?_
  refine vV_callVv Cx (R1_reset hn h12n) (cwV 0 Cx.1.2.2.2.2 (uGV u1_175 u1_176 u1_177 u1_6 u1_178) rfl rfl rfl hdX0_reset ⟨Nat.le_of_ble_eq_true rfl, Nat.le_of_ble_eq_true rfl⟩) 11 rfl rfl rfl rfl (Nat.le_of_ble_eq_true rfl) ⟨Nat.zero_le _, Nat.zero_le _⟩ dX3_begin_4 ?_
  refine vV_aload_n Cx 0 dX3_begin_7 rfl rfl ?_
  refine vU_get Cx hinX3 0 rfl rfl 1 (by decide) u1_155 rfl dX3_begin_8 ?_
  refine vU_get Cx hinX1 5 rfl rfl 0 (by decide) u1_73 rfl dX3_begin_11 ?_
  exact vV_iret Cx hr hlk dX3_begin_14 (by exact hn) (by rfl)
def c_run (E : mT) (n np : Nat) : Nat → mT → mT
  | 0, C => C
  | k + 1, C => if C 9 0 < 200 then c_run E n np k (c_ph E (E 6) n np C) else C
def e_run (E : mT) (n np : Nat) (v : Int32) (C : mT) : mT := if isW v 0 100 = 0 then C else c_run E n np v.toNatClampNeg C
def a_run (E : mT) (n np : Nat) (v : Int32) (C : mT) : Int32 := if isW v 0 100 = 0 then -1 else c_run E n np v.toNatClampNeg C 9 0
abbrev rX3_run : Room := { frames := 4, cells := 0, slots := 0, locals := 89 }
set_option maxRecDepth 100000 in
set_option maxHeartbeats 4000000 in
theorem KX3_run {l : Launch} {D : va_G} {cI cZ : ClassId} {ad : Nat → Nat} {A : Nat → Prop} {E C T : mT} {S : Nat → Int32} {n : Nat} (hn : E 8 2 = nI n) (h12n : n ≤ 12) (ht : ∀ i, i < n → vix (E 3 i) 4 (tm E i)) {np : Nat} (hp : E 8 0 = nI np) (hp6 : np ≤ 6) (hw : ∀ s, s < 6 → E 1 s = nI (wd E s) ∧ wd E s ≤ 6) (v : Int32) : vKi l D (vtys cI cZ) A yX3_run (uT yX3_run cX3_run 3 (some .int)) rX3_run (wR cI cZ ad E C T S) [.ref (ad 0), .int v] (a_run E n np v C) (wR cI cZ ad E (e_run E n np v C) T S) := by
  refine vKi_of (cc := cX3_run) (maxL := 3) (ret := some .int) (by decide) rfl rfl (Nat.le_of_ble_eq_true rfl) ?_
  intro p e s m below meth c Cx hr hlk
  have Lp : ∀ (fuel i j : Nat) (Z : mT), v = nI j → j ≤ 100 → i ≤ j → j - i < fuel → c_run E n np (j - i) Z = e_run E n np v C → c_run E n np (j - i) Z 9 0 = a_run E n np v C → vV D (vtys cI cZ) A 3 p l e rX3_run s m ([.ref (ad 0), .int v] : List Value).toArray below meth c 0 0 (MQ below (vQi D A (a_run E n np v C) (wR cI cZ ad E (e_run E n np v C) T S)) ([.ref (ad 0), .int v] : List Value).toArray s 0 0 A) (wR cI cZ ad (E) (Z) (T) (S)) [.ref (ad 0), .int v, .int (nI i)] 14 [] := by
    intro fuel
    induction fuel with
    | zero => intro i j Z _ _ h1 h2; exact absurd h2 (Nat.not_lt_zero _)
    | succ fuel ih =>
      intro i j Z hv hj h1 h2 h3 h4
      refine vV_iload_n Cx 2 dX3_run_14 rfl rfl ?_
      refine vV_iload_n Cx 1 dX3_run_15 rfl rfl ?_
      refine vV_icmp_ge (tgt := 45) Cx dX3_run_16 (by decide) (fun h16 => ?_) (fun h16 => ?_)
      · rw [hv] at h16
        have hin := vix_ge h16 (by omega) h1
        rw [hin, Nat.sub_self] at h3 h4
        refine vV_aload_n Cx 0 dX3_run_45 rfl rfl ?_
        refine vU_get Cx hinX3 0 rfl rfl 2 (by decide) u1_156 rfl dX3_run_46 ?_
        refine vU_get Cx hinX0 11 rfl rfl 3 (by decide) u1_110 rfl dX3_run_49 ?_
        exact vV_iret Cx hr hlk dX3_run_52 (by exact h4) (by first | (rw [← h3]; done) | (rw [← h3]; rfl))
      · rw [hv] at h16
        have hlt := vix_lt h16 (by omega) h1
        rw [show j - i = (j - (i + 1)) + 1 by omega, c_run] at h3 h4
        refine vV_aload_n Cx 0 dX3_run_19 rfl rfl ?_
        refine vU_get Cx hinX3 0 rfl rfl 2 (by decide) u1_156 rfl dX3_run_20 ?_
        refine vU_get Cx hinX0 11 rfl rfl 3 (by decide) u1_110 rfl dX3_run_23 ?_
        refine vV_sipush (v := 200) Cx dX3_run_26 (by decide) ?_
        refine vV_icmp_ge (tgt := 45) Cx dX3_run_29 (by decide) (fun h29 => ?_) (fun h29 => ?_)
        · rw [if_neg h29] at h3 h4
          refine vV_aload_n Cx 0 dX3_run_45 rfl rfl ?_
          refine vU_get Cx hinX3 0 rfl rfl 2 (by decide) u1_156 rfl dX3_run_46 ?_
          refine vU_get Cx hinX0 11 rfl rfl 3 (by decide) u1_110 rfl dX3_run_49 ?_
          exact vV_iret Cx hr hlk dX3_run_52 (by exact h4) (by first | (rw [← h3]; done) | (rw [← h3]; rfl))
        · rw [if_pos h29] at h3 h4
          refine vV_aload_n Cx 0 dX3_run_32 rfl rfl ?_
          refine vU_get Cx hinX3 0 rfl rfl 2 (by decide) u1_156 rfl dX3_run_33 ?_
          refine vV_callVv Cx (R1_passHour hn h12n ht hp hp6 hw) (cwV 0 Cx.1.2.2.2.2 (uGV u1_225 u1_226 u1_227 u1_6 u1_228) rfl rfl rfl hdX0_passHour ⟨Nat.le_of_ble_eq_true rfl, Nat.le_of_ble_eq_true rfl⟩) 11 rfl rfl rfl rfl (Nat.le_of_ble_eq_true rfl) ⟨Nat.zero_le _, Nat.zero_le _⟩ dX3_run_36 ?_
          refine vV_iinc Cx dX3_run_39 rfl (vinc _) (by decide) ?_
          refine vV_goto (tgt := 14) Cx dX3_run_42 (by decide) ?_
          exact ih (i + 1) j _ hv hj (by omega) (by omega) h3 h4
  refine vV_iload_n Cx 1 dX3_run_0 rfl rfl ?_
  refine vV_iconst (v := 0) Cx dX3_run_1 (by decide) ?_
  refine vV_bipush (v := 100) Cx dX3_run_2 (by decide) ?_
  refine vV_callSi Cx (KX3_isWithin (ad := ad) _ _ _ _) (cwS 3 Cx.1.2.2.2.2 (uGS u1_171 u1_172 u1_1 u1_173) rfl rfl rfl hdX3_isWithin ⟨Nat.le_of_ble_eq_true rfl, Nat.le_of_ble_eq_true rfl⟩) rfl rfl (Nat.le_of_ble_eq_true rfl) ⟨Nat.zero_le _, Nat.zero_le _⟩ dX3_run_4 ?_
  refine vV_if_ne (tgt := 12) Cx dX3_run_7 (by decide) (fun h7 => ?_) (fun h7 => ?_)
  · refine vV_iconst (v := 0) Cx dX3_run_12 (by decide) ?_
    refine vV_istore_n Cx 2 dX3_run_13 rfl (by decide) ?_
    obtain ⟨j, hj, hv⟩ := isW_nI (k := 100) h7 (by decide)
    exact Lp 101 0 j C hv hj (by omega) (by omega) (by rw [e_run, if_neg h7, hv, nI_clamp (by omega)]; rfl) (by rw [a_run, if_neg h7, hv, nI_clamp (by omega)]; rfl)
  · refine vV_iconst (v := -1) Cx dX3_run_10 (by decide) ?_
    exact vV_iret Cx hr hlk dX3_run_11 (by simp [a_run, h7]) (by simp [e_run, h7])
def a_count (E : mT) (n : Nat) (v : Int32) (C : mT) : Int32 := if v = 0 then E 8 0 else if v = 1 then E 8 2 else if v = 2 then C 9 0 else if v = 3 then E 8 1 else if v = 4 then c_sum n C else if v = 5 then c_inS n 3 C else if v = 6 then c_inS n 4 C else if v = 7 then c_wts n C else -1
theorem a_count_out (E : mT) (n : Nat) {v : Int32} (C : mT) (h : v.toInt < 0 ∨ 7 < v.toInt) : -1 = a_count E n v C := by
  have hk : ∀ k : Nat, k < 8 → v ≠ nI k := fun k hk q => by rw [q, nI_toInt (by omega)] at h; omega
  unfold a_count
  rw [if_neg (show ¬ v = 0 from hk 0 (by decide)), if_neg (show ¬ v = 1 from hk 1 (by decide)), if_neg (show ¬ v = 2 from hk 2 (by decide)), if_neg (show ¬ v = 3 from hk 3 (by decide)), if_neg (show ¬ v = 4 from hk 4 (by decide)), if_neg (show ¬ v = 5 from hk 5 (by decide)), if_neg (show ¬ v = 6 from hk 6 (by decide)), if_neg (show ¬ v = 7 from hk 7 (by decide))]
abbrev rX3_count : Room := { frames := 1, cells := 0, slots := 0, locals := 23 }
set_option maxRecDepth 100000 in
set_option maxHeartbeats 4000000 in
theorem KX3_count {l : Launch} {D : va_G} {cI cZ : ClassId} {ad : Nat → Nat} {A : Nat → Prop} {E C T : mT} {S : Nat → Int32} {n : Nat} (hn : E 8 2 = nI n) (h12n : n ≤ 12) (v : Int32) : vKi l D (vtys cI cZ) A yX3_count (uT yX3_count cX3_count 2 (some .int)) rX3_count (wR cI cZ ad E C T S) [.ref (ad 0), .int v] (a_count E n v C) (wR cI cZ ad E C T S) := by
  refine vKi_of (cc := cX3_count) (maxL := 2) (ret := some .int) (by decide) rfl rfl (Nat.le_of_ble_eq_true rfl) ?_
  intro p e s m below meth c Cx hr hlk
  refine vV_iload_n Cx 1 dX3_count_0 rfl rfl ?_
  rcases tsw8 v with rfl | rfl | rfl | rfl | rfl | rfl | rfl | rfl | hout
  · refine vV_tableIn (tgt := 48) Cx dX3_count_1 (by decide) (by decide) rfl (by decide) ?_
    refine vV_aload_n Cx 0 dX3_count_48 rfl rfl ?_
    refine vU_get Cx hinX3 0 rfl rfl 0 (by decide) u1_154 rfl dX3_count_49 ?_
    refine vU_get Cx hinX2 1 rfl rfl 0 (by decide) u1_39 rfl dX3_count_52 ?_
    exact vV_iret Cx hr hlk dX3_count_55 (by rfl) (by rfl)
  · refine vV_tableIn (tgt := 56) Cx dX3_count_1 (by decide) (by decide) rfl (by decide) ?_
    refine vV_aload_n Cx 0 dX3_count_56 rfl rfl ?_
    refine vU_get Cx hinX3 0 rfl rfl 1 (by decide) u1_155 rfl dX3_count_57 ?_
    refine vU_get Cx hinX1 5 rfl rfl 0 (by decide) u1_73 rfl dX3_count_60 ?_
    exact vV_iret Cx hr hlk dX3_count_63 (by rfl) (by rfl)
  · refine vV_tableIn (tgt := 64) Cx dX3_count_1 (by decide) (by decide) rfl (by decide) ?_
    refine vV_aload_n Cx 0 dX3_count_64 rfl rfl ?_
    refine vU_get Cx hinX3 0 rfl rfl 2 (by decide) u1_156 rfl dX3_count_65 ?_
    refine vU_get Cx hinX0 11 rfl rfl 3 (by decide) u1_110 rfl dX3_count_68 ?_
    exact vV_iret Cx hr hlk dX3_count_71 (by rfl) (by rfl)
  · refine vV_tableIn (tgt := 72) Cx dX3_count_1 (by decide) (by decide) rfl (by decide) ?_
    refine vV_aload_n Cx 0 dX3_count_72 rfl rfl ?_
    refine vU_get Cx hinX3 0 rfl rfl 0 (by decide) u1_154 rfl dX3_count_73 ?_
    refine vU_get Cx hinX2 1 rfl rfl 1 (by decide) u1_41 rfl dX3_count_76 ?_
    exact vV_iret Cx hr hlk dX3_count_79 (by rfl) (by rfl)
  · refine vV_tableIn (tgt := 80) Cx dX3_count_1 (by decide) (by decide) rfl (by decide) ?_
    refine vV_aload_n Cx 0 dX3_count_80 rfl rfl ?_
    refine vU_get Cx hinX3 0 rfl rfl 2 (by decide) u1_156 rfl dX3_count_81 ?_
    refine vV_callVi Cx (R1_summits hn h12n) (cwV 0 Cx.1.2.2.2.2 (uGV u2_40 u2_41 u2_42 u1_6 u2_43) rfl rfl rfl hdX0_summits ⟨Nat.le_of_ble_eq_true rfl, Nat.le_of_ble_eq_true rfl⟩) 11 rfl rfl rfl rfl (Nat.le_of_ble_eq_true rfl) ⟨Nat.zero_le _, Nat.zero_le _⟩ dX3_count_84 ?_
    exact vV_iret Cx hr hlk dX3_count_87 (by rfl) (by rfl)
  · refine vV_tableIn (tgt := 88) Cx dX3_count_1 (by decide) (by decide) rfl (by decide) ?_
    refine vV_aload_n Cx 0 dX3_count_88 rfl rfl ?_
    refine vU_get Cx hinX3 0 rfl rfl 2 (by decide) u1_156 rfl dX3_count_89 ?_
    refine vV_iconst (v := 3) Cx dX3_count_92 (by decide) ?_
    refine vV_callVi Cx (R1_inState hn h12n _) (cwV 1 Cx.1.2.2.2.2 (uGV u2_44 u2_45 u2_46 u1_6 u2_47) rfl rfl rfl hdX0_inState ⟨Nat.le_of_ble_eq_true rfl, Nat.le_of_ble_eq_true rfl⟩) 11 rfl rfl rfl rfl (Nat.le_of_ble_eq_true rfl) ⟨Nat.zero_le _, Nat.zero_le _⟩ dX3_count_93 ?_
    exact vV_iret Cx hr hlk dX3_count_96 (by rfl) (by rfl)
  · refine vV_tableIn (tgt := 97) Cx dX3_count_1 (by decide) (by decide) rfl (by decide) ?_
    refine vV_aload_n Cx 0 dX3_count_97 rfl rfl ?_
    refine vU_get Cx hinX3 0 rfl rfl 2 (by decide) u1_156 rfl dX3_count_98 ?_
    refine vV_iconst (v := 4) Cx dX3_count_101 (by decide) ?_
    refine vV_callVi Cx (R1_inState hn h12n _) (cwV 1 Cx.1.2.2.2.2 (uGV u2_44 u2_45 u2_46 u1_6 u2_47) rfl rfl rfl hdX0_inState ⟨Nat.le_of_ble_eq_true rfl, Nat.le_of_ble_eq_true rfl⟩) 11 rfl rfl rfl rfl (Nat.le_of_ble_eq_true rfl) ⟨Nat.zero_le _, Nat.zero_le _⟩ dX3_count_102 ?_
    exact vV_iret Cx hr hlk dX3_count_105 (by rfl) (by rfl)
  · refine vV_tableIn (tgt := 106) Cx dX3_count_1 (by decide) (by decide) rfl (by decide) ?_
    refine vV_aload_n Cx 0 dX3_count_106 rfl rfl ?_
    refine vU_get Cx hinX3 0 rfl rfl 2 (by decide) u1_156 rfl dX3_count_107 ?_
    refine vV_callVi Cx (R1_allWaits hn h12n) (cwV 0 Cx.1.2.2.2.2 (uGV u2_48 u2_49 u2_50 u1_6 u2_51) rfl rfl rfl hdX0_allWaits ⟨Nat.le_of_ble_eq_true rfl, Nat.le_of_ble_eq_true rfl⟩) 11 rfl rfl rfl rfl (Nat.le_of_ble_eq_true rfl) ⟨Nat.zero_le _, Nat.zero_le _⟩ dX3_count_110 ?_
    exact vV_iret Cx hr hlk dX3_count_113 (by rfl) (by rfl)
  · refine vV_tableOut (tgt := 114) Cx dX3_count_1 hout (by decide) ?_
    refine vV_iconst (v := -1) Cx dX3_count_114 (by decide) ?_
    exact vV_iret Cx hr hlk dX3_count_115 (by exact a_count_out E n C hout) (by rfl)
abbrev rX3_on : Room := { frames := 2, cells := 0, slots := 0, locals := 44 }
set_option maxRecDepth 100000 in
set_option maxHeartbeats 4000000 in
theorem KX3_on {l : Launch} {D : va_G} {cI cZ : ClassId} {ad : Nat → Nat} {A : Nat → Prop} {E C T : mT} {S : Nat → Int32} {n : Nat} (hn : E 8 2 = nI n) (h12n : n ≤ 12) (v : Int32) : vKi l D (vtys cI cZ) A yX3_on (uT yX3_on cX3_on 2 (some .int)) rX3_on (wR cI cZ ad E C T S) [.ref (ad 0), .int v] (if isW v 0 (E 8 0 - 1) = 0 then -1 else c_on n v C) (wR cI cZ ad E C T S) := by
  refine vKi_of (cc := cX3_on) (maxL := 2) (ret := some .int) (by decide) rfl rfl (Nat.le_of_ble_eq_true rfl) ?_
  intro p e s m below meth c Cx hr hlk
  refine vV_aload_n Cx 0 dX3_on_0 rfl rfl ?_
  refine vU_get Cx hinX3 0 rfl rfl 0 (by decide) u1_154 rfl dX3_on_1 ?_
  refine vV_iload_n Cx 1 dX3_on_4 rfl rfl ?_
  refine vV_callVi Cx (R_hasPitch v) (cwV 1 Cx.1.2.2.2.2 (uGV u1_187 u1_188 u1_189 u1_2 u1_190) rfl rfl rfl hdX2_hasPitch ⟨Nat.le_of_ble_eq_true rfl, Nat.le_of_ble_eq_true rfl⟩) 1 rfl rfl rfl rfl (Nat.le_of_ble_eq_true rfl) ⟨Nat.zero_le _, Nat.zero_le _⟩ dX3_on_5 ?_
  refine vV_if_eq (tgt := 22) Cx dX3_on_8 (by decide) (fun h8 => ?_) (fun h8 => ?_)
  · refine vV_iconst (v := -1) Cx dX3_on_22 (by decide) ?_
    exact vV_iret Cx hr hlk dX3_on_23 (by simp [h8]) (by rfl)
  · refine vV_aload_n Cx 0 dX3_on_11 rfl rfl ?_
    refine vU_get Cx hinX3 0 rfl rfl 2 (by decide) u1_156 rfl dX3_on_12 ?_
    refine vV_iload_n Cx 1 dX3_on_15 rfl rfl ?_
    refine vV_callVi Cx (R1_howManyOn hn h12n v) (cwV 1 Cx.1.2.2.2.2 (uGV u2_56 u2_57 u2_58 u1_6 u2_59) rfl rfl rfl hdX0_howManyOn ⟨Nat.le_of_ble_eq_true rfl, Nat.le_of_ble_eq_true rfl⟩) 11 rfl rfl rfl rfl (Nat.le_of_ble_eq_true rfl) ⟨Nat.zero_le _, Nat.zero_le _⟩ dX3_on_16 ?_
    refine vV_goto (tgt := 23) Cx dX3_on_19 (by decide) ?_
    exact vV_iret Cx hr hlk dX3_on_23 (by simp [h8]) (by rfl)
abbrev rX3_at : Room := { frames := 2, cells := 0, slots := 0, locals := 43 }
set_option maxRecDepth 100000 in
set_option maxHeartbeats 4000000 in
theorem KX3_at {l : Launch} {D : va_G} {cI cZ : ClassId} {ad : Nat → Nat} {A : Nat → Prop} {E C T : mT} {S : Nat → Int32} {n : Nat} (hn : E 8 2 = nI n) (h12n : n ≤ 12) (v : Int32) : vKi l D (vtys cI cZ) A yX3_at (uT yX3_at cX3_at 2 (some .int)) rX3_at (wR cI cZ ad E C T S) [.ref (ad 0), .int v] (if isW v 0 (E 8 0) = 0 then -1 else c_atC n v C) (wR cI cZ ad E C T S) := by
  refine vKi_of (cc := cX3_at) (maxL := 2) (ret := some .int) (by decide) rfl rfl (Nat.le_of_ble_eq_true rfl) ?_
  intro p e s m below meth c Cx hr hlk
  refine vV_aload_n Cx 0 dX3_at_0 rfl rfl ?_
  refine vU_get Cx hinX3 0 rfl rfl 0 (by decide) u1_154 rfl dX3_at_1 ?_
  refine vV_iload_n Cx 1 dX3_at_4 rfl rfl ?_
  refine vV_callVi Cx (R_hasCamp v) (cwV 1 Cx.1.2.2.2.2 (uGV u1_196 u1_197 u1_198 u1_2 u1_199) rfl rfl rfl hdX2_hasCamp ⟨Nat.le_of_ble_eq_true rfl, Nat.le_of_ble_eq_true rfl⟩) 1 rfl rfl rfl rfl (Nat.le_of_ble_eq_true rfl) ⟨Nat.zero_le _, Nat.zero_le _⟩ dX3_at_5 ?_
  refine vV_if_eq (tgt := 22) Cx dX3_at_8 (by decide) (fun h8 => ?_) (fun h8 => ?_)
  · refine vV_iconst (v := -1) Cx dX3_at_22 (by decide) ?_
    exact vV_iret Cx hr hlk dX3_at_23 (by simp [h8]) (by rfl)
  · refine vV_aload_n Cx 0 dX3_at_11 rfl rfl ?_
    refine vU_get Cx hinX3 0 rfl rfl 2 (by decide) u1_156 rfl dX3_at_12 ?_
    refine vV_iload_n Cx 1 dX3_at_15 rfl rfl ?_
    refine vV_callVi Cx (R1_howManyAt hn h12n v) (cwV 1 Cx.1.2.2.2.2 (uGV u2_64 u2_65 u2_66 u1_6 u2_67) rfl rfl rfl hdX0_howManyAt ⟨Nat.le_of_ble_eq_true rfl, Nat.le_of_ble_eq_true rfl⟩) 11 rfl rfl rfl rfl (Nat.le_of_ble_eq_true rfl) ⟨Nat.zero_le _, Nat.zero_le _⟩ dX3_at_16 ?_
    refine vV_goto (tgt := 23) Cx dX3_at_19 (by decide) ?_
    exact vV_iret Cx hr hlk dX3_at_23 (by simp [h8]) (by rfl)
def a_fetch (E : mT) (n hg : Nat) (v : Int32) (C : mT) : Int32 := if isW v 0 (E 8 2 - 1) = 0 then -1 else if C 0 v.toNatClampNeg = 4 then c_fet E n (cmp C v.toNatClampNeg) hg C else -1
abbrev rX3_fetch : Room := { frames := 4, cells := 0, slots := 0, locals := 96 }
set_option maxRecDepth 100000 in
set_option maxHeartbeats 4000000 in
theorem KX3_fetch {l : Launch} {D : va_G} {cI cZ : ClassId} {ad : Nat → Nat} {A : Nat → Prop} {E C T : mT} {S : Nat → Int32} {n : Nat} (hn : E 8 2 = nI n) (h12n : n ≤ 12) (hcm : ∀ i, i < n → C 1 i = nI (cmp C i) ∧ cmp C i ≤ 6) {hg : Nat} (hhg : E 8 1 = nI hg) (hg6 : hg ≤ 6) (v : Int32) : vKi l D (vtys cI cZ) A yX3_fetch (uT yX3_fetch cX3_fetch 2 (some .int)) rX3_fetch (wR cI cZ ad E C T S) [.ref (ad 0), .int v] (a_fetch E n hg v C) (wR cI cZ ad E C T S) := by
  refine vKi_of (cc := cX3_fetch) (maxL := 2) (ret := some .int) (by decide) rfl rfl (Nat.le_of_ble_eq_true rfl) ?_
  intro p e s m below meth c Cx hr hlk
  refine vV_aload_n Cx 0 dX3_fetch_0 rfl rfl ?_
  refine vU_get Cx hinX3 0 rfl rfl 1 (by decide) u1_155 rfl dX3_fetch_1 ?_
  refine vV_iload_n Cx 1 dX3_fetch_4 rfl rfl ?_
  refine vV_callVi Cx (R_has v) (cwV 1 Cx.1.2.2.2.2 (uGV u2_72 u2_73 u2_74 u1_5 u2_75) rfl rfl rfl hdX1_has ⟨Nat.le_of_ble_eq_true rfl, Nat.le_of_ble_eq_true rfl⟩) 5 rfl rfl rfl rfl (Nat.le_of_ble_eq_true rfl) ⟨Nat.zero_le _, Nat.zero_le _⟩ dX3_fetch_5 ?_
  refine vV_if_eq (tgt := 24) Cx dX3_fetch_8 (by decide) (fun h8 => ?_) (fun h8 => ?_)
  · refine vV_iconst (v := -1) Cx dX3_fetch_24 (by decide) ?_
    exact vV_iret Cx hr hlk dX3_fetch_25 (by simp [a_fetch, h8]) (by rfl)
  · obtain ⟨j, hj, hv⟩ : ∃ j, j < n ∧ v = nI j := by rw [hn] at h8; exact isW_nI1 h8 (by omega)
    have hvj : v.toNatClampNeg = j := by rw [hv]; exact nI_clamp (by omega)
    have hi : vix v 12 v.toNatClampNeg := by rw [hvj, hv]; exact vix_nI (by omega) (by decide)
    refine vV_aload_n Cx 0 dX3_fetch_11 rfl rfl ?_
    refine vU_get Cx hinX3 0 rfl rfl 2 (by decide) u1_156 rfl dX3_fetch_12 ?_
    refine vU_get Cx hinX0 11 rfl rfl 4 (by decide) u1_112 rfl dX3_fetch_15 ?_
    refine vV_iload_n Cx 1 dX3_fetch_18 rfl rfl ?_
    refine vV_iald Cx 12 0 rfl rfl (by assumption) dX3_fetch_19 ?_
    refine vV_iconst (v := 4) Cx dX3_fetch_20 (by decide) ?_
    refine vV_icmp_eq (tgt := 26) Cx dX3_fetch_21 (by decide) (fun h21 => ?_) (fun h21 => ?_)
    · refine vV_aload_n Cx 0 dX3_fetch_26 rfl rfl ?_
      refine vU_get Cx hinX3 0 rfl rfl 2 (by decide) u1_156 rfl dX3_fetch_27 ?_
      refine vV_aload_n Cx 0 dX3_fetch_30 rfl rfl ?_
      refine vU_get Cx hinX3 0 rfl rfl 2 (by decide) u1_156 rfl dX3_fetch_31 ?_
      refine vU_get Cx hinX0 11 rfl rfl 5 (by decide) u1_114 rfl dX3_fetch_34 ?_
      refine vV_iload_n Cx 1 dX3_fetch_37 rfl rfl ?_
      refine vV_iald Cx 13 0 rfl rfl (by assumption) dX3_fetch_38 ?_
      rw [show C 1 v.toNatClampNeg = nI (cmp C v.toNatClampNeg) by rw [hvj]; exact (hcm j hj).1]
      refine vV_callVi Cx (R1_fetcherTo hn h12n hcm (by rw [hvj]; exact (hcm j hj).2) hhg hg6) (cwV 1 Cx.1.2.2.2.2 (uGV u2_77 u2_78 u2_79 u1_6 u2_80) rfl rfl rfl hdX0_fetcherTo ⟨Nat.le_of_ble_eq_true rfl, Nat.le_of_ble_eq_true rfl⟩) 11 rfl rfl rfl rfl (Nat.le_of_ble_eq_true rfl) ⟨Nat.zero_le _, Nat.zero_le _⟩ dX3_fetch_39 ?_
      exact vV_iret Cx hr hlk dX3_fetch_42 (by simp [a_fetch, h8, h21]) (by rfl)
    · refine vV_iconst (v := -1) Cx dX3_fetch_24 (by decide) ?_
      exact vV_iret Cx hr hlk dX3_fetch_25 (by simp [a_fetch, h8, h21]) (by rfl)
