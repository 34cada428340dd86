/-! the law: of, its loop, its start, the claim -/
theorem uGO {c0 : Cond} : GoodIn (c0 :: uW) uO := fun w hw => (List.mem_cons.mp hw).elim (fun e => by rw [e]; exact ⟨List.mem_cons_of_mem _ uLof, uW_good uLof⟩) (fun hw => ⟨List.mem_cons_of_mem _ hw, uW_good hw⟩)
theorem hdL_of : (parseMethodDescriptor yL_of.desc).map (fun d => d.parameters.length) = some 4 := by decide +kernel
set_option maxRecDepth 100000 in
set_option maxHeartbeats 1000000 in
theorem law_9 {D : va_G} {cI cZ cL : ClassId} {am ad : Nat → Nat} {o : Nat} {p : Program} {l : Launch} {e : Env} {s : State} {m : MethodId} {below : List Frame} {meth : Method} {c : Code} {b L t : Nat} {xs : Nat → Int32} (X : LX D cI cZ cL p s m c b L xs) (hl0 : l.stackTraces = false) (ht : 6 * t + 6 ≤ L) (tail : tailAt D cI cZ cL am ad o p l e s m below meth c b t) {E C D' T N : mT} {S : Nat → Int32} {f : Nat → Int64} {n np hr hg : Nat} (J : Jr n np hr hg E C D') : vV D (vtys cI cZ) (A0 s) 7 p l e room_1 s m #[Value.ref b] below meth c (45 + t) (968 + 6 * t) (lw_Z below #[Value.ref b] s) (wL cI cZ cL am ad o E C D' T N S f) (lLw b ad am o t) 449 [] := by
  obtain ⟨Cx, hK3, hx, hz, hX, hbl, hL⟩ := X
  have hA : ∀ q, s.heap.size ≤ q → A0 s q := fun _ h => h
  have hbA : ¬ A0 s b := Nat.not_le.mpr hbl
  have hcs : 45 + t ≤ room_1.cells ∧ 968 + 6 * t ≤ room_1.slots := ⟨by show _ ≤ 1071; omega, by show _ ≤ 9172; omega⟩
  have hi : ∀ k, k < 6 → vix (nI (6 * t) + nI k) L (6 * t + k) := fun k hk => by rw [nI_add]; exact vix_nI (by omega) (by omega)
  obtain ⟨ok, h1p, hLk, hhg, hgp, h200, R⟩ := id J
  obtain ⟨o1, o2, o3, o4, o5, o6⟩ := id ok
  obtain ⟨x1, hx1⟩ : ∃ z, xs (6 * t + 1) = z := ⟨_, rfl⟩
  obtain ⟨x2, hx2⟩ : ∃ z, xs (6 * t + 2) = z := ⟨_, rfl⟩
  refine vV_aload_n Cx 1 dL_law_449 rfl rfl ?_
  refine vV_aload_n Cx 0 dL_law_450 rfl rfl ?_
  refine vV_iload Cx dL_law_451 rfl ?_
  refine vV_iconst (v := nI 1) Cx dL_law_453 (by decide) ?_
  refine vV_iadd Cx dL_law_454 ?_
  refine vV_sld Cx hX hbl hbA (hi 1 (by decide)) dL_law_455 ?_
  rw [hx1]
  refine vV_aload_n Cx 0 dL_law_456 rfl rfl ?_
  refine vV_iload Cx dL_law_457 rfl ?_
  refine vV_iconst (v := nI 2) Cx dL_law_459 (by decide) ?_
  refine vV_iadd Cx dL_law_460 ?_
  refine vV_sld Cx hX hbl hbA (hi 2 (by decide)) dL_law_461 ?_
  rw [hx2]
  refine vV_aload_n Cx 3 dL_law_462 rfl rfl ?_
  refine vG_callO Cx hA hK3 hx hz (wN cI cZ am E D' N) (wR cI cZ ad E C T S ++ [lO cL o f]) (fun A => KL_of hl0 o1 o2 x1 x2) ⟨⟨rfl, rfl, (Nat.le_of_ble_eq_true rfl), (Nat.le_of_ble_eq_true rfl), pay_in Cx.1.2.2.2.2 uGO, List.mem_cons_self⟩, Cx.1.2.2.2.2 _ (List.mem_cons_of_mem _ uLof), Cx.1.2.2.2.2 _ (List.mem_cons_of_mem _ u1_0), ⟨by decide +kernel, by decide +kernel⟩, fun sig h => (by have h2 := hdL_of; rw [h] at h2; exact (Option.some.inj h2).symm), Cx.1.2.2.2.2 _ (List.mem_cons_of_mem _ u2_142), Cx.1.2.2.2.2 _ (List.mem_cons_of_mem _ u2_143)⟩ (rest := []) rfl rfl (Nat.le_of_ble_eq_true rfl) ⟨by show 45 + t + 1 ≤ 1071; omega, by show 968 + 6 * t + 6 ≤ 9172; omega⟩ dL_law_463 ?_
  have hcs2 : 45 + t + 1 ≤ room_1.cells ∧ 968 + 6 * t + 6 ≤ room_1.slots := ⟨by show _ ≤ 1071; omega, by show _ ≤ 9172; omega⟩
  refine vV_istore Cx dL_law_466 (by decide) ?_
  refine vV_aload_n Cx 2 dL_law_468 rfl rfl ?_
  refine vV_aload_n Cx 0 dL_law_469 rfl rfl ?_
  refine vV_iload Cx dL_law_470 rfl ?_
  refine vV_iconst (v := nI 1) Cx dL_law_472 (by decide) ?_
  refine vV_iadd Cx dL_law_473 ?_
  refine vV_sld Cx hX hbl hbA (hi 1 (by decide)) dL_law_474 ?_
  rw [hx1]
  refine vV_aload_n Cx 0 dL_law_475 rfl rfl ?_
  refine vV_iload Cx dL_law_476 rfl ?_
  refine vV_iconst (v := nI 2) Cx dL_law_478 (by decide) ?_
  refine vV_iadd Cx dL_law_479 ?_
  refine vV_sld Cx hX hbl hbA (hi 2 (by decide)) dL_law_480 ?_
  rw [hx2]
  refine vG_callVi Cx hA [] (wN cI cZ am E D' N) (wR cI cZ ad E C T S ++ [lO cL o (f_of E C x1 x2 f)]) (List.nil_append _).symm (List.nil_append _) (fun A => KX4_of o1 o2 x1 x2) (cwV 2 Cx.1.2.2.2.2 (uGV u3_158 u3_159 u3_160 u1_7 u3_161) rfl rfl rfl hdX4_of ⟨(Nat.le_of_ble_eq_true rfl), (Nat.le_of_ble_eq_true rfl)⟩) 0 rfl rfl rfl rfl (Nat.le_of_ble_eq_true rfl) hcs2 dL_law_481 ?_
  refine vV_istore Cx dL_law_484 (by decide) ?_
  refine vV_aload_n Cx 2 dL_law_486 rfl rfl ?_
  refine vG_callVi Cx hA [] (wN cI cZ am E D' (cS (cS N 2 0 0) 2 0 (if r_of E x1 x2 = 0 then 1 else 0))) (wR cI cZ ad E C T S ++ [lO cL o (f_of E C x1 x2 f)]) (List.nil_append _).symm (List.nil_append _) (fun A => KX4_thrown) (cwV 0 Cx.1.2.2.2.2 (uGV u3_45 u3_46 u3_47 u1_7 u3_48) rfl rfl rfl hdX4_thrown ⟨(Nat.le_of_ble_eq_true rfl), (Nat.le_of_ble_eq_true rfl)⟩) 0 rfl rfl rfl rfl (Nat.le_of_ble_eq_true rfl) hcs2 dL_law_487 ?_
  refine vV_iload Cx dL_law_490 rfl ?_
  refine vV_icmp_eq (tgt := 497) Cx dL_law_492 (by decide) (fun _ => ?_) (fun h => absurd cS_same h)
  refine vV_iload Cx dL_law_497 rfl ?_
  have fin : vV D (vtys cI cZ) (A0 s) 7 p l e room_1 s m #[Value.ref b] below meth c (45 + t + 1) (968 + 6 * t + 6) (lw_Z below #[Value.ref b] s) (wL cI cZ cL am ad o E C D' T (cS (cS N 2 0 0) 2 0 (if r_of E x1 x2 = 0 then 1 else 0)) S (f_of E C x1 x2 f)) [.ref b, .ref (ad 0), .ref (am 0), .ref o, .int (nI (6 * t)), .int (if r_of E x1 x2 = 0 then 1 else 0), .int (ma_of E D' x1 x2)] 514 [] := by
    refine vV_goto (tgt := 764) Cx dL_law_514 (by decide) ?_
    refine vV_take 5 rfl ?_
    refine vV_widen (k := 45 + (t + 1)) (n := 968 + 6 * (t + 1)) (by omega) (by omega) ?_
    exact tail _ _ _ _ _ _ _ _ _ _ _ J
  by_cases hof : r_of E x1 x2 = 0
  · exact vV_if_ne (tgt := 514) Cx dL_law_499 (by decide) (fun _ => fin) (fun h => absurd h (by rw [if_pos hof]; decide))
  · refine vV_if_ne (tgt := 514) Cx dL_law_499 (by decide) (fun h => absurd (by rw [if_neg hof]) h) (fun _ => ?_)
    refine vV_aload_n Cx 3 dL_law_502 rfl rfl ?_
    refine vV_iconst (v := 0) Cx dL_law_503 (by decide) ?_
    refine vV_lald Cx hK3 44 2 rfl rfl (vix_nI (n := 1) (j := 0) (by decide) (by decide)).1 dL_law_504 ?_
    refine vV_iload Cx dL_law_505 rfl ?_
    refine vV_i2l Cx dL_law_507 ?_
    have hval : f_of E C x1 x2 f (Int32.toNatClampNeg 0) = (ma_of E D' x1 x2).toInt64 := by rw [← J_of J hof, f_of, if_neg hof]; rfl
    rw [hval]
    refine vV_lcmp0 Cx dL_law_508 ?_
    exact vV_if_eq (tgt := 514) Cx dL_law_509 (by decide) (fun _ => fin) (fun h => absurd rfl h)
set_option maxRecDepth 100000 in
set_option maxHeartbeats 1000000 in
theorem law_loop {D : va_G} {cI cZ cL : ClassId} {am ad : Nat → Nat} {o : Nat} {p : Program} {l : Launch} {e : Env} {s : State} {m : MethodId} {below : List Frame} {meth : Method} {c : Code} {b L : Nat} {xs : Nat → Int32} (X : LX D cI cZ cL p s m c b L xs) (hl0 : l.stackTraces = false) (hr : meth.sig.returnType = ret) (hlk : meth.locks = false) :
    ∀ (fuel t : Nat), 6 * t ≤ L → L < 6 * t + fuel → ∀ (E C D' T N : mT) (S : Nat → Int32) (f : Nat → Int64) (n np hr hg : Nat), Jr n np hr hg E C D' → vV D (vtys cI cZ) (A0 s) 7 p l e room_1 s m #[Value.ref b] below meth c (45 + t) (968 + 6 * t) (lw_Z below #[Value.ref b] s) (wL cI cZ cL am ad o E C D' T N S f) (lLw b ad am o t) 23 [] := by
  obtain ⟨Cx, hK3, hx, hz, hX, hbl, hL⟩ := id X
  have hbA : ¬ A0 s b := Nat.not_le.mpr hbl
  intro fuel
  induction fuel with
  | zero => intro t h1 h2; exact absurd h2 (by omega)
  | succ fuel ih =>
    intro t h1 h2 E C D' T N S f n np hr1 hg J
    refine vV_iload Cx dL_law_23 rfl ?_
    refine vV_aload_n Cx 0 dL_law_25 rfl rfl ?_
    refine vV_slen Cx hX hbl hbA dL_law_26 ?_
    refine vV_bipush (v := 6) Cx dL_law_27 (by decide) ?_
    refine vV_isub Cx dL_law_29 ?_
    refine vV_icmp_gt (tgt := 770) Cx dL_law_30 (by decide) (fun h30 => ?_) (fun h30 => ?_)
    · refine vV_iconst (v := 1) Cx dL_law_770 (by decide) ?_
      exact fun H locs ls hP hD hS hl => va_forget (fun q hq => hS.2.2 q hq) (W.widen (k := 1071) (n := 9172) (by omega) (by omega) (lw_ret Cx.1.1 Cx.1.2.1 hr hlk dL_law_771))
    · have ht : 6 * t + 6 ≤ L := lend hL h30 (by omega)
      have tail : tailAt D cI cZ cL am ad o p l e s m below meth c b t := by
        intro E C D' T N S f n np hr1 hg J
        refine vV_iinc (v := nI (6 * (t + 1))) Cx dL_law_764 rfl (by rw [show Int32.ofInt 6 = nI 6 by decide, nI_add]; rfl) (by decide) ?_
        refine vV_goto (tgt := 23) Cx dL_law_767 (by decide) ?_
        exact ih (t + 1) (by omega) (by omega) E C D' T N S f n np hr1 hg J
      refine vV_aload_n Cx 0 dL_law_33 rfl rfl ?_
      refine vV_iload Cx dL_law_34 rfl ?_
      refine vV_sld Cx hX hbl hbA (vix_nI (j := 6 * t) (by omega) (by omega)) dL_law_36 ?_
      refine vV_bipush (v := 31) Cx dL_law_37 (by decide) ?_
      refine vV_iand Cx dL_law_39 ?_
      rcases tsw17 (xs (6 * t) &&& 31) with ⟨j, hj, ej⟩ | hout
      · rw [ej]
        match j, hj with
        | 0, _ => exact vV_tableIn (tgt := 124) Cx dL_law_40 (by decide) (by decide) rfl (by decide) (law_0 X hl0 ht tail J)
        | 1, _ => exact vV_tableIn (tgt := 149) Cx dL_law_40 (by decide) (by decide) rfl (by decide) (law_1 X hl0 ht tail J)
        | 2, _ => exact vV_tableIn (tgt := 198) Cx dL_law_40 (by decide) (by decide) rfl (by decide) (law_2 X hl0 ht tail J)
        | 3, _ => exact vV_tableIn (tgt := 223) Cx dL_law_40 (by decide) (by decide) rfl (by decide) (law_3 X hl0 ht tail J)
        | 4, _ => exact vV_tableIn (tgt := 288) Cx dL_law_40 (by decide) (by decide) rfl (by decide) (law_4 X hl0 ht tail J)
        | 5, _ => exact vV_tableIn (tgt := 337) Cx dL_law_40 (by decide) (by decide) rfl (by decide) (law_5 X hl0 ht tail J)
        | 6, _ => exact vV_tableIn (tgt := 386) Cx dL_law_40 (by decide) (by decide) rfl (by decide) (law_6 X hl0 ht tail J)
        | 7, _ => exact vV_tableIn (tgt := 399) Cx dL_law_40 (by decide) (by decide) rfl (by decide) (law_7 X hl0 ht tail J)
        | 8, _ => exact vV_tableIn (tgt := 424) Cx dL_law_40 (by decide) (by decide) rfl (by decide) (law_8 X hl0 ht tail J)
        | 9, _ => exact vV_tableIn (tgt := 449) Cx dL_law_40 (by decide) (by decide) rfl (by decide) (law_9 X hl0 ht tail J)
        | 10, _ => exact vV_tableIn (tgt := 517) Cx dL_law_40 (by decide) (by decide) rfl (by decide) (law_10 X hl0 ht tail J)
        | 11, _ => exact vV_tableIn (tgt := 542) Cx dL_law_40 (by decide) (by decide) rfl (by decide) (law_11 X hl0 ht tail J)
        | 12, _ => exact vV_tableIn (tgt := 567) Cx dL_law_40 (by decide) (by decide) rfl (by decide) (law_12 X hl0 ht tail J)
        | 13, _ => exact vV_tableIn (tgt := 592) Cx dL_law_40 (by decide) (by decide) rfl (by decide) (law_13 X hl0 ht tail J)
        | 14, _ => exact vV_tableIn (tgt := 665) Cx dL_law_40 (by decide) (by decide) rfl (by decide) (law_14 X hl0 ht tail J)
        | 15, _ => exact vV_tableIn (tgt := 690) Cx dL_law_40 (by decide) (by decide) rfl (by decide) (law_15 X hl0 ht tail J)
        | 16, _ => exact vV_tableIn (tgt := 727) Cx dL_law_40 (by decide) (by decide) rfl (by decide) (law_16 X hl0 ht tail J)
        | k + 17, hk => exact absurd hk (by omega)
      · refine vV_tableOut (tgt := 764) Cx dL_law_40 hout (by decide) ?_
        exact vV_widen (k := 45 + (t + 1)) (n := 968 + 6 * (t + 1)) (by omega) (by omega) (tail _ _ _ _ _ _ _ _ _ _ _ J)
