/-! constructors -/
def z12 (cI : ClassId) (a : Nat) : Nat × va_E := (a, .inl (cI, 12, .inl (fun _ => 0)))
abbrev rX0_init : Room := { frames := 1, cells := 9, slots := 108, locals := 20 }
set_option maxRecDepth 100000 in
set_option maxHeartbeats 1000000 in
theorem KX0_init {l : Launch} {D : va_G} {cI cZ : ClassId} {A : Nat → Prop} (a r pp st : Nat) : vKa l D (vtys cI cZ) A yX0_init (uT yX0_init cX0_init 4 none) rX0_init 9 108 ([(a, .inr (0, [.null, .null, .null, .int 0, .null, .null, .null, .null, .null, .null, .null, .null, .null]))]) [.ref a, .ref r, .ref pp, .ref st] (fun f => [(a, .inr (0, [.ref r, .ref pp, .ref st, .int 0, .ref (f 0), .ref (f 1), .ref (f 2), .ref (f 3), .ref (f 4), .ref (f 5), .ref (f 6), .ref (f 7), .ref (f 8)])), (f 0, .inl (cI, 12, .inl (fun _ => 0))), (f 1, .inl (cI, 12, .inl (fun _ => 0))), (f 2, .inl (cI, 12, .inl (fun _ => 0))), (f 3, .inl (cI, 12, .inl (fun _ => 0))), (f 4, .inl (cI, 12, .inl (fun _ => 0))), (f 5, .inl (cI, 12, .inl (fun _ => 0))), (f 6, .inl (cI, 12, .inl (fun _ => 0))), (f 7, .inl (cI, 12, .inl (fun _ => 0))), (f 8, .inl (cI, 12, .inl (fun _ => 0)))]) := by
  refine vKa_of (cc := cX0_init) (maxL := 4) (by decide) rfl rfl (Nat.le_of_ble_eq_true rfl) ?_
  intro p e s m below meth c Cx hr hlk hnm hA
  refine vV_aload_n Cx 0 dX0_init_0 rfl rfl ?_
  refine vV_objInit Cx u1_104 u1_19 u1_20 dX0_init_1 (Nat.le_of_ble_eq_true rfl) (Nat.le_of_ble_eq_true rfl) ?_
  refine vV_aload_n Cx 0 dX0_init_4 rfl rfl ?_
  refine vV_aload_n Cx 1 dX0_init_5 rfl rfl ?_
  refine vV_putF Cx hinX0 tyX0_ok nmX0 0 rfl rfl 0 (by decide) u1_105 rfl hnm rfl (tyX0_ok 0 (by decide)) rfl rfl (Nat.le_of_ble_eq_true rfl) dX0_init_6 ?_
  refine vV_eq (ws' := [(a, .inr (0, [.ref r, .null, .null, .int 0, .null, .null, .null, .null, .null, .null, .null, .null, .null]))]) rfl rfl rfl ?_
  refine vV_aload_n Cx 0 dX0_init_9 rfl rfl ?_
  refine vV_aload_n Cx 2 dX0_init_10 rfl rfl ?_
  refine vV_putF Cx hinX0 tyX0_ok nmX0 0 rfl rfl 1 (by decide) u1_106 rfl hnm rfl (tyX0_ok 1 (by decide)) rfl rfl (Nat.le_of_ble_eq_true rfl) dX0_init_11 ?_
  refine vV_eq (ws' := [(a, .inr (0, [.ref r, .ref pp, .null, .int 0, .null, .null, .null, .null, .null, .null, .null, .null, .null]))]) rfl rfl rfl ?_
  refine vV_aload_n Cx 0 dX0_init_14 rfl rfl ?_
  refine vV_aload_n Cx 3 dX0_init_15 rfl rfl ?_
  refine vV_putF Cx hinX0 tyX0_ok nmX0 0 rfl rfl 2 (by decide) u1_107 rfl hnm rfl (tyX0_ok 2 (by decide)) rfl rfl (Nat.le_of_ble_eq_true rfl) dX0_init_16 ?_
  refine vV_eq (ws' := [(a, .inr (0, [.ref r, .ref pp, .ref st, .int 0, .null, .null, .null, .null, .null, .null, .null, .null, .null]))]) rfl rfl rfl ?_
  refine vV_aload_n Cx 0 dX0_init_19 rfl rfl ?_
  refine vV_bipush (v := 12) Cx dX0_init_20 (by decide) ?_
  refine vV_newi Cx u1_62 hA (n := 12) (N' := 12) (by decide) rfl (by decide) (Nat.le_of_ble_eq_true rfl) (Nat.le_of_ble_eq_true rfl) dX0_init_22 (fun q0 => ?_)
  refine vV_eq (ws' := [(a, .inr (0, [.ref r, .ref pp, .ref st, .int 0, .null, .null, .null, .null, .null, .null, .null, .null, .null])), (q0, .inl (cI, 12, .inl (fun _ => 0)))]) rfl rfl rfl ?_
  refine vV_putF Cx hinX0 tyX0_ok nmX0 0 rfl rfl 4 (by decide) u1_111 rfl hnm rfl (tyX0_ok 4 (by decide)) rfl rfl (Nat.le_of_ble_eq_true rfl) dX0_init_24 ?_
  refine vV_eq (ws' := [(a, .inr (0, [.ref r, .ref pp, .ref st, .int 0, .ref q0, .null, .null, .null, .null, .null, .null, .null, .null])), (q0, .inl (cI, 12, .inl (fun _ => 0)))]) rfl rfl rfl ?_
  refine vV_aload_n Cx 0 dX0_init_27 rfl rfl ?_
  refine vV_bipush (v := 12) Cx dX0_init_28 (by decide) ?_
  refine vV_newi Cx u1_62 hA (n := 12) (N' := 12) (by decide) rfl (by decide) (Nat.le_of_ble_eq_true rfl) (Nat.le_of_ble_eq_true rfl) dX0_init_30 (fun q1 => ?_)
  refine vV_eq (ws' := [(a, .inr (0, [.ref r, .ref pp, .ref st, .int 0, .ref q0, .null, .null, .null, .null, .null, .null, .null, .null])), (q0, .inl (cI, 12, .inl (fun _ => 0))), (q1, .inl (cI, 12, .inl (fun _ => 0)))]) rfl rfl rfl ?_
  refine vV_putF Cx hinX0 tyX0_ok nmX0 0 rfl rfl 5 (by decide) u1_113 rfl hnm rfl (tyX0_ok 5 (by decide)) rfl rfl (Nat.le_of_ble_eq_true rfl) dX0_init_32 ?_
  refine vV_eq (ws' := [(a, .inr (0, [.ref r, .ref pp, .ref st, .int 0, .ref q0, .ref q1, .null, .null, .null, .null, .null, .null, .null])), (q0, .inl (cI, 12, .inl (fun _ => 0))), (q1, .inl (cI, 12, .inl (fun _ => 0)))]) rfl rfl rfl ?_
  refine vV_aload_n Cx 0 dX0_init_35 rfl rfl ?_
  refine vV_bipush (v := 12) Cx dX0_init_36 (by decide) ?_
  refine vV_newi Cx u1_62 hA (n := 12) (N' := 12) (by decide) rfl (by decide) (Nat.le_of_ble_eq_true rfl) (Nat.le_of_ble_eq_true rfl) dX0_init_38 (fun q2 => ?_)
  refine vV_eq (ws' := [(a, .inr (0, [.ref r, .ref pp, .ref st, .int 0, .ref q0, .ref q1, .null, .null, .null, .null, .null, .null, .null])), (q0, .inl (cI, 12, .inl (fun _ => 0))), (q1, .inl (cI, 12, .inl (fun _ => 0))), (q2, .inl (cI, 12, .inl (fun _ => 0)))]) rfl rfl rfl ?_
  refine vV_putF Cx hinX0 tyX0_ok nmX0 0 rfl rfl 6 (by decide) u1_115 rfl hnm rfl (tyX0_ok 6 (by decide)) rfl rfl (Nat.le_of_ble_eq_true rfl) dX0_init_40 ?_
  refine vV_eq (ws' := [(a, .inr (0, [.ref r, .ref pp, .ref st, .int 0, .ref q0, .ref q1, .ref q2, .null, .null, .null, .null, .null, .null])), (q0, .inl (cI, 12, .inl (fun _ => 0))), (q1, .inl (cI, 12, .inl (fun _ => 0))), (q2, .inl (cI, 12, .inl (fun _ => 0)))]) rfl rfl rfl ?_
  refine vV_aload_n Cx 0 dX0_init_43 rfl rfl ?_
  refine vV_bipush (v := 12) Cx dX0_init_44 (by decide) ?_
  refine vV_newi Cx u1_62 hA (n := 12) (N' := 12) (by decide) rfl (by decide) (Nat.le_of_ble_eq_true rfl) (Nat.le_of_ble_eq_true rfl) dX0_init_46 (fun q3 => ?_)
  refine vV_eq (ws' := [(a, .inr (0, [.ref r, .ref pp, .ref st, .int 0, .ref q0, .ref q1, .ref q2, .null, .null, .null, .null, .null, .null])), (q0, .inl (cI, 12, .inl (fun _ => 0))), (q1, .inl (cI, 12, .inl (fun _ => 0))), (q2, .inl (cI, 12, .inl (fun _ => 0))), (q3, .inl (cI, 12, .inl (fun _ => 0)))]) rfl rfl rfl ?_
  refine vV_putF Cx hinX0 tyX0_ok nmX0 0 rfl rfl 7 (by decide) u1_117 rfl hnm rfl (tyX0_ok 7 (by decide)) rfl rfl (Nat.le_of_ble_eq_true rfl) dX0_init_48 ?_
  refine vV_eq (ws' := [(a, .inr (0, [.ref r, .ref pp, .ref st, .int 0, .ref q0, .ref q1, .ref q2, .ref q3, .null, .null, .null, .null, .null])), (q0, .inl (cI, 12, .inl (fun _ => 0))), (q1, .inl (cI, 12, .inl (fun _ => 0))), (q2, .inl (cI, 12, .inl (fun _ => 0))), (q3, .inl (cI, 12, .inl (fun _ => 0)))]) rfl rfl rfl ?_
  refine vV_aload_n Cx 0 dX0_init_51 rfl rfl ?_
  refine vV_bipush (v := 12) Cx dX0_init_52 (by decide) ?_
  refine vV_newi Cx u1_62 hA (n := 12) (N' := 12) (by decide) rfl (by decide) (Nat.le_of_ble_eq_true rfl) (Nat.le_of_ble_eq_true rfl) dX0_init_54 (fun q4 => ?_)
  refine vV_eq (ws' := [(a, .inr (0, [.ref r, .ref pp, .ref st, .int 0, .ref q0, .ref q1, .ref q2, .ref q3, .null, .null, .null, .null, .null])), (q0, .inl (cI, 12, .inl (fun _ => 0))), (q1, .inl (cI, 12, .inl (fun _ => 0))), (q2, .inl (cI, 12, .inl (fun _ => 0))), (q3, .inl (cI, 12, .inl (fun _ => 0))), (q4, .inl (cI, 12, .inl (fun _ => 0)))]) rfl rfl rfl ?_
  refine vV_putF Cx hinX0 tyX0_ok nmX0 0 rfl rfl 8 (by decide) u1_119 rfl hnm rfl (tyX0_ok 8 (by decide)) rfl rfl (Nat.le_of_ble_eq_true rfl) dX0_init_56 ?_
  refine vV_eq (ws' := [(a, .inr (0, [.ref r, .ref pp, .ref st, .int 0, .ref q0, .ref q1, .ref q2, .ref q3, .ref q4, .null, .null, .null, .null])), (q0, .inl (cI, 12, .inl (fun _ => 0))), (q1, .inl (cI, 12, .inl (fun _ => 0))), (q2, .inl (cI, 12, .inl (fun _ => 0))), (q3, .inl (cI, 12, .inl (fun _ => 0))), (q4, .inl (cI, 12, .inl (fun _ => 0)))]) rfl rfl rfl ?_
  refine vV_aload_n Cx 0 dX0_init_59 rfl rfl ?_
  refine vV_bipush (v := 12) Cx dX0_init_60 (by decide) ?_
  refine vV_newi Cx u1_62 hA (n := 12) (N' := 12) (by decide) rfl (by decide) (Nat.le_of_ble_eq_true rfl) (Nat.le_of_ble_eq_true rfl) dX0_init_62 (fun q5 => ?_)
  refine vV_eq (ws' := [(a, .inr (0, [.ref r, .ref pp, .ref st, .int 0, .ref q0, .ref q1, .ref q2, .ref q3, .ref q4, .null, .null, .null, .null])), (q0, .inl (cI, 12, .inl (fun _ => 0))), (q1, .inl (cI, 12, .inl (fun _ => 0))), (q2, .inl (cI, 12, .inl (fun _ => 0))), (q3, .inl (cI, 12, .inl (fun _ => 0))), (q4, .inl (cI, 12, .inl (fun _ => 0))), (q5, .inl (cI, 12, .inl (fun _ => 0)))]) rfl rfl rfl ?_
  refine vV_putF Cx hinX0 tyX0_ok nmX0 0 rfl rfl 9 (by decide) u1_121 rfl hnm rfl (tyX0_ok 9 (by decide)) rfl rfl (Nat.le_of_ble_eq_true rfl) dX0_init_64 ?_
  refine vV_eq (ws' := [(a, .inr (0, [.ref r, .ref pp, .ref st, .int 0, .ref q0, .ref q1, .ref q2, .ref q3, .ref q4, .ref q5, .null, .null, .null])), (q0, .inl (cI, 12, .inl (fun _ => 0))), (q1, .inl (cI, 12, .inl (fun _ => 0))), (q2, .inl (cI, 12, .inl (fun _ => 0))), (q3, .inl (cI, 12, .inl (fun _ => 0))), (q4, .inl (cI, 12, .inl (fun _ => 0))), (q5, .inl (cI, 12, .inl (fun _ => 0)))]) rfl rfl rfl ?_
  refine vV_aload_n Cx 0 dX0_init_67 rfl rfl ?_
  refine vV_bipush (v := 12) Cx dX0_init_68 (by decide) ?_
  refine vV_newi Cx u1_62 hA (n := 12) (N' := 12) (by decide) rfl (by decide) (Nat.le_of_ble_eq_true rfl) (Nat.le_of_ble_eq_true rfl) dX0_init_70 (fun q6 => ?_)
  refine vV_eq (ws' := [(a, .inr (0, [.ref r, .ref pp, .ref st, .int 0, .ref q0, .ref q1, .ref q2, .ref q3, .ref q4, .ref q5, .null, .null, .null])), (q0, .inl (cI, 12, .inl (fun _ => 0))), (q1, .inl (cI, 12, .inl (fun _ => 0))), (q2, .inl (cI, 12, .inl (fun _ => 0))), (q3, .inl (cI, 12, .inl (fun _ => 0))), (q4, .inl (cI, 12, .inl (fun _ => 0))), (q5, .inl (cI, 12, .inl (fun _ => 0))), (q6, .inl (cI, 12, .inl (fun _ => 0)))]) rfl rfl rfl ?_
  refine vV_putF Cx hinX0 tyX0_ok nmX0 0 rfl rfl 10 (by decide) u1_123 rfl hnm rfl (tyX0_ok 10 (by decide)) rfl rfl (Nat.le_of_ble_eq_true rfl) dX0_init_72 ?_
  refine vV_eq (ws' := [(a, .inr (0, [.ref r, .ref pp, .ref st, .int 0, .ref q0, .ref q1, .ref q2, .ref q3, .ref q4, .ref q5, .ref q6, .null, .null])), (q0, .inl (cI, 12, .inl (fun _ => 0))), (q1, .inl (cI, 12, .inl (fun _ => 0))), (q2, .inl (cI, 12, .inl (fun _ => 0))), (q3, .inl (cI, 12, .inl (fun _ => 0))), (q4, .inl (cI, 12, .inl (fun _ => 0))), (q5, .inl (cI, 12, .inl (fun _ => 0))), (q6, .inl (cI, 12, .inl (fun _ => 0)))]) rfl rfl rfl ?_
  refine vV_aload_n Cx 0 dX0_init_75 rfl rfl ?_
  refine vV_bipush (v := 12) Cx dX0_init_76 (by decide) ?_
  refine vV_newi Cx u1_62 hA (n := 12) (N' := 12) (by decide) rfl (by decide) (Nat.le_of_ble_eq_true rfl) (Nat.le_of_ble_eq_true rfl) dX0_init_78 (fun q7 => ?_)
  refine vV_eq (ws' := [(a, .inr (0, [.ref r, .ref pp, .ref st, .int 0, .ref q0, .ref q1, .ref q2, .ref q3, .ref q4, .ref q5, .ref q6, .null, .null])), (q0, .inl (cI, 12, .inl (fun _ => 0))), (q1, .inl (cI, 12, .inl (fun _ => 0))), (q2, .inl (cI, 12, .inl (fun _ => 0))), (q3, .inl (cI, 12, .inl (fun _ => 0))), (q4, .inl (cI, 12, .inl (fun _ => 0))), (q5, .inl (cI, 12, .inl (fun _ => 0))), (q6, .inl (cI, 12, .inl (fun _ => 0))), (q7, .inl (cI, 12, .inl (fun _ => 0)))]) rfl rfl rfl ?_
  refine vV_putF Cx hinX0 tyX0_ok nmX0 0 rfl rfl 11 (by decide) u1_125 rfl hnm rfl (tyX0_ok 11 (by decide)) rfl rfl (Nat.le_of_ble_eq_true rfl) dX0_init_80 ?_
  refine vV_eq (ws' := [(a, .inr (0, [.ref r, .ref pp, .ref st, .int 0, .ref q0, .ref q1, .ref q2, .ref q3, .ref q4, .ref q5, .ref q6, .ref q7, .null])), (q0, .inl (cI, 12, .inl (fun _ => 0))), (q1, .inl (cI, 12, .inl (fun _ => 0))), (q2, .inl (cI, 12, .inl (fun _ => 0))), (q3, .inl (cI, 12, .inl (fun _ => 0))), (q4, .inl (cI, 12, .inl (fun _ => 0))), (q5, .inl (cI, 12, .inl (fun _ => 0))), (q6, .inl (cI, 12, .inl (fun _ => 0))), (q7, .inl (cI, 12, .inl (fun _ => 0)))]) rfl rfl rfl ?_
  refine vV_aload_n Cx 0 dX0_init_83 rfl rfl ?_
  refine vV_bipush (v := 12) Cx dX0_init_84 (by decide) ?_
  refine vV_newi Cx u1_62 hA (n := 12) (N' := 12) (by decide) rfl (by decide) (Nat.le_of_ble_eq_true rfl) (Nat.le_of_ble_eq_true rfl) dX0_init_86 (fun q8 => ?_)
  refine vV_eq (ws' := [(a, .inr (0, [.ref r, .ref pp, .ref st, .int 0, .ref q0, .ref q1, .ref q2, .ref q3, .ref q4, .ref q5, .ref q6, .ref q7, .null])), (q0, .inl (cI, 12, .inl (fun _ => 0))), (q1, .inl (cI, 12, .inl (fun _ => 0))), (q2, .inl (cI, 12, .inl (fun _ => 0))), (q3, .inl (cI, 12, .inl (fun _ => 0))), (q4, .inl (cI, 12, .inl (fun _ => 0))), (q5, .inl (cI, 12, .inl (fun _ => 0))), (q6, .inl (cI, 12, .inl (fun _ => 0))), (q7, .inl (cI, 12, .inl (fun _ => 0))), (q8, .inl (cI, 12, .inl (fun _ => 0)))]) rfl rfl rfl ?_
  refine vV_putF Cx hinX0 tyX0_ok nmX0 0 rfl rfl 12 (by decide) u1_126 rfl hnm rfl (tyX0_ok 12 (by decide)) rfl rfl (Nat.le_of_ble_eq_true rfl) dX0_init_88 ?_
  refine vV_eq (ws' := [(a, .inr (0, [.ref r, .ref pp, .ref st, .int 0, .ref q0, .ref q1, .ref q2, .ref q3, .ref q4, .ref q5, .ref q6, .ref q7, .ref q8])), (q0, .inl (cI, 12, .inl (fun _ => 0))), (q1, .inl (cI, 12, .inl (fun _ => 0))), (q2, .inl (cI, 12, .inl (fun _ => 0))), (q3, .inl (cI, 12, .inl (fun _ => 0))), (q4, .inl (cI, 12, .inl (fun _ => 0))), (q5, .inl (cI, 12, .inl (fun _ => 0))), (q6, .inl (cI, 12, .inl (fun _ => 0))), (q7, .inl (cI, 12, .inl (fun _ => 0))), (q8, .inl (cI, 12, .inl (fun _ => 0)))]) rfl rfl rfl ?_
  exact vV_aretv Cx hr hlk (fun k => [q0, q1, q2, q3, q4, q5, q6, q7, q8].getD k 0) dX0_init_91 rfl
abbrev rX2_init : Room := { frames := 2, cells := 3, slots := 212, locals := 61 }
set_option maxRecDepth 100000 in
set_option maxHeartbeats 1000000 in
theorem KX2_init {l : Launch} {D : va_G} {cI cZ : ClassId} {A : Nat → Prop} (a : Nat) : vKa l D (vtys cI cZ) A yX2_init (uT yX2_init cX2_init 1 none) rX2_init 3 212 ([(a, .inr (2, [.int 0, .int 0, .null, .null, .null]))]) [.ref a] (fun f => [(a, .inr (2, [.int 2, .int (if (2 : Int32) < 1 then 2 else 1), .ref (f 0), .ref (f 1), .ref (f 2)])), (f 0, .inl (cI, 6, .inl (ffl (fun _ => 0) 2 6))), (f 1, .inl (cI, 6, .inl (ffl (fun _ => 0) 1 6))), (f 2, .inl (cZ, 200, .inl (fun _ => 0)))]) := by
  refine vKa_of (cc := cX2_init) (maxL := 1) (by decide) rfl rfl (Nat.le_of_ble_eq_true rfl) ?_
  intro p e s m below meth c Cx hr hlk hnm hA
  refine vV_aload_n Cx 0 dX2_init_0 rfl rfl ?_
  refine vV_objInit Cx u1_26 u1_19 u1_20 dX2_init_1 (Nat.le_of_ble_eq_true rfl) (Nat.le_of_ble_eq_true rfl) ?_
  refine vV_aload_n Cx 0 dX2_init_4 rfl rfl ?_
  refine vV_iconst (v := 1) Cx dX2_init_5 (by decide) ?_
  refine vU_put Cx hinX2 tyX2_ok nmX2 0 rfl rfl 1 (by decide) u1_40 rfl (by decide +kernel) (Nat.le_of_ble_eq_true rfl) dX2_init_6 rfl ?_
  refine vV_eq (ws' := [(a, .inr (2, [.int 0, .int 1, .null, .null, .null]))]) rfl rfl rfl ?_
  refine vV_aload_n Cx 0 dX2_init_9 rfl rfl ?_
  refine vV_bipush (v := 6) Cx dX2_init_10 (by decide) ?_
  refine vV_newi Cx u1_62 hA (n := 6) (N' := 6) (by decide) rfl (by decide) (Nat.le_of_ble_eq_true rfl) (Nat.le_of_ble_eq_true rfl) dX2_init_12 (fun q0 => ?_)
  refine vV_eq (ws' := [(a, .inr (2, [.int 0, .int 1, .null, .null, .null])), (q0, .inl (cI, 6, .inl (fun _ => 0)))]) rfl rfl rfl ?_
  refine vV_putF Cx hinX2 tyX2_ok nmX2 0 rfl rfl 2 (by decide) u1_43 rfl hnm rfl (tyX2_ok 2 (by decide)) rfl rfl (Nat.le_of_ble_eq_true rfl) dX2_init_14 ?_
  refine vV_eq (ws' := [(a, .inr (2, [.int 0, .int 1, .ref q0, .null, .null])), (q0, .inl (cI, 6, .inl (fun _ => 0)))]) rfl rfl rfl ?_
  refine vV_aload_n Cx 0 dX2_init_17 rfl rfl ?_
  refine vV_bipush (v := 6) Cx dX2_init_18 (by decide) ?_
  refine vV_newi Cx u1_62 hA (n := 6) (N' := 6) (by decide) rfl (by decide) (Nat.le_of_ble_eq_true rfl) (Nat.le_of_ble_eq_true rfl) dX2_init_20 (fun q1 => ?_)
  refine vV_eq (ws' := [(a, .inr (2, [.int 0, .int 1, .ref q0, .null, .null])), (q0, .inl (cI, 6, .inl (fun _ => 0))), (q1, .inl (cI, 6, .inl (fun _ => 0)))]) rfl rfl rfl ?_
  refine vV_putF Cx hinX2 tyX2_ok nmX2 0 rfl rfl 3 (by decide) u1_46 rfl hnm rfl (tyX2_ok 3 (by decide)) rfl rfl (Nat.le_of_ble_eq_true rfl) dX2_init_22 ?_
  refine vV_eq (ws' := [(a, .inr (2, [.int 0, .int 1, .ref q0, .ref q1, .null])), (q0, .inl (cI, 6, .inl (fun _ => 0))), (q1, .inl (cI, 6, .inl (fun _ => 0)))]) rfl rfl rfl ?_
  refine vV_aload_n Cx 0 dX2_init_25 rfl rfl ?_
  refine vV_sipush (v := 200) Cx dX2_init_26 (by decide) ?_
  refine vV_newz Cx u1_63 hA (n := 200) (N' := 200) (by decide) rfl (by decide) (Nat.le_of_ble_eq_true rfl) (Nat.le_of_ble_eq_true rfl) dX2_init_29 (fun q2 => ?_)
  refine vV_eq (ws' := [(a, .inr (2, [.int 0, .int 1, .ref q0, .ref q1, .null])), (q0, .inl (cI, 6, .inl (fun _ => 0))), (q1, .inl (cI, 6, .inl (fun _ => 0))), (q2, .inl (cZ, 200, .inl (fun _ => 0)))]) rfl rfl rfl ?_
  refine vV_putF Cx hinX2 tyX2_ok nmX2 0 rfl rfl 4 (by decide) u1_49 rfl hnm rfl (tyX2_ok 4 (by decide)) rfl rfl (Nat.le_of_ble_eq_true rfl) dX2_init_31 ?_
  refine vV_eq (ws' := [(a, .inr (2, [.int 0, .int 1, .ref q0, .ref q1, .ref q2])), (q0, .inl (cI, 6, .inl (fun _ => 0))), (q1, .inl (cI, 6, .inl (fun _ => 0))), (q2, .inl (cZ, 200, .inl (fun _ => 0)))]) rfl rfl rfl ?_
  refine vV_aload_n Cx 0 dX2_init_34 rfl rfl ?_
  refine vV_iconst (v := 2) Cx dX2_init_35 (by decide) ?_
  refine vV_callVv Cx (KX2_layAnew (ad := fun k => k) 0 1 2 rfl rfl rfl (by decide) (by decide) (by decide) 2) (cwV 1 Cx.1.2.2.2.2 (uGV u1_27 u1_28 u1_29 u1_2 u1_30) rfl rfl rfl hdX2_layAnew ⟨(Nat.le_of_ble_eq_true rfl), (Nat.le_of_ble_eq_true rfl)⟩) 0 rfl rfl rfl rfl (Nat.le_of_ble_eq_true rfl) ⟨(Nat.le_of_ble_eq_true rfl), (Nat.le_of_ble_eq_true rfl)⟩ dX2_init_36 ?_
  exact vV_aretv Cx hr hlk (fun k => [q0, q1, q2].getD k 0) dX2_init_39 rfl
abbrev rX1_init : Room := { frames := 1, cells := 5, slots := 44, locals := 23 }
set_option maxRecDepth 100000 in
set_option maxHeartbeats 1000000 in
theorem KX1_init {l : Launch} {D : va_G} {cI cZ : ClassId} {A : Nat → Prop} (a : Nat) : vKa l D (vtys cI cZ) A yX1_init (uT yX1_init cX1_init 1 none) rX1_init 5 44 ([(a, .inr (1, [.int 0, .null, .null, .null, .null, .null]))]) [.ref a] (fun f => [(a, .inr (1, [.int 0, .ref (f 0), .ref (f 1), .ref (f 2), .ref (f 3), .ref (f 4)])), (f 0, .inl (cI, 12, .inl (fun _ => 0))), (f 1, .inl (cI, 12, .inl (fun _ => 0))), (f 2, .inl (cI, 12, .inl (fun _ => 0))), (f 3, .inl (cI, 4, .inl (fun _ => 0))), (f 4, .inl (cI, 4, .inl (ffl (fun _ => 0) 200 4)))]) := by
  refine vKa_of (cc := cX1_init) (maxL := 1) (by decide) rfl rfl (Nat.le_of_ble_eq_true rfl) ?_
  intro p e s m below meth c Cx hr hlk hnm hA
  refine vV_aload_n Cx 0 dX1_init_0 rfl rfl ?_
  refine vV_objInit Cx u1_69 u1_19 u1_20 dX1_init_1 (Nat.le_of_ble_eq_true rfl) (Nat.le_of_ble_eq_true rfl) ?_
  refine vV_aload_n Cx 0 dX1_init_4 rfl rfl ?_
  refine vV_bipush (v := 12) Cx dX1_init_5 (by decide) ?_
  refine vV_newi Cx u1_62 hA (n := 12) (N' := 12) (by decide) rfl (by decide) (Nat.le_of_ble_eq_true rfl) (Nat.le_of_ble_eq_true rfl) dX1_init_7 (fun q0 => ?_)
  refine vV_eq (ws' := [(a, .inr (1, [.int 0, .null, .null, .null, .null, .null])), (q0, .inl (cI, 12, .inl (fun _ => 0)))]) rfl rfl rfl ?_
  refine vV_putF Cx hinX1 tyX1_ok nmX1 0 rfl rfl 1 (by decide) u1_74 rfl hnm rfl (tyX1_ok 1 (by decide)) rfl rfl (Nat.le_of_ble_eq_true rfl) dX1_init_9 ?_
  refine vV_eq (ws' := [(a, .inr (1, [.int 0, .ref q0, .null, .null, .null, .null])), (q0, .inl (cI, 12, .inl (fun _ => 0)))]) rfl rfl rfl ?_
  refine vV_aload_n Cx 0 dX1_init_12 rfl rfl ?_
  refine vV_bipush (v := 12) Cx dX1_init_13 (by decide) ?_
  refine vV_newi Cx u1_62 hA (n := 12) (N' := 12) (by decide) rfl (by decide) (Nat.le_of_ble_eq_true rfl) (Nat.le_of_ble_eq_true rfl) dX1_init_15 (fun q1 => ?_)
  refine vV_eq (ws' := [(a, .inr (1, [.int 0, .ref q0, .null, .null, .null, .null])), (q0, .inl (cI, 12, .inl (fun _ => 0))), (q1, .inl (cI, 12, .inl (fun _ => 0)))]) rfl rfl rfl ?_
  refine vV_putF Cx hinX1 tyX1_ok nmX1 0 rfl rfl 2 (by decide) u1_76 rfl hnm rfl (tyX1_ok 2 (by decide)) rfl rfl (Nat.le_of_ble_eq_true rfl) dX1_init_17 ?_
  refine vV_eq (ws' := [(a, .inr (1, [.int 0, .ref q0, .ref q1, .null, .null, .null])), (q0, .inl (cI, 12, .inl (fun _ => 0))), (q1, .inl (cI, 12, .inl (fun _ => 0)))]) rfl rfl rfl ?_
  refine vV_aload_n Cx 0 dX1_init_20 rfl rfl ?_
  refine vV_bipush (v := 12) Cx dX1_init_21 (by decide) ?_
  refine vV_newi Cx u1_62 hA (n := 12) (N' := 12) (by decide) rfl (by decide) (Nat.le_of_ble_eq_true rfl) (Nat.le_of_ble_eq_true rfl) dX1_init_23 (fun q2 => ?_)
  refine vV_eq (ws' := [(a, .inr (1, [.int 0, .ref q0, .ref q1, .null, .null, .null])), (q0, .inl (cI, 12, .inl (fun _ => 0))), (q1, .inl (cI, 12, .inl (fun _ => 0))), (q2, .inl (cI, 12, .inl (fun _ => 0)))]) rfl rfl rfl ?_
  refine vV_putF Cx hinX1 tyX1_ok nmX1 0 rfl rfl 3 (by decide) u1_78 rfl hnm rfl (tyX1_ok 3 (by decide)) rfl rfl (Nat.le_of_ble_eq_true rfl) dX1_init_25 ?_
  refine vV_eq (ws' := [(a, .inr (1, [.int 0, .ref q0, .ref q1, .ref q2, .null, .null])), (q0, .inl (cI, 12, .inl (fun _ => 0))), (q1, .inl (cI, 12, .inl (fun _ => 0))), (q2, .inl (cI, 12, .inl (fun _ => 0)))]) rfl rfl rfl ?_
  refine vV_aload_n Cx 0 dX1_init_28 rfl rfl ?_
  refine vV_iconst (v := 4) Cx dX1_init_29 (by decide) ?_
  refine vV_newi Cx u1_62 hA (n := 4) (N' := 4) (by decide) rfl (by decide) (Nat.le_of_ble_eq_true rfl) (Nat.le_of_ble_eq_true rfl) dX1_init_30 (fun q3 => ?_)
  refine vV_eq (ws' := [(a, .inr (1, [.int 0, .ref q0, .ref q1, .ref q2, .null, .null])), (q0, .inl (cI, 12, .inl (fun _ => 0))), (q1, .inl (cI, 12, .inl (fun _ => 0))), (q2, .inl (cI, 12, .inl (fun _ => 0))), (q3, .inl (cI, 4, .inl (fun _ => 0)))]) rfl rfl rfl ?_
  refine vV_putF Cx hinX1 tyX1_ok nmX1 0 rfl rfl 4 (by decide) u1_80 rfl hnm rfl (tyX1_ok 4 (by decide)) rfl rfl (Nat.le_of_ble_eq_true rfl) dX1_init_32 ?_
  refine vV_eq (ws' := [(a, .inr (1, [.int 0, .ref q0, .ref q1, .ref q2, .ref q3, .null])), (q0, .inl (cI, 12, .inl (fun _ => 0))), (q1, .inl (cI, 12, .inl (fun _ => 0))), (q2, .inl (cI, 12, .inl (fun _ => 0))), (q3, .inl (cI, 4, .inl (fun _ => 0)))]) rfl rfl rfl ?_
  refine vV_aload_n Cx 0 dX1_init_35 rfl rfl ?_
  refine vV_iconst (v := 4) Cx dX1_init_36 (by decide) ?_
  refine vV_newi Cx u1_62 hA (n := 4) (N' := 4) (by decide) rfl (by decide) (Nat.le_of_ble_eq_true rfl) (Nat.le_of_ble_eq_true rfl) dX1_init_37 (fun q4 => ?_)
  refine vV_eq (ws' := [(a, .inr (1, [.int 0, .ref q0, .ref q1, .ref q2, .ref q3, .null])), (q0, .inl (cI, 12, .inl (fun _ => 0))), (q1, .inl (cI, 12, .inl (fun _ => 0))), (q2, .inl (cI, 12, .inl (fun _ => 0))), (q3, .inl (cI, 4, .inl (fun _ => 0))), (q4, .inl (cI, 4, .inl (fun _ => 0)))]) rfl rfl rfl ?_
  refine vV_putF Cx hinX1 tyX1_ok nmX1 0 rfl rfl 5 (by decide) u1_83 rfl hnm rfl (tyX1_ok 5 (by decide)) rfl rfl (Nat.le_of_ble_eq_true rfl) dX1_init_39 ?_
  refine vV_eq (ws' := [(a, .inr (1, [.int 0, .ref q0, .ref q1, .ref q2, .ref q3, .ref q4])), (q0, .inl (cI, 12, .inl (fun _ => 0))), (q1, .inl (cI, 12, .inl (fun _ => 0))), (q2, .inl (cI, 12, .inl (fun _ => 0))), (q3, .inl (cI, 4, .inl (fun _ => 0))), (q4, .inl (cI, 4, .inl (fun _ => 0)))]) rfl rfl rfl ?_
  refine vV_aload_n Cx 0 dX1_init_42 rfl rfl ?_
  refine vU_get Cx hinX1 0 rfl rfl 5 (by decide) u1_83 rfl dX1_init_43 ?_
  refine vV_sipush (v := 200) Cx dX1_init_46 (by decide) ?_
  refine vU_fill Cx u1_70 5 rfl (by decide) (Nat.le_of_ble_eq_true rfl) (Nat.le_of_ble_eq_true rfl) (Nat.le_of_ble_eq_true rfl) ⟨(Nat.le_of_ble_eq_true rfl), (Nat.le_of_ble_eq_true rfl)⟩ dX1_init_49 rfl ?_
  exact vV_aretv Cx hr hlk (fun k => [q0, q1, q2, q3, q4].getD k 0) dX1_init_52 rfl
