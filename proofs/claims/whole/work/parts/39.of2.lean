/-! RopeMountain.of and the law's of -/
theorem isW_out {y : Int32} (h : y.toInt < 0 ∨ 6 < y.toInt) : isW y 0 6 = 0 := by
  unfold isW
  rcases h with h | h
  · rw [if_pos (Int32.lt_iff_toInt_lt.mpr h)]
  · split
    · rfl
    · rw [if_pos (Int32.lt_iff_toInt_lt.mpr (by show (6 : Int32).toInt < _; exact h))]
abbrev rX3_of : Room := { frames := 6, cells := 1, slots := 6, locals := 90 }
set_option maxRecDepth 100000 in
set_option maxHeartbeats 1000000 in
theorem KX3_of {l : Launch} (hl0 : l.stackTraces = false) {D : va_G} {cI cZ : ClassId} {ad : Nat → Nat} {A : Nat → Prop} {E C T : mT} {S : Nat → Int32} {n : Nat} (hn : E 8 2 = nI n) (h12n : n ≤ 12) (v y : Int32) : vKx l D (vtys cI cZ) A yX3_of (uT yX3_of cX3_of 3 (some .int)) rX3_of 1 6 (wR cI cZ ad E C T S) [.ref (ad 0), .int v, .int y] (¬ r_of E v y = 0) (C y.toNatClampNeg v.toNatClampNeg) := by
  refine vKx_of (cc := cX3_of) (maxL := 3) (ret := some .int) (by decide) rfl rfl (Nat.le_of_ble_eq_true rfl) ?_
  intro p e s m below meth c Cx hr hlk hex hx hz hA
  refine vV_aload_n Cx 0 dX3_of_0 rfl rfl ?_
  refine vU_get Cx hinX3 0 rfl rfl 1 (by decide) u1_155 rfl dX3_of_1 ?_
  refine vV_iload_n Cx 1 dX3_of_4 rfl rfl ?_
  refine vV_callVi Cx (R_has v) (cwV 1 Cx.1.2.2.2.2 (uGV u2_72 u2_73 u2_74 u1_5 u2_75) rfl rfl rfl hdX1_has ⟨(Nat.le_of_ble_eq_true rfl), (Nat.le_of_ble_eq_true rfl)⟩) 5 rfl rfl rfl rfl (Nat.le_of_ble_eq_true rfl) ⟨Nat.zero_le _, Nat.zero_le _⟩ dX3_of_5 ?_
  refine vV_if_ne (tgt := 21) Cx dX3_of_8 (by decide) (fun h8 => ?_) (fun h8 => ?_)
  · have hi : vix v 12 v.toNatClampNeg := by rw [hn] at h8; obtain ⟨j, hj, rfl⟩ := isW_nI1 h8 (by omega); exact ⟨(vix_nI (n := 12) (by omega) (by decide)).1, rfl⟩
    refine vV_iload_n Cx 2 dX3_of_21 rfl rfl ?_
    rcases tsw7 y with rfl | rfl | rfl | rfl | rfl | rfl | rfl | hout
    · refine vV_tableIn (tgt := 64) Cx dX3_of_22 (by decide) (by decide) rfl (by decide) ?_
      refine vV_aload_n Cx 0 dX3_of_64 rfl rfl ?_
      refine vU_get Cx hinX3 0 rfl rfl 2 (by decide) u1_156 rfl dX3_of_65 ?_
      refine vU_get Cx hinX0 11 rfl rfl 4 (by decide) u1_112 rfl dX3_of_68 ?_
      refine vV_iload_n Cx 1 dX3_of_71 rfl rfl ?_
      refine vV_iald Cx 12 0 rfl rfl hi dX3_of_72 ?_
      exact vV_xiret Cx hr hlk (show ¬ r_of E v 0 = 0 by simp [r_of, h8, show isW (0 : Int32) 0 6 = 1 by decide]) (Nat.zero_le _) (Nat.zero_le _) dX3_of_73 rfl
    · refine vV_tableIn (tgt := 74) Cx dX3_of_22 (by decide) (by decide) rfl (by decide) ?_
      refine vV_aload_n Cx 0 dX3_of_74 rfl rfl ?_
      refine vU_get Cx hinX3 0 rfl rfl 2 (by decide) u1_156 rfl dX3_of_75 ?_
      refine vU_get Cx hinX0 11 rfl rfl 5 (by decide) u1_114 rfl dX3_of_78 ?_
      refine vV_iload_n Cx 1 dX3_of_81 rfl rfl ?_
      refine vV_iald Cx 13 0 rfl rfl hi dX3_of_82 ?_
      exact vV_xiret Cx hr hlk (show ¬ r_of E v 1 = 0 by simp [r_of, h8, show isW (1 : Int32) 0 6 = 1 by decide]) (Nat.zero_le _) (Nat.zero_le _) dX3_of_83 rfl
    · refine vV_tableIn (tgt := 84) Cx dX3_of_22 (by decide) (by decide) rfl (by decide) ?_
      refine vV_aload_n Cx 0 dX3_of_84 rfl rfl ?_
      refine vU_get Cx hinX3 0 rfl rfl 2 (by decide) u1_156 rfl dX3_of_85 ?_
      refine vU_get Cx hinX0 11 rfl rfl 6 (by decide) u1_116 rfl dX3_of_88 ?_
      refine vV_iload_n Cx 1 dX3_of_91 rfl rfl ?_
      refine vV_iald Cx 14 0 rfl rfl hi dX3_of_92 ?_
      exact vV_xiret Cx hr hlk (show ¬ r_of E v 2 = 0 by simp [r_of, h8, show isW (2 : Int32) 0 6 = 1 by decide]) (Nat.zero_le _) (Nat.zero_le _) dX3_of_93 rfl
    · refine vV_tableIn (tgt := 94) Cx dX3_of_22 (by decide) (by decide) rfl (by decide) ?_
      refine vV_aload_n Cx 0 dX3_of_94 rfl rfl ?_
      refine vU_get Cx hinX3 0 rfl rfl 2 (by decide) u1_156 rfl dX3_of_95 ?_
      refine vU_get Cx hinX0 11 rfl rfl 7 (by decide) u1_118 rfl dX3_of_98 ?_
      refine vV_iload_n Cx 1 dX3_of_101 rfl rfl ?_
      refine vV_iald Cx 15 0 rfl rfl hi dX3_of_102 ?_
      exact vV_xiret Cx hr hlk (show ¬ r_of E v 3 = 0 by simp [r_of, h8, show isW (3 : Int32) 0 6 = 1 by decide]) (Nat.zero_le _) (Nat.zero_le _) dX3_of_103 rfl
    · refine vV_tableIn (tgt := 104) Cx dX3_of_22 (by decide) (by decide) rfl (by decide) ?_
      refine vV_aload_n Cx 0 dX3_of_104 rfl rfl ?_
      refine vU_get Cx hinX3 0 rfl rfl 2 (by decide) u1_156 rfl dX3_of_105 ?_
      refine vU_get Cx hinX0 11 rfl rfl 9 (by decide) u1_122 rfl dX3_of_108 ?_
      refine vV_iload_n Cx 1 dX3_of_111 rfl rfl ?_
      refine vV_iald Cx 17 0 rfl rfl hi dX3_of_112 ?_
      exact vV_xiret Cx hr hlk (show ¬ r_of E v 4 = 0 by simp [r_of, h8, show isW (4 : Int32) 0 6 = 1 by decide]) (Nat.zero_le _) (Nat.zero_le _) dX3_of_113 rfl
    · refine vV_tableIn (tgt := 114) Cx dX3_of_22 (by decide) (by decide) rfl (by decide) ?_
      refine vV_aload_n Cx 0 dX3_of_114 rfl rfl ?_
      refine vU_get Cx hinX3 0 rfl rfl 2 (by decide) u1_156 rfl dX3_of_115 ?_
      refine vU_get Cx hinX0 11 rfl rfl 10 (by decide) u1_124 rfl dX3_of_118 ?_
      refine vV_iload_n Cx 1 dX3_of_121 rfl rfl ?_
      refine vV_iald Cx 18 0 rfl rfl hi dX3_of_122 ?_
      exact vV_xiret Cx hr hlk (show ¬ r_of E v 5 = 0 by simp [r_of, h8, show isW (5 : Int32) 0 6 = 1 by decide]) (Nat.zero_le _) (Nat.zero_le _) dX3_of_123 rfl
    · refine vV_tableIn (tgt := 124) Cx dX3_of_22 (by decide) (by decide) rfl (by decide) ?_
      refine vV_aload_n Cx 0 dX3_of_124 rfl rfl ?_
      refine vU_get Cx hinX3 0 rfl rfl 2 (by decide) u1_156 rfl dX3_of_125 ?_
      refine vU_get Cx hinX0 11 rfl rfl 8 (by decide) u1_120 rfl dX3_of_128 ?_
      refine vV_iload_n Cx 1 dX3_of_131 rfl rfl ?_
      refine vV_iald Cx 16 0 rfl rfl hi dX3_of_132 ?_
      exact vV_xiret Cx hr hlk (show ¬ r_of E v 6 = 0 by simp [r_of, h8, show isW (6 : Int32) 0 6 = 1 by decide]) (Nat.zero_le _) (Nat.zero_le _) dX3_of_133 rfl
    · refine vV_tableOut (tgt := 134) Cx dX3_of_22 hout (by decide) ?_
      obtain ⟨a2, ha2⟩ := hx.2.1
      exact vV_throw Cx hl0 hx hz ha2 hlk hex u2_150 u1_11 dX3_of_134 dX3_of_137 dX3_of_138 dX3_of_140 dX3_of_143 (by decide) (by decide) (by decide) (by decide) (by decide) (by decide) (show ¬ ¬ r_of E v y = 0 by simp [r_of, isW_out hout])
  · obtain ⟨a1, ha1⟩ := hx.1
    exact vV_throw Cx hl0 hx hz ha1 hlk hex u2_150 u1_11 dX3_of_11 dX3_of_14 dX3_of_15 dX3_of_17 dX3_of_20 (by decide) (by decide) (by decide) (by decide) (by decide) (by decide) (show ¬ ¬ r_of E v y = 0 by simp [r_of, h8])
theorem uLof : Cond.codeWith yL_of cL_of 5 (some .int) [(0, 10, 13, 13)] ∈ uW := uI2 (i := 144) (by decide +kernel) rfl
abbrev uO : List Cond := Cond.codeWith yL_of cL_of 5 (some .int) [(0, 10, 13, 13)] :: uW
def lO (cL : ClassId) (o : Nat) (f : Nat → Int64) : Nat × va_E := (o, .inl (cL, 1, .inr (.inl f)))
def vPo (D : va_G) (tys : List (ClassId × FieldType)) (cL : ClassId) (A : Nat → Prop) (w : va_W) (as : List Value) : Array Value → State → Prop := va_Pc as (fun U => va_P D vwCl w U.heap ∧ vkA D tys U ∧ va_K D vwCl (tys ++ [(cL, .long)]) U ∧ va_D A w ∧ vxW U ∧ vxZ A U U.heap ∧ ∀ q, U.heap.size ≤ q → A q)
theorem vPo_blind (D : va_G) (tys : List (ClassId × FieldType)) (cL : ClassId) (A : Nat → Prop) (w : va_W) (as : List Value) : FrameBlind (vPo D tys cL A w as) := fun a U g mk q => ⟨q.1, q.2.1, vkA_call g mk a q.2.2.1, va_K.moved (u := U) (U := U.calling g mk a) (Vm.Alike.refl U.vm) q.2.2.2.1, q.2.2.2.2.1, vxW_call g mk a q.2.2.2.2.2.1, vxZ_moved (u := U) (U := U.calling g mk a) (Vm.Alike.refl U.vm) q.2.2.2.2.2.2.1, q.2.2.2.2.2.2.2⟩
section VLO
variable {D : va_G} {tys : List (ClassId × FieldType)} {A : Nat → Prop} {nL : Nat} {p : Program} {l : Launch} {e : Env} {R : Room} {s : State} {m : MethodId} {args : Array Value} {below : List Frame} {meth : Method} {c : Code} {cells slots : Nat} {Q : State → Prop} {cc : ByteArray} {Ts : List Cond} {own : String} {ws : va_W} {L : List Value} {pc : Nat} {st : List Value}
theorem vV_i2l (C : vCx D tys p m c cc nL s args Ts own) {x : Int32} (hd : decode cc pc = .ok (.i2l, 1)) (k : vV D tys A nL p l e R s m args below meth c cells slots Q ws L (pc + 1) (.long x.toInt64 :: st)) : vV D tys A nL p l e R s m args below meth c cells slots Q ws L pc (.int x :: st) := fun H locs ls hP hD hS hl => lv_i2l C.1.1 C.1.2.1 hd rfl (k H locs ls hP hD hS hl)
theorem vV_lald (C : vCx D tys p m c cc nL s args Ts own) {cL : ClassId} {tys3 : List (ClassId × FieldType)} (hK : va_K D vwCl tys3 s) (q0 t0 : Nat) {a n : Nat} {f : Nat → Int64} (ha : ws[q0]? = some (a, .inl (cL, n, .inr (.inl f)))) (ht : tys3[t0]? = some (cL, .long)) {i : Int32} (hin : vp_in i n) (hd : decode cc pc = .ok (.laload, 1)) (k : vV D tys A nL p l e R s m args below meth c cells slots Q ws L (pc + 1) (.long (f i.toNatClampNeg) :: st)) : vV D tys A nL p l e R s m args below meth c cells slots Q ws L pc (.int i :: .ref a :: st) := fun H locs ls hP hD hS hl => va_lald C.1.1 C.1.2.1 hK hP q0 t0 ha ht hin hd (k H locs ls hP hD hS hl)
theorem vV_last (C : vCx D tys p m c cc nL s args Ts own) {cL : ClassId} {tys3 : List (ClassId × FieldType)} (hK : va_K D vwCl tys3 s) (q0 t0 : Nat) {a n : Nat} {f : Nat → Int64} (ha : ws[q0]? = some (a, .inl (cL, n, .inr (.inl f)))) (ht : tys3[t0]? = some (cL, .long)) {i : Int32} {x : Int64} (hin : vp_in i n) (hd : decode cc pc = .ok (.lastore, 1)) (k : vV D tys A nL p l e R s m args below meth c cells slots Q (ws.set q0 (a, .inl (cL, n, .inr (.inl (vp_updL f i.toNatClampNeg x))))) L (pc + 1) st) : vV D tys A nL p l e R s m args below meth c cells slots Q ws L pc (.long x :: .int i :: .ref a :: st) := fun H locs ls hP hD hS hl => va_last C.1.1 C.1.2.1 hK hP hD hS q0 t0 ha ht hin hd (fun H1 locs1 hP hD hS => k H1 locs1 ls hP hD hS hl)
theorem vV_wret (C : vCx D tys p m c cc nL s args Ts own) (hr : meth.sig.returnType = some .int) (hlk : meth.locks = false) {x r : Int32} {w' : va_W} {mc ms : Nat} (hc : cells ≤ mc) (hs : slots ≤ ms) (hd : decode cc pc = .ok (.ireturn, 1)) (hx : x = r) (hw : ws = w') : vV D tys A nL p l e R s m args below meth c cells slots (MQ below (vQi D A r w') args s mc ms A) ws L pc [.int x] := by
  subst hw
  exact fun H locs ls hP hD hS hl => W.widen hc hs (W.iret C.1.1 C.1.2.1 hr (fun t ht hW => ⟨⟨x, (), rfl, hx, by rw [ht]; exact hP, hD⟩, hS.F ht⟩) hS.2.2 hd hlk)
end VLO
def f_of (E C : mT) (v y : Int32) (f : Nat → Int64) : Nat → Int64 := if r_of E v y = 0 then f else vp_updL f 0 (C y.toNatClampNeg v.toNatClampNeg).toInt64
abbrev rL_of : Room := { frames := 7, cells := 1, slots := 6, locals := 120 }
set_option maxRecDepth 100000 in
set_option maxHeartbeats 1000000 in
theorem KL_of {l : Launch} (hl0 : l.stackTraces = false) {D : va_G} {cI cZ cL : ClassId} {ad : Nat → Nat} {o : Nat} {A : Nat → Prop} {E C T : mT} {S : Nat → Int32} {f : Nat → Int64} {n : Nat} (hn : E 8 2 = nI n) (h12n : n ≤ 12) (v y : Int32) : Met l yL_of uO rL_of (vPo D (vtys cI cZ) cL A (wR cI cZ ad E C T S ++ [lO cL o f]) [.ref (ad 0), .int v, .int y, .ref o]) (vQi D A (if r_of E v y = 0 then 1 else 0) (wR cI cZ ad E C T S ++ [lO cL o (f_of E C v y f)])) 1 6 A := by
  refine va_MetW (cc := cL_of) (maxL := 5) (ret := some .int) (hh := [(0, 10, 13, 13)]) (by decide) rfl ?_
  intro p e s m args below meth c s₁ B hml hv
  obtain ⟨rfl, hP0, hK, hK3, hD0, hx, hz, hA⟩ := hv
  have hl := vlP_entry (vs := [.ref (ad 0), .int v, .int y, .ref o]) (nL := 5) (by simp [Value.category]) (lv_entry [.ref (ad 0), .int v, .int y, .ref o] (n := 5) (Nat.le_of_ble_eq_true rfl))
  have htab : c.exceptionTable.toList = [⟨0, 10, 13, 13⟩] := vx_table (x := yL_of) B (atoms_spec (ws := uO) B.pre _ List.mem_cons_self)
  rw [lg_entry_eq]
  have Cx : vCx D (vtys cI cZ) p m c cL_of 5 s ([.ref (ad 0), .int v, .int y, .ref o] : List Value).toArray uO RL := ⟨⟨B.exec, B.bytes, hml, findClass_of_methodNamed B.named, atoms_spec (ws := uO) B.pre⟩, hK⟩
  have hr := B.returns
  have hlk := B.notSynchronized
  suffices hV : vV D (vtys cI cZ) A 5 p l e rL_of s m ([.ref (ad 0), .int v, .int y, .ref o] : List Value).toArray below meth c 0 0 (MQ below (vQi D A (if r_of E v y = 0 then 1 else 0) (wR cI cZ ad E C T S ++ [lO cL o (f_of E C v y f)])) ([.ref (ad 0), .int v, .int y, .ref o] : List Value).toArray s 1 6 A) (wR cI cZ ad E C T S ++ [lO cL o f]) [.ref (ad 0), .int v, .int y, .ref o] 0 [] from hV s.heap [] _ hP0 hD0 va_S.rf hl
  refine vV_aload_n Cx 3 dL_of_0 rfl rfl ?_
  refine vV_iconst (v := 0) Cx dL_of_1 (by decide) ?_
  refine vV_aload_n Cx 0 dL_of_2 rfl rfl ?_
  refine vV_iload_n Cx 1 dL_of_3 rfl rfl ?_
  refine vV_iload_n Cx 2 dL_of_4 rfl rfl ?_
  refine vF_callX Cx hA hx hz [] (wR cI cZ ad E C T S) [lO cL o f] (fun A => KX3_of hl0 hn h12n v y) (cwV 2 Cx.1.2.2.2.2 (uGV u2_146 u2_147 u2_148 u1_1 u2_149) rfl rfl rfl hdX3_of ⟨(Nat.le_of_ble_eq_true rfl), (Nat.le_of_ble_eq_true rfl)⟩) 0 rfl rfl rfl rfl (Nat.le_of_ble_eq_true rfl) ⟨(Nat.le_of_ble_eq_true rfl), (Nat.le_of_ble_eq_true rfl)⟩ dL_of_5 (fun hno H1 locs1 ls ce q9 hP1 hD1 hS1 hl1 h1 h2 h3 => ?_) (fun hok => ?_)
  · have hno' : r_of E v y = 0 := Decidable.not_not.mp hno
    refine vc_catch Cx.1.2.2.2.1 ⟨0, 10, 13, 13⟩ htab rfl (by decide) (Cx.1.2.2.2.2 _ (List.mem_cons_of_mem _ u2_145)) (va_Nw.use rfl hx.2.2.2.2.2) h1 h2 h3 ?_
    suffices hV : vV D (vtys cI cZ) A 5 p l e rL_of s m ([.ref (ad 0), .int v, .int y, .ref o] : List Value).toArray below meth c 1 6 (MQ below (vQi D A (if r_of E v y = 0 then 1 else 0) (wR cI cZ ad E C T S ++ [lO cL o (f_of E C v y f)])) ([.ref (ad 0), .int v, .int y, .ref o] : List Value).toArray s 1 6 A) (wR cI cZ ad E C T S ++ [lO cL o f]) [.ref (ad 0), .int v, .int y, .ref o] 13 [.ref q9] from hV H1 locs1 ls hP1 hD1 hS1 hl1
    refine vV_astore Cx dL_of_13 (by decide) ?_
    refine vV_iconst (v := 1) Cx dL_of_15 (by decide) ?_
    exact vV_wret Cx hr hlk (Nat.le_refl _) (Nat.le_refl _) dL_of_16 (by rw [if_pos hno']) (by rw [f_of, if_pos hno'])
  · refine vV_i2l Cx dL_of_8 ?_
    refine vV_last Cx hK3 32 2 rfl rfl (vix_nI (n := 1) (j := 0) (by decide) (by decide)).1 dL_of_9 ?_
    refine vV_goto (tgt := 17) Cx dL_of_10 (by decide) ?_
    refine vV_iconst (v := 0) Cx dL_of_17 (by decide) ?_
    exact vV_wret Cx hr hlk (Nat.le_refl _) (Nat.le_refl _) dL_of_18 (by rw [if_neg hok]) (by rw [f_of, if_neg hok]; rfl)
