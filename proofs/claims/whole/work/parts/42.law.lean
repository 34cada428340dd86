/-! the law: its end, its entry (out of the skeleton), then its cases -/
def R_law : String := "RopeMountainLaw"
def lw_P (b : Addr) (xs : List Int32) (args : Array Value) (s : State) : Prop := args = #[.ref b] ∧ s.IntsAt b xs ∧ xs.length ≤ 3072 ∧ (Jvm.Cond.and given_1 narrow_1).before args s = true
def lw_Q (_ : Array Value) (s : State) (o : Outcome) (t : State) : Prop := o = .returned (some (.int 1)) ∧ Framed s o t [] 1071 9172
def lw_Z (below : List Frame) (a : Array Value) (s : State) : State → Prop := fun t => ∃ o, t.status = .running ∧ Ended t below o ∧ lw_Q a s o t
/-- the law's own end, with 1 on the stack, nothing written that was there before, its room as the claim has it -/
theorem lw_ret {p : Program} {l : Launch} {e : Env} {s : State} {m : MethodId} {below : List Frame} {meth : Method} {c : Code} {b : Nat} (hx : p.tables.exec = Jvm.exec) (hb : c.code = code) (hr : meth.sig.returnType = ret) (hlocks : meth.locks = false) {pc : Nat} {H : Heap} {ls : Array Slot} (hdg : decode code pc = .ok (.ireturn, 1)) : W p l e room_1 s m #[Value.ref b] below meth c H [] 1071 9172 (lw_Z below #[Value.ref b] s) (F0 m pc ls [.int 1]) := by
  intro T hT X
  obtain ⟨fs, hret, hrun, hended, hW, hframe⟩ := X.leave (v := some (.int 1)) (hlocks := hlocks) (fun h => by rw [hr] at h; cases h)
  have hmeth' : T.vm.method? m = some meth := X.method'
  refine ⟨T.setFrames fs, ?_, .returned (some (.int 1)), hrun, hended, rfl, ⟨_, rfl⟩, hW, hframe⟩
  jvm_step X.here [X.here.top, hx, hb, hdg, hmeth', hr, ret, narrow_b1]
  (try refine ⟨rfl, ?_⟩); (try refine ⟨rfl, ?_⟩)
  first | (intro acts; rw [hret _ acts rfl rfl rfl]) | rw [hret _ _ rfl rfl rfl]
  exact Steps.refl _
/-- what holds at the law's entry: the machine, the code, the tables' words (any of lw_tbl by 'hts w (by decide +kernel)'), the script of L ints xs at the cell b, what the Statement gives of the start (any of its parts by flat_of_before) -/
def lw_At (p : Program) (s : State) (m : MethodId) (meth : Method) (c : Code) (b L : Nat) (xs : Nat → Int32) : Prop :=
  p.tables.exec = Jvm.exec ∧ c.code = code ∧ meth.sig.returnType = ret ∧ c.maxLocals = 7 ∧ s.vm.findClass R_law = some m.cls ∧ (∀ w ∈ lw_tbl, w.before #[Value.ref b] s = true) ∧ va_X b L xs s s.heap ∧ b < s.heap.size ∧ meth.locks = false ∧ (Jvm.Cond.and given_1 narrow_1).before #[Value.ref b] s = true
abbrev A0 (s : State) : Nat → Prop := fun q => s.heap.size ≤ q
abbrev uLw : List Cond := Cond.initialized RL :: uW
abbrev wL (cI cZ cL : ClassId) (am ad : Nat → Nat) (o : Nat) (E C D' T N : mT) (S : Nat → Int32) (f : Nat → Int64) : va_W := wN cI cZ am E D' N ++ (wR cI cZ ad E C T S ++ [lO cL o f])
abbrev lLw (b : Nat) (ad am : Nat → Nat) (o t : Nat) : List Value := [.ref b, .ref (ad 0), .ref (am 0), .ref o, .int (nI (6 * t))]
def LX (D : va_G) (cI cZ cL : ClassId) (p : Program) (s : State) (m : MethodId) (c : Code) (b L : Nat) (xs : Nat → Int32) : Prop := vCx D (vtys cI cZ) p m c cL_law 7 s #[Value.ref b] uLw RL ∧ va_K D vwCl (vtys cI cZ ++ [(cL, .long)]) s ∧ vxW s ∧ vxZ (A0 s) s s.heap ∧ va_X b L xs s s.heap ∧ b < s.heap.size ∧ L ≤ 3072
def tailAt (D : va_G) (cI cZ cL : ClassId) (am ad : Nat → Nat) (o : Nat) (p : Program) (l : Launch) (e : Env) (s : State) (m : MethodId) (below : List Frame) (meth : Method) (c : Code) (b t : Nat) : Prop := ∀ (E C D' T N : mT) (S : Nat → Int32) (f : Nat → Int64) (n np hr hg : Nat), Jr n np hr hg E C D' → vV D (vtys cI cZ) (A0 s) 7 p l e room_1 s m #[Value.ref b] below meth c (45 + (t + 1)) (968 + 6 * (t + 1)) (lw_Z below #[Value.ref b] s) (wL cI cZ cL am ad o E C D' T N S f) (lLw b ad am o t) 764 []
set_option maxRecDepth 100000 in
set_option maxHeartbeats 1000000 in
theorem law_0 {D : va_G} {cI cZ cL : ClassId} {am ad : Nat → Nat} {o : Nat} {p : Program} {l : Launch} {e : Env} {s : State} {m : MethodId} {below : List Frame} {meth : Method} {c : Code} {b L t : Nat} {xs : Nat → Int32} (X : LX D cI cZ cL p s m c b L xs) (hl0 : l.stackTraces = false) (ht : 6 * t + 6 ≤ L) (tail : tailAt D cI cZ cL am ad o p l e s m below meth c b t) {E C D' T N : mT} {S : Nat → Int32} {f : Nat → Int64} {n np hr hg : Nat} (J : Jr n np hr hg E C D') : vV D (vtys cI cZ) (A0 s) 7 p l e room_1 s m #[Value.ref b] below meth c (45 + t) (968 + 6 * t) (lw_Z below #[Value.ref b] s) (wL cI cZ cL am ad o E C D' T N S f) (lLw b ad am o t) 124 [] := by
  obtain ⟨Cx, hK3, hx, hz, hX, hbl, hL⟩ := X
  have hA : ∀ q, s.heap.size ≤ q → A0 s q := fun _ h => h
  have hbA : ¬ A0 s b := Nat.not_le.mpr hbl
  have hcs : 45 + t ≤ room_1.cells ∧ 968 + 6 * t ≤ room_1.slots := ⟨by show _ ≤ 1071; omega, by show _ ≤ 9172; omega⟩
  have hi : ∀ k, k < 6 → vix (nI (6 * t) + nI k) L (6 * t + k) := fun k hk => by rw [nI_add]; exact vix_nI (by omega) (by omega)
  obtain ⟨ok, h1p, hLk, hhg, hgp, h200, R⟩ := id J
  obtain ⟨o1, o2, o3, o4, o5, o6⟩ := id ok
  refine vV_aload_n Cx 1 dL_law_124 rfl rfl ?_
  refine vV_aload_n Cx 0 dL_law_125 rfl rfl ?_
  refine vV_iload Cx dL_law_126 rfl ?_
  refine vV_iconst (v := nI 1) Cx dL_law_128 (by decide) ?_
  refine vV_iadd Cx dL_law_129 ?_
  refine vV_sld Cx hX hbl hbA (hi 1 (by decide)) dL_law_130 ?_
  refine vG_callVi Cx hA (wN cI cZ am E D' N) (wR cI cZ ad E C T S) [lO cL o f] rfl rfl (fun A => KX3_mountain o1 o2 (xs (6 * t + 1))) (cwV 1 Cx.1.2.2.2.2 (uGV u1_167 u1_168 u1_169 u1_1 u1_170) rfl rfl rfl hdX3_mountain ⟨(Nat.le_of_ble_eq_true rfl), (Nat.le_of_ble_eq_true rfl)⟩) 0 rfl rfl rfl rfl (Nat.le_of_ble_eq_true rfl) hcs dL_law_131 ?_
  refine vV_aload_n Cx 2 dL_law_134 rfl rfl ?_
  refine vV_aload_n Cx 0 dL_law_135 rfl rfl ?_
  refine vV_iload Cx dL_law_136 rfl ?_
  refine vV_iconst (v := nI 1) Cx dL_law_138 (by decide) ?_
  refine vV_iadd Cx dL_law_139 ?_
  refine vV_sld Cx hX hbl hbA (hi 1 (by decide)) dL_law_140 ?_
  refine vG_callVi Cx hA [] (wN cI cZ am E D' N) (wR cI cZ ad (if isW (xs (6 * t + 1)) 1 6 = 0 then E else layE E (xs (6 * t + 1))) (if isW (xs (6 * t + 1)) 1 6 = 0 then C else c_reset (layE E (xs (6 * t + 1))) n C) T S ++ [lO cL o f]) (List.nil_append _).symm (List.nil_append _) (fun A => KX4_mountain o1 o2 (xs (6 * t + 1))) (cwV 1 Cx.1.2.2.2.2 (uGV u3_49 u3_50 u3_51 u1_7 u3_52) rfl rfl rfl hdX4_mountain ⟨(Nat.le_of_ble_eq_true rfl), (Nat.le_of_ble_eq_true rfl)⟩) 0 rfl rfl rfl rfl (Nat.le_of_ble_eq_true rfl) hcs dL_law_141 ?_
  refine vV_icmp_eq (tgt := 764) Cx dL_law_144 (by decide) (fun _ => vV_widen (k := 45 + (t + 1)) (n := 968 + 6 * (t + 1)) (by omega) (by omega) ?_) (fun h => absurd (rfl) h)
  by_cases hv : isW (xs (6 * t + 1)) 1 6 = 0
  · simp only [if_pos hv]
    exact tail _ _ _ _ _ _ _ _ _ _ _ J
  · simp only [if_neg hv]
    obtain ⟨np2, hg2, J2⟩ := J_mountain J hv
    refine vV_swE (lay_mtn0 E _) (lay_mtn1 E _) (fun j _ => congrFun (lay_q E _ (by decide) (by decide)) j) (lay_q E _ (by decide) (by decide)) (lay_q E _ (by decide) (by decide)) (lay_q E _ (by decide) (by decide)) (lay_q E _ (by decide) (by decide)) (lay_q E _ (by decide) (by decide)) (lay_8 E _) ?_
    exact tail _ _ _ _ _ _ _ _ _ _ _ J2
set_option maxRecDepth 100000 in
set_option maxHeartbeats 1000000 in
theorem law_1 {D : va_G} {cI cZ cL : ClassId} {am ad : Nat → Nat} {o : Nat} {p : Program} {l : Launch} {e : Env} {s : State} {m : MethodId} {below : List Frame} {meth : Method} {c : Code} {b L t : Nat} {xs : Nat → Int32} (X : LX D cI cZ cL p s m c b L xs) (hl0 : l.stackTraces = false) (ht : 6 * t + 6 ≤ L) (tail : tailAt D cI cZ cL am ad o p l e s m below meth c b t) {E C D' T N : mT} {S : Nat → Int32} {f : Nat → Int64} {n np hr hg : Nat} (J : Jr n np hr hg E C D') : vV D (vtys cI cZ) (A0 s) 7 p l e room_1 s m #[Value.ref b] below meth c (45 + t) (968 + 6 * t) (lw_Z below #[Value.ref b] s) (wL cI cZ cL am ad o E C D' T N S f) (lLw b ad am o t) 149 [] := by
  obtain ⟨Cx, hK3, hx, hz, hX, hbl, hL⟩ := X
  have hA : ∀ q, s.heap.size ≤ q → A0 s q := fun _ h => h
  have hbA : ¬ A0 s b := Nat.not_le.mpr hbl
  have hcs : 45 + t ≤ room_1.cells ∧ 968 + 6 * t ≤ room_1.slots := ⟨by show _ ≤ 1071; omega, by show _ ≤ 9172; omega⟩
  have hi : ∀ k, k < 6 → vix (nI (6 * t) + nI k) L (6 * t + k) := fun k hk => by rw [nI_add]; exact vix_nI (by omega) (by omega)
  obtain ⟨ok, h1p, hLk, hhg, hgp, h200, R⟩ := id J
  obtain ⟨o1, o2, o3, o4, o5, o6⟩ := id ok
  refine vV_aload_n Cx 1 dL_law_149 rfl rfl ?_
  refine vV_aload_n Cx 0 dL_law_150 rfl rfl ?_
  refine vV_iload Cx dL_law_151 rfl ?_
  refine vV_iconst (v := nI 1) Cx dL_law_153 (by decide) ?_
  refine vV_iadd Cx dL_law_154 ?_
  refine vV_sld Cx hX hbl hbA (hi 1 (by decide)) dL_law_155 ?_
  refine vV_aload_n Cx 0 dL_law_156 rfl rfl ?_
  refine vV_iload Cx dL_law_157 rfl ?_
  refine vV_iconst (v := nI 2) Cx dL_law_159 (by decide) ?_
  refine vV_iadd Cx dL_law_160 ?_
  refine vV_sld Cx hX hbl hbA (hi 2 (by decide)) dL_law_161 ?_
  refine vV_aload_n Cx 0 dL_law_162 rfl rfl ?_
  refine vV_iload Cx dL_law_163 rfl ?_
  refine vV_iconst (v := nI 3) Cx dL_law_165 (by decide) ?_
  refine vV_iadd Cx dL_law_166 ?_
  refine vV_sld Cx hX hbl hbA (hi 3 (by decide)) dL_law_167 ?_
  refine vG_callVi Cx hA (wN cI cZ am E D' N) (wR cI cZ ad E C T S) [lO cL o f] rfl rfl (fun A => KX3_pitch o4 o5 (xs (6 * t + 1)) (xs (6 * t + 2)) (xs (6 * t + 3))) (cwV 3 Cx.1.2.2.2.2 (uGV u1_183 u1_184 u1_185 u1_1 u1_186) rfl rfl rfl hdX3_pitch ⟨(Nat.le_of_ble_eq_true rfl), (Nat.le_of_ble_eq_true rfl)⟩) 0 rfl rfl rfl rfl (Nat.le_of_ble_eq_true rfl) hcs dL_law_168 ?_
  refine vV_aload_n Cx 2 dL_law_171 rfl rfl ?_
  refine vV_aload_n Cx 0 dL_law_172 rfl rfl ?_
  refine vV_iload Cx dL_law_173 rfl ?_
  refine vV_iconst (v := nI 1) Cx dL_law_175 (by decide) ?_
  refine vV_iadd Cx dL_law_176 ?_
  refine vV_sld Cx hX hbl hbA (hi 1 (by decide)) dL_law_177 ?_
  refine vV_aload_n Cx 0 dL_law_178 rfl rfl ?_
  refine vV_iload Cx dL_law_179 rfl ?_
  refine vV_iconst (v := nI 2) Cx dL_law_181 (by decide) ?_
  refine vV_iadd Cx dL_law_182 ?_
  refine vV_sld Cx hX hbl hbA (hi 2 (by decide)) dL_law_183 ?_
  refine vV_aload_n Cx 0 dL_law_184 rfl rfl ?_
  refine vV_iload Cx dL_law_185 rfl ?_
  refine vV_iconst (v := nI 3) Cx dL_law_187 (by decide) ?_
  refine vV_iadd Cx dL_law_188 ?_
  refine vV_sld Cx hX hbl hbA (hi 3 (by decide)) dL_law_189 ?_
  refine vG_callVi Cx hA [] (wN cI cZ am E D' N) (wR cI cZ ad (e_pitch E (xs (6 * t + 1)) (xs (6 * t + 2)) (xs (6 * t + 3))) C T S ++ [lO cL o f]) (List.nil_append _).symm (List.nil_append _) (fun A => KX4_pitch o4 o5 (xs (6 * t + 1)) (xs (6 * t + 2)) (xs (6 * t + 3))) (cwV 3 Cx.1.2.2.2.2 (uGV u3_69 u3_70 u3_71 u1_7 u3_72) rfl rfl rfl hdX4_pitch ⟨(Nat.le_of_ble_eq_true rfl), (Nat.le_of_ble_eq_true rfl)⟩) 0 rfl rfl rfl rfl (Nat.le_of_ble_eq_true rfl) hcs dL_law_190 ?_
  refine vV_icmp_eq (tgt := 764) Cx dL_law_193 (by decide) (fun _ => vV_widen (k := 45 + (t + 1)) (n := 968 + 6 * (t + 1)) (by omega) (by omega) ?_) (fun h => absurd (rfl) h)
  exact tail _ _ _ _ _ _ _ _ _ _ _ (J_pitch J _ _ _)
set_option maxRecDepth 100000 in
set_option maxHeartbeats 1000000 in
theorem law_2 {D : va_G} {cI cZ cL : ClassId} {am ad : Nat → Nat} {o : Nat} {p : Program} {l : Launch} {e : Env} {s : State} {m : MethodId} {below : List Frame} {meth : Method} {c : Code} {b L t : Nat} {xs : Nat → Int32} (X : LX D cI cZ cL p s m c b L xs) (hl0 : l.stackTraces = false) (ht : 6 * t + 6 ≤ L) (tail : tailAt D cI cZ cL am ad o p l e s m below meth c b t) {E C D' T N : mT} {S : Nat → Int32} {f : Nat → Int64} {n np hr hg : Nat} (J : Jr n np hr hg E C D') : vV D (vtys cI cZ) (A0 s) 7 p l e room_1 s m #[Value.ref b] below meth c (45 + t) (968 + 6 * t) (lw_Z below #[Value.ref b] s) (wL cI cZ cL am ad o E C D' T N S f) (lLw b ad am o t) 198 [] := by
  obtain ⟨Cx, hK3, hx, hz, hX, hbl, hL⟩ := X
  have hA : ∀ q, s.heap.size ≤ q → A0 s q := fun _ h => h
  have hbA : ¬ A0 s b := Nat.not_le.mpr hbl
  have hcs : 45 + t ≤ room_1.cells ∧ 968 + 6 * t ≤ room_1.slots := ⟨by show _ ≤ 1071; omega, by show _ ≤ 9172; omega⟩
  have hi : ∀ k, k < 6 → vix (nI (6 * t) + nI k) L (6 * t + k) := fun k hk => by rw [nI_add]; exact vix_nI (by omega) (by omega)
  obtain ⟨ok, h1p, hLk, hhg, hgp, h200, R⟩ := id J
  obtain ⟨o1, o2, o3, o4, o5, o6⟩ := id ok
  refine vV_aload_n Cx 1 dL_law_198 rfl rfl ?_
  refine vV_aload_n Cx 0 dL_law_199 rfl rfl ?_
  refine vV_iload Cx dL_law_200 rfl ?_
  refine vV_iconst (v := nI 1) Cx dL_law_202 (by decide) ?_
  refine vV_iadd Cx dL_law_203 ?_
  refine vV_sld Cx hX hbl hbA (hi 1 (by decide)) dL_law_204 ?_
  refine vG_callVi Cx hA (wN cI cZ am E D' N) (wR cI cZ ad E C T S) [lO cL o f] rfl rfl (fun A => KX3_high (xs (6 * t + 1))) (cwV 1 Cx.1.2.2.2.2 (uGV u1_192 u1_193 u1_194 u1_1 u1_195) rfl rfl rfl hdX3_high ⟨(Nat.le_of_ble_eq_true rfl), (Nat.le_of_ble_eq_true rfl)⟩) 0 rfl rfl rfl rfl (Nat.le_of_ble_eq_true rfl) hcs dL_law_205 ?_
  refine vV_aload_n Cx 2 dL_law_208 rfl rfl ?_
  refine vV_aload_n Cx 0 dL_law_209 rfl rfl ?_
  refine vV_iload Cx dL_law_210 rfl ?_
  refine vV_iconst (v := nI 1) Cx dL_law_212 (by decide) ?_
  refine vV_iadd Cx dL_law_213 ?_
  refine vV_sld Cx hX hbl hbA (hi 1 (by decide)) dL_law_214 ?_
  refine vG_callVi Cx hA [] (wN cI cZ am E D' N) (wR cI cZ ad (if isW (xs (6 * t + 1)) 0 (E 8 0) = 0 then E else cS E 8 1 (xs (6 * t + 1))) C T S ++ [lO cL o f]) (List.nil_append _).symm (List.nil_append _) (fun A => KX4_high (xs (6 * t + 1))) (cwV 1 Cx.1.2.2.2.2 (uGV u3_77 u3_78 u3_79 u1_7 u3_80) rfl rfl rfl hdX4_high ⟨(Nat.le_of_ble_eq_true rfl), (Nat.le_of_ble_eq_true rfl)⟩) 0 rfl rfl rfl rfl (Nat.le_of_ble_eq_true rfl) hcs dL_law_215 ?_
  refine vV_icmp_eq (tgt := 764) Cx dL_law_218 (by decide) (fun _ => vV_widen (k := 45 + (t + 1)) (n := 968 + 6 * (t + 1)) (by omega) (by omega) ?_) (fun h => absurd (rfl) h)
  obtain ⟨hg2, J2⟩ := J_high J (xs (6 * t + 1))
  exact tail _ _ _ _ _ _ _ _ _ _ _ J2
set_option maxRecDepth 100000 in
set_option maxHeartbeats 1000000 in
theorem law_3 {D : va_G} {cI cZ cL : ClassId} {am ad : Nat → Nat} {o : Nat} {p : Program} {l : Launch} {e : Env} {s : State} {m : MethodId} {below : List Frame} {meth : Method} {c : Code} {b L t : Nat} {xs : Nat → Int32} (X : LX D cI cZ cL p s m c b L xs) (hl0 : l.stackTraces = false) (ht : 6 * t + 6 ≤ L) (tail : tailAt D cI cZ cL am ad o p l e s m below meth c b t) {E C D' T N : mT} {S : Nat → Int32} {f : Nat → Int64} {n np hr hg : Nat} (J : Jr n np hr hg E C D') : vV D (vtys cI cZ) (A0 s) 7 p l e room_1 s m #[Value.ref b] below meth c (45 + t) (968 + 6 * t) (lw_Z below #[Value.ref b] s) (wL cI cZ cL am ad o E C D' T N S f) (lLw b ad am o t) 223 [] := by
  obtain ⟨Cx, hK3, hx, hz, hX, hbl, hL⟩ := X
  have hA : ∀ q, s.heap.size ≤ q → A0 s q := fun _ h => h
  have hbA : ¬ A0 s b := Nat.not_le.mpr hbl
  have hcs : 45 + t ≤ room_1.cells ∧ 968 + 6 * t ≤ room_1.slots := ⟨by show _ ≤ 1071; omega, by show _ ≤ 9172; omega⟩
  have hi : ∀ k, k < 6 → vix (nI (6 * t) + nI k) L (6 * t + k) := fun k hk => by rw [nI_add]; exact vix_nI (by omega) (by omega)
  obtain ⟨ok, h1p, hLk, hhg, hgp, h200, R⟩ := id J
  obtain ⟨o1, o2, o3, o4, o5, o6⟩ := id ok
  by_cases hz3 : (xs (6 * t + 3)) = 0
  · refine vV_aload_n Cx 1 dL_law_223 rfl rfl ?_
    refine vV_aload_n Cx 0 dL_law_224 rfl rfl ?_
    refine vV_iload Cx dL_law_225 rfl ?_
    refine vV_iconst (v := nI 1) Cx dL_law_227 (by decide) ?_
    refine vV_iadd Cx dL_law_228 ?_
    refine vV_sld Cx hX hbl hbA (hi 1 (by decide)) dL_law_229 ?_
    refine vV_aload_n Cx 0 dL_law_230 rfl rfl ?_
    refine vV_iload Cx dL_law_231 rfl ?_
    refine vV_iconst (v := nI 2) Cx dL_law_233 (by decide) ?_
    refine vV_iadd Cx dL_law_234 ?_
    refine vV_sld Cx hX hbl hbA (hi 2 (by decide)) dL_law_235 ?_
    refine vV_aload_n Cx 0 dL_law_236 rfl rfl ?_
    refine vV_iload Cx dL_law_237 rfl ?_
    refine vV_iconst (v := nI 3) Cx dL_law_239 (by decide) ?_
    refine vV_iadd Cx dL_law_240 ?_
    refine vV_sld Cx hX hbl hbA (hi 3 (by decide)) dL_law_241 ?_
    refine vV_if_eq (tgt := 249) Cx dL_law_242 (by decide) (fun _ => ?_) (fun h => absurd hz3 h)
    refine vV_iconst (v := nI 0) Cx dL_law_249 (by decide) ?_
    refine vG_callVi Cx hA (wN cI cZ am E D' N) (wR cI cZ ad E C T S) [lO cL o f] rfl rfl (fun A => KX3_wind (xs (6 * t + 1)) (xs (6 * t + 2)) (nI 0)) (cwV 3 Cx.1.2.2.2.2 (uGV u1_200 u1_201 u1_202 u1_1 u1_203) rfl rfl rfl hdX3_wind ⟨(Nat.le_of_ble_eq_true rfl), (Nat.le_of_ble_eq_true rfl)⟩) 0 rfl rfl rfl rfl (Nat.le_of_ble_eq_true rfl) hcs dL_law_250 ?_
    refine vV_aload_n Cx 2 dL_law_253 rfl rfl ?_
    refine vV_aload_n Cx 0 dL_law_254 rfl rfl ?_
    refine vV_iload Cx dL_law_255 rfl ?_
    refine vV_iconst (v := nI 1) Cx dL_law_257 (by decide) ?_
    refine vV_iadd Cx dL_law_258 ?_
    refine vV_sld Cx hX hbl hbA (hi 1 (by decide)) dL_law_259 ?_
    refine vV_aload_n Cx 0 dL_law_260 rfl rfl ?_
    refine vV_iload Cx dL_law_261 rfl ?_
    refine vV_iconst (v := nI 2) Cx dL_law_263 (by decide) ?_
    refine vV_iadd Cx dL_law_264 ?_
    refine vV_sld Cx hX hbl hbA (hi 2 (by decide)) dL_law_265 ?_
    refine vV_aload_n Cx 0 dL_law_266 rfl rfl ?_
    refine vV_iload Cx dL_law_267 rfl ?_
    refine vV_iconst (v := nI 3) Cx dL_law_269 (by decide) ?_
    refine vV_iadd Cx dL_law_270 ?_
    refine vV_sld Cx hX hbl hbA (hi 3 (by decide)) dL_law_271 ?_
    refine vV_if_eq (tgt := 279) Cx dL_law_272 (by decide) (fun _ => ?_) (fun h => absurd hz3 h)
    refine vV_iconst (v := nI 0) Cx dL_law_279 (by decide) ?_
    refine vG_callVi Cx hA [] (wN cI cZ am E D' N) (wR cI cZ ad (e_wind E (xs (6 * t + 1)) (xs (6 * t + 2)) (nI 0)) C T S ++ [lO cL o f]) (List.nil_append _).symm (List.nil_append _) (fun A => KX4_wind (xs (6 * t + 1)) (xs (6 * t + 2)) (nI 0)) (cwV 3 Cx.1.2.2.2.2 (uGV u3_81 u3_82 u3_83 u1_7 u3_84) rfl rfl rfl hdX4_wind ⟨(Nat.le_of_ble_eq_true rfl), (Nat.le_of_ble_eq_true rfl)⟩) 0 rfl rfl rfl rfl (Nat.le_of_ble_eq_true rfl) hcs dL_law_280 ?_
    refine vV_icmp_eq (tgt := 764) Cx dL_law_283 (by decide) (fun _ => vV_widen (k := 45 + (t + 1)) (n := 968 + 6 * (t + 1)) (by omega) (by omega) ?_) (fun h => absurd (wind_eq _ _) h)
    rw [← ewind_eq]
    exact tail _ _ _ _ _ _ _ _ _ _ _ (J_wind J _ _ _)
  · refine vV_aload_n Cx 1 dL_law_223 rfl rfl ?_
    refine vV_aload_n Cx 0 dL_law_224 rfl rfl ?_
    refine vV_iload Cx dL_law_225 rfl ?_
    refine vV_iconst (v := nI 1) Cx dL_law_227 (by decide) ?_
    refine vV_iadd Cx dL_law_228 ?_
    refine vV_sld Cx hX hbl hbA (hi 1 (by decide)) dL_law_229 ?_
    refine vV_aload_n Cx 0 dL_law_230 rfl rfl ?_
    refine vV_iload Cx dL_law_231 rfl ?_
    refine vV_iconst (v := nI 2) Cx dL_law_233 (by decide) ?_
    refine vV_iadd Cx dL_law_234 ?_
    refine vV_sld Cx hX hbl hbA (hi 2 (by decide)) dL_law_235 ?_
    refine vV_aload_n Cx 0 dL_law_236 rfl rfl ?_
    refine vV_iload Cx dL_law_237 rfl ?_
    refine vV_iconst (v := nI 3) Cx dL_law_239 (by decide) ?_
    refine vV_iadd Cx dL_law_240 ?_
    refine vV_sld Cx hX hbl hbA (hi 3 (by decide)) dL_law_241 ?_
    refine vV_if_eq (tgt := 249) Cx dL_law_242 (by decide) (fun h => absurd h hz3) (fun _ => ?_)
    refine vV_iconst (v := nI 1) Cx dL_law_245 (by decide) ?_
    refine vV_goto (tgt := 250) Cx dL_law_246 (by decide) ?_
    refine vG_callVi Cx hA (wN cI cZ am E D' N) (wR cI cZ ad E C T S) [lO cL o f] rfl rfl (fun A => KX3_wind (xs (6 * t + 1)) (xs (6 * t + 2)) (nI 1)) (cwV 3 Cx.1.2.2.2.2 (uGV u1_200 u1_201 u1_202 u1_1 u1_203) rfl rfl rfl hdX3_wind ⟨(Nat.le_of_ble_eq_true rfl), (Nat.le_of_ble_eq_true rfl)⟩) 0 rfl rfl rfl rfl (Nat.le_of_ble_eq_true rfl) hcs dL_law_250 ?_
    refine vV_aload_n Cx 2 dL_law_253 rfl rfl ?_
    refine vV_aload_n Cx 0 dL_law_254 rfl rfl ?_
    refine vV_iload Cx dL_law_255 rfl ?_
    refine vV_iconst (v := nI 1) Cx dL_law_257 (by decide) ?_
    refine vV_iadd Cx dL_law_258 ?_
    refine vV_sld Cx hX hbl hbA (hi 1 (by decide)) dL_law_259 ?_
    refine vV_aload_n Cx 0 dL_law_260 rfl rfl ?_
    refine vV_iload Cx dL_law_261 rfl ?_
    refine vV_iconst (v := nI 2) Cx dL_law_263 (by decide) ?_
    refine vV_iadd Cx dL_law_264 ?_
    refine vV_sld Cx hX hbl hbA (hi 2 (by decide)) dL_law_265 ?_
    refine vV_aload_n Cx 0 dL_law_266 rfl rfl ?_
    refine vV_iload Cx dL_law_267 rfl ?_
    refine vV_iconst (v := nI 3) Cx dL_law_269 (by decide) ?_
    refine vV_iadd Cx dL_law_270 ?_
    refine vV_sld Cx hX hbl hbA (hi 3 (by decide)) dL_law_271 ?_
    refine vV_if_eq (tgt := 279) Cx dL_law_272 (by decide) (fun h => absurd h hz3) (fun _ => ?_)
    refine vV_iconst (v := nI 1) Cx dL_law_275 (by decide) ?_
    refine vV_goto (tgt := 280) Cx dL_law_276 (by decide) ?_
    refine vG_callVi Cx hA [] (wN cI cZ am E D' N) (wR cI cZ ad (e_wind E (xs (6 * t + 1)) (xs (6 * t + 2)) (nI 1)) C T S ++ [lO cL o f]) (List.nil_append _).symm (List.nil_append _) (fun A => KX4_wind (xs (6 * t + 1)) (xs (6 * t + 2)) (nI 1)) (cwV 3 Cx.1.2.2.2.2 (uGV u3_81 u3_82 u3_83 u1_7 u3_84) rfl rfl rfl hdX4_wind ⟨(Nat.le_of_ble_eq_true rfl), (Nat.le_of_ble_eq_true rfl)⟩) 0 rfl rfl rfl rfl (Nat.le_of_ble_eq_true rfl) hcs dL_law_280 ?_
    refine vV_icmp_eq (tgt := 764) Cx dL_law_283 (by decide) (fun _ => vV_widen (k := 45 + (t + 1)) (n := 968 + 6 * (t + 1)) (by omega) (by omega) ?_) (fun h => absurd (wind_eq _ _) h)
    rw [← ewind_eq]
    exact tail _ _ _ _ _ _ _ _ _ _ _ (J_wind J _ _ _)
set_option maxRecDepth 100000 in
set_option maxHeartbeats 1000000 in
theorem law_4 {D : va_G} {cI cZ cL : ClassId} {am ad : Nat → Nat} {o : Nat} {p : Program} {l : Launch} {e : Env} {s : State} {m : MethodId} {below : List Frame} {meth : Method} {c : Code} {b L t : Nat} {xs : Nat → Int32} (X : LX D cI cZ cL p s m c b L xs) (hl0 : l.stackTraces = false) (ht : 6 * t + 6 ≤ L) (tail : tailAt D cI cZ cL am ad o p l e s m below meth c b t) {E C D' T N : mT} {S : Nat → Int32} {f : Nat → Int64} {n np hr hg : Nat} (J : Jr n np hr hg E C D') : vV D (vtys cI cZ) (A0 s) 7 p l e room_1 s m #[Value.ref b] below meth c (45 + t) (968 + 6 * t) (lw_Z below #[Value.ref b] s) (wL cI cZ cL am ad o E C D' T N S f) (lLw b ad am o t) 288 [] := by
  obtain ⟨Cx, hK3, hx, hz, hX, hbl, hL⟩ := X
  have hA : ∀ q, s.heap.size ≤ q → A0 s q := fun _ h => h
  have hbA : ¬ A0 s b := Nat.not_le.mpr hbl
  have hcs : 45 + t ≤ room_1.cells ∧ 968 + 6 * t ≤ room_1.slots := ⟨by show _ ≤ 1071; omega, by show _ ≤ 9172; omega⟩
  have hi : ∀ k, k < 6 → vix (nI (6 * t) + nI k) L (6 * t + k) := fun k hk => by rw [nI_add]; exact vix_nI (by omega) (by omega)
  obtain ⟨ok, h1p, hLk, hhg, hgp, h200, R⟩ := id J
  obtain ⟨o1, o2, o3, o4, o5, o6⟩ := id ok
  refine vV_aload_n Cx 1 dL_law_288 rfl rfl ?_
  refine vV_aload_n Cx 0 dL_law_289 rfl rfl ?_
  refine vV_iload Cx dL_law_290 rfl ?_
  refine vV_iconst (v := nI 1) Cx dL_law_292 (by decide) ?_
  refine vV_iadd Cx dL_law_293 ?_
  refine vV_sld Cx hX hbl hbA (hi 1 (by decide)) dL_law_294 ?_
  refine vV_aload_n Cx 0 dL_law_295 rfl rfl ?_
  refine vV_iload Cx dL_law_296 rfl ?_
  refine vV_iconst (v := nI 2) Cx dL_law_298 (by decide) ?_
  refine vV_iadd Cx dL_law_299 ?_
  refine vV_sld Cx hX hbl hbA (hi 2 (by decide)) dL_law_300 ?_
  refine vV_aload_n Cx 0 dL_law_301 rfl rfl ?_
  refine vV_iload Cx dL_law_302 rfl ?_
  refine vV_iconst (v := nI 3) Cx dL_law_304 (by decide) ?_
  refine vV_iadd Cx dL_law_305 ?_
  refine vV_sld Cx hX hbl hbA (hi 3 (by decide)) dL_law_306 ?_
  refine vG_callVi Cx hA (wN cI cZ am E D' N) (wR cI cZ ad E C T S) [lO cL o f] rfl rfl (fun A => KX3_climber o1 o2 (xs (6 * t + 1)) (xs (6 * t + 2)) (xs (6 * t + 3))) (cwV 3 Cx.1.2.2.2.2 (uGV u1_204 u1_205 u1_206 u1_1 u1_207) rfl rfl rfl hdX3_climber ⟨(Nat.le_of_ble_eq_true rfl), (Nat.le_of_ble_eq_true rfl)⟩) 0 rfl rfl rfl rfl (Nat.le_of_ble_eq_true rfl) hcs dL_law_307 ?_
  refine vV_aload_n Cx 2 dL_law_310 rfl rfl ?_
  refine vV_aload_n Cx 0 dL_law_311 rfl rfl ?_
  refine vV_iload Cx dL_law_312 rfl ?_
  refine vV_iconst (v := nI 1) Cx dL_law_314 (by decide) ?_
  refine vV_iadd Cx dL_law_315 ?_
  refine vV_sld Cx hX hbl hbA (hi 1 (by decide)) dL_law_316 ?_
  refine vV_aload_n Cx 0 dL_law_317 rfl rfl ?_
  refine vV_iload Cx dL_law_318 rfl ?_
  refine vV_iconst (v := nI 2) Cx dL_law_320 (by decide) ?_
  refine vV_iadd Cx dL_law_321 ?_
  refine vV_sld Cx hX hbl hbA (hi 2 (by decide)) dL_law_322 ?_
  refine vV_aload_n Cx 0 dL_law_323 rfl rfl ?_
  refine vV_iload Cx dL_law_324 rfl ?_
  refine vV_iconst (v := nI 3) Cx dL_law_326 (by decide) ?_
  refine vV_iadd Cx dL_law_327 ?_
  refine vV_sld Cx hX hbl hbA (hi 3 (by decide)) dL_law_328 ?_
  refine vG_callVi Cx hA [] (wN cI cZ am E D' N) (wR cI cZ ad (if r_ok3 (xs (6 * t + 1)) (xs (6 * t + 2)) (xs (6 * t + 3)) = 0 ∨ ¬ n < 12 then E else e_join E n (xs (6 * t + 1)) (xs (6 * t + 2)) (xs (6 * t + 3))) (if r_ok3 (xs (6 * t + 1)) (xs (6 * t + 2)) (xs (6 * t + 3)) = 0 ∨ ¬ n < 12 then C else c_paf (e_join E n (xs (6 * t + 1)) (xs (6 * t + 2)) (xs (6 * t + 3))) n C) T S ++ [lO cL o f]) (List.nil_append _).symm (List.nil_append _) (fun A => KX4_climber o1 o2 (xs (6 * t + 1)) (xs (6 * t + 2)) (xs (6 * t + 3))) (cwV 3 Cx.1.2.2.2.2 (uGV u3_85 u3_86 u3_87 u1_7 u3_88) rfl rfl rfl hdX4_climber ⟨(Nat.le_of_ble_eq_true rfl), (Nat.le_of_ble_eq_true rfl)⟩) 0 rfl rfl rfl rfl (Nat.le_of_ble_eq_true rfl) hcs dL_law_329 ?_
  refine vV_icmp_eq (tgt := 764) Cx dL_law_332 (by decide) (fun _ => vV_widen (k := 45 + (t + 1)) (n := 968 + 6 * (t + 1)) (by omega) (by omega) ?_) (fun h => absurd (rfl) h)
  by_cases hv : r_ok3 (xs (6 * t + 1)) (xs (6 * t + 2)) (xs (6 * t + 3)) = 0 ∨ ¬ n < 12
  · simp only [if_pos hv]
    exact tail _ _ _ _ _ _ _ _ _ _ _ J
  · simp only [if_neg hv]
    exact tail _ _ _ _ _ _ _ _ _ _ _ (J_climber J hv)
set_option maxRecDepth 100000 in
set_option maxHeartbeats 1000000 in
theorem law_5 {D : va_G} {cI cZ cL : ClassId} {am ad : Nat → Nat} {o : Nat} {p : Program} {l : Launch} {e : Env} {s : State} {m : MethodId} {below : List Frame} {meth : Method} {c : Code} {b L t : Nat} {xs : Nat → Int32} (X : LX D cI cZ cL p s m c b L xs) (hl0 : l.stackTraces = false) (ht : 6 * t + 6 ≤ L) (tail : tailAt D cI cZ cL am ad o p l e s m below meth c b t) {E C D' T N : mT} {S : Nat → Int32} {f : Nat → Int64} {n np hr hg : Nat} (J : Jr n np hr hg E C D') : vV D (vtys cI cZ) (A0 s) 7 p l e room_1 s m #[Value.ref b] below meth c (45 + t) (968 + 6 * t) (lw_Z below #[Value.ref b] s) (wL cI cZ cL am ad o E C D' T N S f) (lLw b ad am o t) 337 [] := by
  obtain ⟨Cx, hK3, hx, hz, hX, hbl, hL⟩ := X
  have hA : ∀ q, s.heap.size ≤ q → A0 s q := fun _ h => h
  have hbA : ¬ A0 s b := Nat.not_le.mpr hbl
  have hcs : 45 + t ≤ room_1.cells ∧ 968 + 6 * t ≤ room_1.slots := ⟨by show _ ≤ 1071; omega, by show _ ≤ 9172; omega⟩
  have hi : ∀ k, k < 6 → vix (nI (6 * t) + nI k) L (6 * t + k) := fun k hk => by rw [nI_add]; exact vix_nI (by omega) (by omega)
  obtain ⟨ok, h1p, hLk, hhg, hgp, h200, R⟩ := id J
  obtain ⟨o1, o2, o3, o4, o5, o6⟩ := id ok
  refine vV_aload_n Cx 1 dL_law_337 rfl rfl ?_
  refine vV_aload_n Cx 0 dL_law_338 rfl rfl ?_
  refine vV_iload Cx dL_law_339 rfl ?_
  refine vV_iconst (v := nI 1) Cx dL_law_341 (by decide) ?_
  refine vV_iadd Cx dL_law_342 ?_
  refine vV_sld Cx hX hbl hbA (hi 1 (by decide)) dL_law_343 ?_
  refine vV_aload_n Cx 0 dL_law_344 rfl rfl ?_
  refine vV_iload Cx dL_law_345 rfl ?_
  refine vV_iconst (v := nI 2) Cx dL_law_347 (by decide) ?_
  refine vV_iadd Cx dL_law_348 ?_
  refine vV_sld Cx hX hbl hbA (hi 2 (by decide)) dL_law_349 ?_
  refine vV_aload_n Cx 0 dL_law_350 rfl rfl ?_
  refine vV_iload Cx dL_law_351 rfl ?_
  refine vV_iconst (v := nI 3) Cx dL_law_353 (by decide) ?_
  refine vV_iadd Cx dL_law_354 ?_
  refine vV_sld Cx hX hbl hbA (hi 3 (by decide)) dL_law_355 ?_
  refine vG_callVi Cx hA (wN cI cZ am E D' N) (wR cI cZ ad E C T S) [lO cL o f] rfl rfl (fun A => KX3_team (xs (6 * t + 1)) (xs (6 * t + 2)) (xs (6 * t + 3))) (cwV 3 Cx.1.2.2.2.2 (uGV u1_213 u1_214 u1_215 u1_1 u1_216) rfl rfl rfl hdX3_team ⟨(Nat.le_of_ble_eq_true rfl), (Nat.le_of_ble_eq_true rfl)⟩) 0 rfl rfl rfl rfl (Nat.le_of_ble_eq_true rfl) hcs dL_law_356 ?_
  refine vV_aload_n Cx 2 dL_law_359 rfl rfl ?_
  refine vV_aload_n Cx 0 dL_law_360 rfl rfl ?_
  refine vV_iload Cx dL_law_361 rfl ?_
  refine vV_iconst (v := nI 1) Cx dL_law_363 (by decide) ?_
  refine vV_iadd Cx dL_law_364 ?_
  refine vV_sld Cx hX hbl hbA (hi 1 (by decide)) dL_law_365 ?_
  refine vV_aload_n Cx 0 dL_law_366 rfl rfl ?_
  refine vV_iload Cx dL_law_367 rfl ?_
  refine vV_iconst (v := nI 2) Cx dL_law_369 (by decide) ?_
  refine vV_iadd Cx dL_law_370 ?_
  refine vV_sld Cx hX hbl hbA (hi 2 (by decide)) dL_law_371 ?_
  refine vV_aload_n Cx 0 dL_law_372 rfl rfl ?_
  refine vV_iload Cx dL_law_373 rfl ?_
  refine vV_iconst (v := nI 3) Cx dL_law_375 (by decide) ?_
  refine vV_iadd Cx dL_law_376 ?_
  refine vV_sld Cx hX hbl hbA (hi 3 (by decide)) dL_law_377 ?_
  refine vG_callVi Cx hA [] (wN cI cZ am E D' N) (wR cI cZ ad (e_team E (xs (6 * t + 1)) (xs (6 * t + 2)) (xs (6 * t + 3))) C T S ++ [lO cL o f]) (List.nil_append _).symm (List.nil_append _) (fun A => KX4_team (xs (6 * t + 1)) (xs (6 * t + 2)) (xs (6 * t + 3))) (cwV 3 Cx.1.2.2.2.2 (uGV u3_89 u3_90 u3_91 u1_7 u3_92) rfl rfl rfl hdX4_team ⟨(Nat.le_of_ble_eq_true rfl), (Nat.le_of_ble_eq_true rfl)⟩) 0 rfl rfl rfl rfl (Nat.le_of_ble_eq_true rfl) hcs dL_law_378 ?_
  refine vV_icmp_eq (tgt := 764) Cx dL_law_381 (by decide) (fun _ => vV_widen (k := 45 + (t + 1)) (n := 968 + 6 * (t + 1)) (by omega) (by omega) ?_) (fun h => absurd (rfl) h)
  exact tail _ _ _ _ _ _ _ _ _ _ _ (J_team J _ _ _)
set_option maxRecDepth 100000 in
set_option maxHeartbeats 1000000 in
theorem law_6 {D : va_G} {cI cZ cL : ClassId} {am ad : Nat → Nat} {o : Nat} {p : Program} {l : Launch} {e : Env} {s : State} {m : MethodId} {below : List Frame} {meth : Method} {c : Code} {b L t : Nat} {xs : Nat → Int32} (X : LX D cI cZ cL p s m c b L xs) (hl0 : l.stackTraces = false) (ht : 6 * t + 6 ≤ L) (tail : tailAt D cI cZ cL am ad o p l e s m below meth c b t) {E C D' T N : mT} {S : Nat → Int32} {f : Nat → Int64} {n np hr hg : Nat} (J : Jr n np hr hg E C D') : vV D (vtys cI cZ) (A0 s) 7 p l e room_1 s m #[Value.ref b] below meth c (45 + t) (968 + 6 * t) (lw_Z below #[Value.ref b] s) (wL cI cZ cL am ad o E C D' T N S f) (lLw b ad am o t) 386 [] := by
  obtain ⟨Cx, hK3, hx, hz, hX, hbl, hL⟩ := X
  have hA : ∀ q, s.heap.size ≤ q → A0 s q := fun _ h => h
  have hbA : ¬ A0 s b := Nat.not_le.mpr hbl
  have hcs : 45 + t ≤ room_1.cells ∧ 968 + 6 * t ≤ room_1.slots := ⟨by show _ ≤ 1071; omega, by show _ ≤ 9172; omega⟩
  have hi : ∀ k, k < 6 → vix (nI (6 * t) + nI k) L (6 * t + k) := fun k hk => by rw [nI_add]; exact vix_nI (by omega) (by omega)
  obtain ⟨ok, h1p, hLk, hhg, hgp, h200, R⟩ := id J
  obtain ⟨o1, o2, o3, o4, o5, o6⟩ := id ok
  refine vV_aload_n Cx 1 dL_law_386 rfl rfl ?_
  refine vG_callVi Cx hA (wN cI cZ am E D' N) (wR cI cZ ad E C T S) [lO cL o f] rfl rfl (fun A => KX3_begin o1 o2) (cwV 0 Cx.1.2.2.2.2 (uGV u1_217 u1_218 u1_219 u1_1 u1_220) rfl rfl rfl hdX3_begin ⟨(Nat.le_of_ble_eq_true rfl), (Nat.le_of_ble_eq_true rfl)⟩) 0 rfl rfl rfl rfl (Nat.le_of_ble_eq_true rfl) hcs dL_law_387 ?_
  refine vV_aload_n Cx 2 dL_law_390 rfl rfl ?_
  refine vG_callVi Cx hA [] (wN cI cZ am E D' N) (wR cI cZ ad E (c_reset E n C) T S ++ [lO cL o f]) (List.nil_append _).symm (List.nil_append _) (fun A => KX4_begin o1 o2) (cwV 0 Cx.1.2.2.2.2 (uGV u3_93 u3_94 u3_95 u1_7 u3_96) rfl rfl rfl hdX4_begin ⟨(Nat.le_of_ble_eq_true rfl), (Nat.le_of_ble_eq_true rfl)⟩) 0 rfl rfl rfl rfl (Nat.le_of_ble_eq_true rfl) hcs dL_law_391 ?_
  refine vV_icmp_eq (tgt := 764) Cx dL_law_394 (by decide) (fun _ => vV_widen (k := 45 + (t + 1)) (n := 968 + 6 * (t + 1)) (by omega) (by omega) ?_) (fun h => absurd (rfl) h)
  exact tail _ _ _ _ _ _ _ _ _ _ _ (J_begin J)
set_option maxRecDepth 100000 in
set_option maxHeartbeats 1000000 in
theorem law_7 {D : va_G} {cI cZ cL : ClassId} {am ad : Nat → Nat} {o : Nat} {p : Program} {l : Launch} {e : Env} {s : State} {m : MethodId} {below : List Frame} {meth : Method} {c : Code} {b L t : Nat} {xs : Nat → Int32} (X : LX D cI cZ cL p s m c b L xs) (hl0 : l.stackTraces = false) (ht : 6 * t + 6 ≤ L) (tail : tailAt D cI cZ cL am ad o p l e s m below meth c b t) {E C D' T N : mT} {S : Nat → Int32} {f : Nat → Int64} {n np hr hg : Nat} (J : Jr n np hr hg E C D') : vV D (vtys cI cZ) (A0 s) 7 p l e room_1 s m #[Value.ref b] below meth c (45 + t) (968 + 6 * t) (lw_Z below #[Value.ref b] s) (wL cI cZ cL am ad o E C D' T N S f) (lLw b ad am o t) 399 [] := by
  obtain ⟨Cx, hK3, hx, hz, hX, hbl, hL⟩ := X
  have hA : ∀ q, s.heap.size ≤ q → A0 s q := fun _ h => h
  have hbA : ¬ A0 s b := Nat.not_le.mpr hbl
  have hcs : 45 + t ≤ room_1.cells ∧ 968 + 6 * t ≤ room_1.slots := ⟨by show _ ≤ 1071; omega, by show _ ≤ 9172; omega⟩
  have hi : ∀ k, k < 6 → vix (nI (6 * t) + nI k) L (6 * t + k) := fun k hk => by rw [nI_add]; exact vix_nI (by omega) (by omega)
  obtain ⟨ok, h1p, hLk, hhg, hgp, h200, R⟩ := id J
  obtain ⟨o1, o2, o3, o4, o5, o6⟩ := id ok
  refine vV_aload_n Cx 1 dL_law_399 rfl rfl ?_
  refine vV_aload_n Cx 0 dL_law_400 rfl rfl ?_
  refine vV_iload Cx dL_law_401 rfl ?_
  refine vV_iconst (v := nI 1) Cx dL_law_403 (by decide) ?_
  refine vV_iadd Cx dL_law_404 ?_
  refine vV_sld Cx hX hbl hbA (hi 1 (by decide)) dL_law_405 ?_
  refine vG_callVi Cx hA (wN cI cZ am E D' N) (wR cI cZ ad E C T S) [lO cL o f] rfl rfl (fun A => KX3_run o1 o2 o3 o4 o5 o6 (xs (6 * t + 1))) (cwV 1 Cx.1.2.2.2.2 (uGV u1_221 u1_222 u1_223 u1_1 u1_224) rfl rfl rfl hdX3_run ⟨(Nat.le_of_ble_eq_true rfl), (Nat.le_of_ble_eq_true rfl)⟩) 0 rfl rfl rfl rfl (Nat.le_of_ble_eq_true rfl) hcs dL_law_406 ?_
  refine vV_aload_n Cx 2 dL_law_409 rfl rfl ?_
  refine vV_aload_n Cx 0 dL_law_410 rfl rfl ?_
  refine vV_iload Cx dL_law_411 rfl ?_
  refine vV_iconst (v := nI 1) Cx dL_law_413 (by decide) ?_
  refine vV_iadd Cx dL_law_414 ?_
  refine vV_sld Cx hX hbl hbA (hi 1 (by decide)) dL_law_415 ?_
  refine vG_callVi Cx hA [] (wN cI cZ am E D' N) (wR cI cZ ad E (e_run E n np (xs (6 * t + 1)) C) T S ++ [lO cL o f]) (List.nil_append _).symm (List.nil_append _) (fun A => KX4_run o1 o2 o3 o4 o5 o6 (J_h90 J) (xs (6 * t + 1))) (cwV 1 Cx.1.2.2.2.2 (uGV u3_97 u3_98 u3_99 u1_7 u3_100) rfl rfl rfl hdX4_run ⟨(Nat.le_of_ble_eq_true rfl), (Nat.le_of_ble_eq_true rfl)⟩) 0 rfl rfl rfl rfl (Nat.le_of_ble_eq_true rfl) hcs dL_law_416 ?_
  refine vV_icmp_eq (tgt := 764) Cx dL_law_419 (by decide) (fun _ => vV_widen (k := 45 + (t + 1)) (n := 968 + 6 * (t + 1)) (by omega) (by omega) ?_) (fun h => absurd ((J_run J _).1) h)
  obtain ⟨hr2, J2⟩ := (J_run J (xs (6 * t + 1))).2
  exact tail _ _ _ _ _ _ _ _ _ _ _ J2
set_option maxRecDepth 100000 in
set_option maxHeartbeats 1000000 in
theorem law_8 {D : va_G} {cI cZ cL : ClassId} {am ad : Nat → Nat} {o : Nat} {p : Program} {l : Launch} {e : Env} {s : State} {m : MethodId} {below : List Frame} {meth : Method} {c : Code} {b L t : Nat} {xs : Nat → Int32} (X : LX D cI cZ cL p s m c b L xs) (hl0 : l.stackTraces = false) (ht : 6 * t + 6 ≤ L) (tail : tailAt D cI cZ cL am ad o p l e s m below meth c b t) {E C D' T N : mT} {S : Nat → Int32} {f : Nat → Int64} {n np hr hg : Nat} (J : Jr n np hr hg E C D') : vV D (vtys cI cZ) (A0 s) 7 p l e room_1 s m #[Value.ref b] below meth c (45 + t) (968 + 6 * t) (lw_Z below #[Value.ref b] s) (wL cI cZ cL am ad o E C D' T N S f) (lLw b ad am o t) 424 [] := by
  obtain ⟨Cx, hK3, hx, hz, hX, hbl, hL⟩ := X
  have hA : ∀ q, s.heap.size ≤ q → A0 s q := fun _ h => h
  have hbA : ¬ A0 s b := Nat.not_le.mpr hbl
  have hcs : 45 + t ≤ room_1.cells ∧ 968 + 6 * t ≤ room_1.slots := ⟨by show _ ≤ 1071; omega, by show _ ≤ 9172; omega⟩
  have hi : ∀ k, k < 6 → vix (nI (6 * t) + nI k) L (6 * t + k) := fun k hk => by rw [nI_add]; exact vix_nI (by omega) (by omega)
  obtain ⟨ok, h1p, hLk, hhg, hgp, h200, R⟩ := id J
  obtain ⟨o1, o2, o3, o4, o5, o6⟩ := id ok
  refine vV_aload_n Cx 1 dL_law_424 rfl rfl ?_
  refine vV_aload_n Cx 0 dL_law_425 rfl rfl ?_
  refine vV_iload Cx dL_law_426 rfl ?_
  refine vV_iconst (v := nI 1) Cx dL_law_428 (by decide) ?_
  refine vV_iadd Cx dL_law_429 ?_
  refine vV_sld Cx hX hbl hbA (hi 1 (by decide)) dL_law_430 ?_
  refine vG_callVi Cx hA (wN cI cZ am E D' N) (wR cI cZ ad E C T S) [lO cL o f] rfl rfl (fun A => KX3_count o1 o2 (xs (6 * t + 1))) (cwV 1 Cx.1.2.2.2.2 (uGV u2_36 u2_37 u2_38 u1_1 u2_39) rfl rfl rfl hdX3_count ⟨(Nat.le_of_ble_eq_true rfl), (Nat.le_of_ble_eq_true rfl)⟩) 0 rfl rfl rfl rfl (Nat.le_of_ble_eq_true rfl) hcs dL_law_431 ?_
  refine vV_aload_n Cx 2 dL_law_434 rfl rfl ?_
  refine vV_aload_n Cx 0 dL_law_435 rfl rfl ?_
  refine vV_iload Cx dL_law_436 rfl ?_
  refine vV_iconst (v := nI 1) Cx dL_law_438 (by decide) ?_
  refine vV_iadd Cx dL_law_439 ?_
  refine vV_sld Cx hX hbl hbA (hi 1 (by decide)) dL_law_440 ?_
  refine vG_callVi Cx hA [] (wN cI cZ am E D' N) (wR cI cZ ad E C T S ++ [lO cL o f]) (List.nil_append _).symm (List.nil_append _) (fun A => KX4_count o1 o2 (xs (6 * t + 1))) (cwV 1 Cx.1.2.2.2.2 (uGV u3_142 u3_143 u3_144 u1_7 u3_145) rfl rfl rfl hdX4_count ⟨(Nat.le_of_ble_eq_true rfl), (Nat.le_of_ble_eq_true rfl)⟩) 0 rfl rfl rfl rfl (Nat.le_of_ble_eq_true rfl) hcs dL_law_441 ?_
  refine vV_icmp_eq (tgt := 764) Cx dL_law_444 (by decide) (fun _ => vV_widen (k := 45 + (t + 1)) (n := 968 + 6 * (t + 1)) (by omega) (by omega) ?_) (fun h => absurd (count_eq R _) h)
  exact tail _ _ _ _ _ _ _ _ _ _ _ J
set_option maxRecDepth 100000 in
set_option maxHeartbeats 1000000 in
theorem law_10 {D : va_G} {cI cZ cL : ClassId} {am ad : Nat → Nat} {o : Nat} {p : Program} {l : Launch} {e : Env} {s : State} {m : MethodId} {below : List Frame} {meth : Method} {c : Code} {b L t : Nat} {xs : Nat → Int32} (X : LX D cI cZ cL p s m c b L xs) (hl0 : l.stackTraces = false) (ht : 6 * t + 6 ≤ L) (tail : tailAt D cI cZ cL am ad o p l e s m below meth c b t) {E C D' T N : mT} {S : Nat → Int32} {f : Nat → Int64} {n np hr hg : Nat} (J : Jr n np hr hg E C D') : vV D (vtys cI cZ) (A0 s) 7 p l e room_1 s m #[Value.ref b] below meth c (45 + t) (968 + 6 * t) (lw_Z below #[Value.ref b] s) (wL cI cZ cL am ad o E C D' T N S f) (lLw b ad am o t) 517 [] := by
  obtain ⟨Cx, hK3, hx, hz, hX, hbl, hL⟩ := X
  have hA : ∀ q, s.heap.size ≤ q → A0 s q := fun _ h => h
  have hbA : ¬ A0 s b := Nat.not_le.mpr hbl
  have hcs : 45 + t ≤ room_1.cells ∧ 968 + 6 * t ≤ room_1.slots := ⟨by show _ ≤ 1071; omega, by show _ ≤ 9172; omega⟩
  have hi : ∀ k, k < 6 → vix (nI (6 * t) + nI k) L (6 * t + k) := fun k hk => by rw [nI_add]; exact vix_nI (by omega) (by omega)
  obtain ⟨ok, h1p, hLk, hhg, hgp, h200, R⟩ := id J
  obtain ⟨o1, o2, o3, o4, o5, o6⟩ := id ok
  refine vV_aload_n Cx 1 dL_law_517 rfl rfl ?_
  refine vV_aload_n Cx 0 dL_law_518 rfl rfl ?_
  refine vV_iload Cx dL_law_519 rfl ?_
  refine vV_iconst (v := nI 1) Cx dL_law_521 (by decide) ?_
  refine vV_iadd Cx dL_law_522 ?_
  refine vV_sld Cx hX hbl hbA (hi 1 (by decide)) dL_law_523 ?_
  refine vG_callVi Cx hA (wN cI cZ am E D' N) (wR cI cZ ad E C T S) [lO cL o f] rfl rfl (fun A => KX3_on o1 o2 (xs (6 * t + 1))) (cwV 1 Cx.1.2.2.2.2 (uGV u2_52 u2_53 u2_54 u1_1 u2_55) rfl rfl rfl hdX3_on ⟨(Nat.le_of_ble_eq_true rfl), (Nat.le_of_ble_eq_true rfl)⟩) 0 rfl rfl rfl rfl (Nat.le_of_ble_eq_true rfl) hcs dL_law_524 ?_
  refine vV_aload_n Cx 2 dL_law_527 rfl rfl ?_
  refine vV_aload_n Cx 0 dL_law_528 rfl rfl ?_
  refine vV_iload Cx dL_law_529 rfl ?_
  refine vV_iconst (v := nI 1) Cx dL_law_531 (by decide) ?_
  refine vV_iadd Cx dL_law_532 ?_
  refine vV_sld Cx hX hbl hbA (hi 1 (by decide)) dL_law_533 ?_
  refine vG_callVi Cx hA [] (wN cI cZ am E D' N) (wR cI cZ ad E C T S ++ [lO cL o f]) (List.nil_append _).symm (List.nil_append _) (fun A => KX4_on o1 o2 (xs (6 * t + 1))) (cwV 1 Cx.1.2.2.2.2 (uGV u3_162 u3_163 u3_164 u1_7 u3_165) rfl rfl rfl hdX4_on ⟨(Nat.le_of_ble_eq_true rfl), (Nat.le_of_ble_eq_true rfl)⟩) 0 rfl rfl rfl rfl (Nat.le_of_ble_eq_true rfl) hcs dL_law_534 ?_
  refine vV_icmp_eq (tgt := 764) Cx dL_law_537 (by decide) (fun _ => vV_widen (k := 45 + (t + 1)) (n := 968 + 6 * (t + 1)) (by omega) (by omega) ?_) (fun h => absurd (by unfold ma_on; rw [on_eq R]) h)
  exact tail _ _ _ _ _ _ _ _ _ _ _ J
set_option maxRecDepth 100000 in
set_option maxHeartbeats 1000000 in
theorem law_11 {D : va_G} {cI cZ cL : ClassId} {am ad : Nat → Nat} {o : Nat} {p : Program} {l : Launch} {e : Env} {s : State} {m : MethodId} {below : List Frame} {meth : Method} {c : Code} {b L t : Nat} {xs : Nat → Int32} (X : LX D cI cZ cL p s m c b L xs) (hl0 : l.stackTraces = false) (ht : 6 * t + 6 ≤ L) (tail : tailAt D cI cZ cL am ad o p l e s m below meth c b t) {E C D' T N : mT} {S : Nat → Int32} {f : Nat → Int64} {n np hr hg : Nat} (J : Jr n np hr hg E C D') : vV D (vtys cI cZ) (A0 s) 7 p l e room_1 s m #[Value.ref b] below meth c (45 + t) (968 + 6 * t) (lw_Z below #[Value.ref b] s) (wL cI cZ cL am ad o E C D' T N S f) (lLw b ad am o t) 542 [] := by
  obtain ⟨Cx, hK3, hx, hz, hX, hbl, hL⟩ := X
  have hA : ∀ q, s.heap.size ≤ q → A0 s q := fun _ h => h
  have hbA : ¬ A0 s b := Nat.not_le.mpr hbl
  have hcs : 45 + t ≤ room_1.cells ∧ 968 + 6 * t ≤ room_1.slots := ⟨by show _ ≤ 1071; omega, by show _ ≤ 9172; omega⟩
  have hi : ∀ k, k < 6 → vix (nI (6 * t) + nI k) L (6 * t + k) := fun k hk => by rw [nI_add]; exact vix_nI (by omega) (by omega)
  obtain ⟨ok, h1p, hLk, hhg, hgp, h200, R⟩ := id J
  obtain ⟨o1, o2, o3, o4, o5, o6⟩ := id ok
  refine vV_aload_n Cx 1 dL_law_542 rfl rfl ?_
  refine vV_aload_n Cx 0 dL_law_543 rfl rfl ?_
  refine vV_iload Cx dL_law_544 rfl ?_
  refine vV_iconst (v := nI 1) Cx dL_law_546 (by decide) ?_
  refine vV_iadd Cx dL_law_547 ?_
  refine vV_sld Cx hX hbl hbA (hi 1 (by decide)) dL_law_548 ?_
  refine vG_callVi Cx hA (wN cI cZ am E D' N) (wR cI cZ ad E C T S) [lO cL o f] rfl rfl (fun A => KX3_at o1 o2 (xs (6 * t + 1))) (cwV 1 Cx.1.2.2.2.2 (uGV u2_60 u2_61 u2_62 u1_1 u2_63) rfl rfl rfl hdX3_at ⟨(Nat.le_of_ble_eq_true rfl), (Nat.le_of_ble_eq_true rfl)⟩) 0 rfl rfl rfl rfl (Nat.le_of_ble_eq_true rfl) hcs dL_law_549 ?_
  refine vV_aload_n Cx 2 dL_law_552 rfl rfl ?_
  refine vV_aload_n Cx 0 dL_law_553 rfl rfl ?_
  refine vV_iload Cx dL_law_554 rfl ?_
  refine vV_iconst (v := nI 1) Cx dL_law_556 (by decide) ?_
  refine vV_iadd Cx dL_law_557 ?_
  refine vV_sld Cx hX hbl hbA (hi 1 (by decide)) dL_law_558 ?_
  refine vG_callVi Cx hA [] (wN cI cZ am E D' N) (wR cI cZ ad E C T S ++ [lO cL o f]) (List.nil_append _).symm (List.nil_append _) (fun A => KX4_at o1 o2 (xs (6 * t + 1))) (cwV 1 Cx.1.2.2.2.2 (uGV u3_166 u3_167 u3_168 u1_7 u3_169) rfl rfl rfl hdX4_at ⟨(Nat.le_of_ble_eq_true rfl), (Nat.le_of_ble_eq_true rfl)⟩) 0 rfl rfl rfl rfl (Nat.le_of_ble_eq_true rfl) hcs dL_law_559 ?_
  refine vV_icmp_eq (tgt := 764) Cx dL_law_562 (by decide) (fun _ => vV_widen (k := 45 + (t + 1)) (n := 968 + 6 * (t + 1)) (by omega) (by omega) ?_) (fun h => absurd (by unfold ma_at; rw [atC_eq R.1.1]) h)
  exact tail _ _ _ _ _ _ _ _ _ _ _ J
set_option maxRecDepth 100000 in
set_option maxHeartbeats 1000000 in
theorem law_12 {D : va_G} {cI cZ cL : ClassId} {am ad : Nat → Nat} {o : Nat} {p : Program} {l : Launch} {e : Env} {s : State} {m : MethodId} {below : List Frame} {meth : Method} {c : Code} {b L t : Nat} {xs : Nat → Int32} (X : LX D cI cZ cL p s m c b L xs) (hl0 : l.stackTraces = false) (ht : 6 * t + 6 ≤ L) (tail : tailAt D cI cZ cL am ad o p l e s m below meth c b t) {E C D' T N : mT} {S : Nat → Int32} {f : Nat → Int64} {n np hr hg : Nat} (J : Jr n np hr hg E C D') : vV D (vtys cI cZ) (A0 s) 7 p l e room_1 s m #[Value.ref b] below meth c (45 + t) (968 + 6 * t) (lw_Z below #[Value.ref b] s) (wL cI cZ cL am ad o E C D' T N S f) (lLw b ad am o t) 567 [] := by
  obtain ⟨Cx, hK3, hx, hz, hX, hbl, hL⟩ := X
  have hA : ∀ q, s.heap.size ≤ q → A0 s q := fun _ h => h
  have hbA : ¬ A0 s b := Nat.not_le.mpr hbl
  have hcs : 45 + t ≤ room_1.cells ∧ 968 + 6 * t ≤ room_1.slots := ⟨by show _ ≤ 1071; omega, by show _ ≤ 9172; omega⟩
  have hi : ∀ k, k < 6 → vix (nI (6 * t) + nI k) L (6 * t + k) := fun k hk => by rw [nI_add]; exact vix_nI (by omega) (by omega)
  obtain ⟨ok, h1p, hLk, hhg, hgp, h200, R⟩ := id J
  obtain ⟨o1, o2, o3, o4, o5, o6⟩ := id ok
  refine vV_aload_n Cx 1 dL_law_567 rfl rfl ?_
  refine vV_aload_n Cx 0 dL_law_568 rfl rfl ?_
  refine vV_iload Cx dL_law_569 rfl ?_
  refine vV_iconst (v := nI 1) Cx dL_law_571 (by decide) ?_
  refine vV_iadd Cx dL_law_572 ?_
  refine vV_sld Cx hX hbl hbA (hi 1 (by decide)) dL_law_573 ?_
  refine vG_callVi Cx hA (wN cI cZ am E D' N) (wR cI cZ ad E C T S) [lO cL o f] rfl rfl (fun A => KX3_fetch o1 o2 (J_cmC J) hhg (by omega) (xs (6 * t + 1))) (cwV 1 Cx.1.2.2.2.2 (uGV u2_68 u2_69 u2_70 u1_1 u2_71) rfl rfl rfl hdX3_fetch ⟨(Nat.le_of_ble_eq_true rfl), (Nat.le_of_ble_eq_true rfl)⟩) 0 rfl rfl rfl rfl (Nat.le_of_ble_eq_true rfl) hcs dL_law_574 ?_
  refine vV_aload_n Cx 2 dL_law_577 rfl rfl ?_
  refine vV_aload_n Cx 0 dL_law_578 rfl rfl ?_
  refine vV_iload Cx dL_law_579 rfl ?_
  refine vV_iconst (v := nI 1) Cx dL_law_581 (by decide) ?_
  refine vV_iadd Cx dL_law_582 ?_
  refine vV_sld Cx hX hbl hbA (hi 1 (by decide)) dL_law_583 ?_
  refine vG_callVi Cx hA [] (wN cI cZ am E D' N) (wR cI cZ ad E C T S ++ [lO cL o f]) (List.nil_append _).symm (List.nil_append _) (fun A => KX4_fetch o1 o2 (J_cmD J) (xs (6 * t + 1))) (cwV 1 Cx.1.2.2.2.2 (uGV u3_170 u3_171 u3_172 u1_7 u3_173) rfl rfl rfl hdX4_fetch ⟨(Nat.le_of_ble_eq_true rfl), (Nat.le_of_ble_eq_true rfl)⟩) 0 rfl rfl rfl rfl (Nat.le_of_ble_eq_true rfl) hcs dL_law_584 ?_
  refine vV_icmp_eq (tgt := 764) Cx dL_law_587 (by decide) (fun _ => vV_widen (k := 45 + (t + 1)) (n := 968 + 6 * (t + 1)) (by omega) (by omega) ?_) (fun h => absurd (fetch_eq o2 o5 o1 hhg (by omega) R _) h)
  exact tail _ _ _ _ _ _ _ _ _ _ _ J
set_option maxRecDepth 100000 in
set_option maxHeartbeats 1000000 in
theorem law_13 {D : va_G} {cI cZ cL : ClassId} {am ad : Nat → Nat} {o : Nat} {p : Program} {l : Launch} {e : Env} {s : State} {m : MethodId} {below : List Frame} {meth : Method} {c : Code} {b L t : Nat} {xs : Nat → Int32} (X : LX D cI cZ cL p s m c b L xs) (hl0 : l.stackTraces = false) (ht : 6 * t + 6 ≤ L) (tail : tailAt D cI cZ cL am ad o p l e s m below meth c b t) {E C D' T N : mT} {S : Nat → Int32} {f : Nat → Int64} {n np hr hg : Nat} (J : Jr n np hr hg E C D') : vV D (vtys cI cZ) (A0 s) 7 p l e room_1 s m #[Value.ref b] below meth c (45 + t) (968 + 6 * t) (lw_Z below #[Value.ref b] s) (wL cI cZ cL am ad o E C D' T N S f) (lLw b ad am o t) 592 [] := by
  obtain ⟨Cx, hK3, hx, hz, hX, hbl, hL⟩ := X
  have hA : ∀ q, s.heap.size ≤ q → A0 s q := fun _ h => h
  have hbA : ¬ A0 s b := Nat.not_le.mpr hbl
  have hcs : 45 + t ≤ room_1.cells ∧ 968 + 6 * t ≤ room_1.slots := ⟨by show _ ≤ 1071; omega, by show _ ≤ 9172; omega⟩
  have hi : ∀ k, k < 6 → vix (nI (6 * t) + nI k) L (6 * t + k) := fun k hk => by rw [nI_add]; exact vix_nI (by omega) (by omega)
  obtain ⟨ok, h1p, hLk, hhg, hgp, h200, R⟩ := id J
  obtain ⟨o1, o2, o3, o4, o5, o6⟩ := id ok
  refine vV_aload_n Cx 1 dL_law_592 rfl rfl ?_
  refine vV_aload_n Cx 0 dL_law_593 rfl rfl ?_
  refine vV_iload Cx dL_law_594 rfl ?_
  refine vV_iconst (v := nI 1) Cx dL_law_596 (by decide) ?_
  refine vV_iadd Cx dL_law_597 ?_
  refine vV_sld Cx hX hbl hbA (hi 1 (by decide)) dL_law_598 ?_
  refine vV_aload_n Cx 0 dL_law_599 rfl rfl ?_
  refine vV_iload Cx dL_law_600 rfl ?_
  refine vV_iconst (v := nI 2) Cx dL_law_602 (by decide) ?_
  refine vV_iadd Cx dL_law_603 ?_
  refine vV_sld Cx hX hbl hbA (hi 2 (by decide)) dL_law_604 ?_
  refine vV_aload_n Cx 0 dL_law_605 rfl rfl ?_
  refine vV_iload Cx dL_law_606 rfl ?_
  refine vV_iconst (v := nI 3) Cx dL_law_608 (by decide) ?_
  refine vV_iadd Cx dL_law_609 ?_
  refine vV_sld Cx hX hbl hbA (hi 3 (by decide)) dL_law_610 ?_
  refine vV_aload_n Cx 0 dL_law_611 rfl rfl ?_
  refine vV_iload Cx dL_law_612 rfl ?_
  refine vV_iconst (v := nI 4) Cx dL_law_614 (by decide) ?_
  refine vV_iadd Cx dL_law_615 ?_
  refine vV_sld Cx hX hbl hbA (hi 4 (by decide)) dL_law_616 ?_
  refine vV_aload_n Cx 0 dL_law_617 rfl rfl ?_
  refine vV_iload Cx dL_law_618 rfl ?_
  refine vV_iconst (v := nI 5) Cx dL_law_620 (by decide) ?_
  refine vV_iadd Cx dL_law_621 ?_
  refine vV_sld Cx hX hbl hbA (hi 5 (by decide)) dL_law_622 ?_
  refine vG_callVi Cx hA (wN cI cZ am E D' N) (wR cI cZ ad E C T S) [lO cL o f] rfl rfl (fun A => KX3_tries o1 o2 o3 o4 o5 o6 (xs (6 * t + 1)) (xs (6 * t + 2)) (xs (6 * t + 3)) (xs (6 * t + 4)) (xs (6 * t + 5))) (cwV 5 Cx.1.2.2.2.2 (uGV u2_90 u2_91 u2_92 u1_1 u2_93) rfl rfl rfl hdX3_tries ⟨(Nat.le_of_ble_eq_true rfl), (Nat.le_of_ble_eq_true rfl)⟩) 0 rfl rfl rfl rfl (Nat.le_of_ble_eq_true rfl) hcs dL_law_623 ?_
  refine vV_aload_n Cx 2 dL_law_626 rfl rfl ?_
  refine vV_aload_n Cx 0 dL_law_627 rfl rfl ?_
  refine vV_iload Cx dL_law_628 rfl ?_
  refine vV_iconst (v := nI 1) Cx dL_law_630 (by decide) ?_
  refine vV_iadd Cx dL_law_631 ?_
  refine vV_sld Cx hX hbl hbA (hi 1 (by decide)) dL_law_632 ?_
  refine vV_aload_n Cx 0 dL_law_633 rfl rfl ?_
  refine vV_iload Cx dL_law_634 rfl ?_
  refine vV_iconst (v := nI 2) Cx dL_law_636 (by decide) ?_
  refine vV_iadd Cx dL_law_637 ?_
  refine vV_sld Cx hX hbl hbA (hi 2 (by decide)) dL_law_638 ?_
  refine vV_aload_n Cx 0 dL_law_639 rfl rfl ?_
  refine vV_iload Cx dL_law_640 rfl ?_
  refine vV_iconst (v := nI 3) Cx dL_law_642 (by decide) ?_
  refine vV_iadd Cx dL_law_643 ?_
  refine vV_sld Cx hX hbl hbA (hi 3 (by decide)) dL_law_644 ?_
  refine vV_aload_n Cx 0 dL_law_645 rfl rfl ?_
  refine vV_iload Cx dL_law_646 rfl ?_
  refine vV_iconst (v := nI 4) Cx dL_law_648 (by decide) ?_
  refine vV_iadd Cx dL_law_649 ?_
  refine vV_sld Cx hX hbl hbA (hi 4 (by decide)) dL_law_650 ?_
  refine vV_aload_n Cx 0 dL_law_651 rfl rfl ?_
  refine vV_iload Cx dL_law_652 rfl ?_
  refine vV_iconst (v := nI 5) Cx dL_law_654 (by decide) ?_
  refine vV_iadd Cx dL_law_655 ?_
  refine vV_sld Cx hX hbl hbA (hi 5 (by decide)) dL_law_656 ?_
  refine vG_callVi Cx hA [] (wN cI cZ am E D' N) (wR cI cZ ad E C (if r_tries (xs (6 * t + 1)) (xs (6 * t + 2)) (xs (6 * t + 3)) (xs (6 * t + 4)) (xs (6 * t + 5)) = 0 then T else c_try E (s_try E S (xs (6 * t + 1)) (xs (6 * t + 2)) (xs (6 * t + 3)) (xs (6 * t + 4))) n np T) (if r_tries (xs (6 * t + 1)) (xs (6 * t + 2)) (xs (6 * t + 3)) (xs (6 * t + 4)) (xs (6 * t + 5)) = 0 then S else s_try E S (xs (6 * t + 1)) (xs (6 * t + 2)) (xs (6 * t + 3)) (xs (6 * t + 4))) ++ [lO cL o f]) (List.nil_append _).symm (List.nil_append _) (fun A => KX4_tries ok (xs (6 * t + 1)) (xs (6 * t + 2)) (xs (6 * t + 3)) (xs (6 * t + 4)) (xs (6 * t + 5))) (cwV 5 Cx.1.2.2.2.2 (uGV u3_178 u3_179 u3_180 u1_7 u3_181) rfl rfl rfl hdX4_tries ⟨(Nat.le_of_ble_eq_true rfl), (Nat.le_of_ble_eq_true rfl)⟩) 0 rfl rfl rfl rfl (Nat.le_of_ble_eq_true rfl) hcs dL_law_657 ?_
  refine vV_icmp_eq (tgt := 764) Cx dL_law_660 (by decide) (fun _ => vV_widen (k := 45 + (t + 1)) (n := 968 + 6 * (t + 1)) (by omega) (by omega) ?_) (fun h => absurd (tries_eq ok h1p hLk S T D' _ _ _ _ _) h)
  exact tail _ _ _ _ _ _ _ _ _ _ _ J
set_option maxRecDepth 100000 in
set_option maxHeartbeats 1000000 in
theorem law_14 {D : va_G} {cI cZ cL : ClassId} {am ad : Nat → Nat} {o : Nat} {p : Program} {l : Launch} {e : Env} {s : State} {m : MethodId} {below : List Frame} {meth : Method} {c : Code} {b L t : Nat} {xs : Nat → Int32} (X : LX D cI cZ cL p s m c b L xs) (hl0 : l.stackTraces = false) (ht : 6 * t + 6 ≤ L) (tail : tailAt D cI cZ cL am ad o p l e s m below meth c b t) {E C D' T N : mT} {S : Nat → Int32} {f : Nat → Int64} {n np hr hg : Nat} (J : Jr n np hr hg E C D') : vV D (vtys cI cZ) (A0 s) 7 p l e room_1 s m #[Value.ref b] below meth c (45 + t) (968 + 6 * t) (lw_Z below #[Value.ref b] s) (wL cI cZ cL am ad o E C D' T N S f) (lLw b ad am o t) 665 [] := by
  obtain ⟨Cx, hK3, hx, hz, hX, hbl, hL⟩ := X
  have hA : ∀ q, s.heap.size ≤ q → A0 s q := fun _ h => h
  have hbA : ¬ A0 s b := Nat.not_le.mpr hbl
  have hcs : 45 + t ≤ room_1.cells ∧ 968 + 6 * t ≤ room_1.slots := ⟨by show _ ≤ 1071; omega, by show _ ≤ 9172; omega⟩
  have hi : ∀ k, k < 6 → vix (nI (6 * t) + nI k) L (6 * t + k) := fun k hk => by rw [nI_add]; exact vix_nI (by omega) (by omega)
  obtain ⟨ok, h1p, hLk, hhg, hgp, h200, R⟩ := id J
  obtain ⟨o1, o2, o3, o4, o5, o6⟩ := id ok
  by_cases hv : isW (xs (6 * t + 1)) 1 3 = 0
  · refine vV_aload_n Cx 1 dL_law_665 rfl rfl ?_
    refine vV_aload_n Cx 0 dL_law_666 rfl rfl ?_
    refine vV_iload Cx dL_law_667 rfl ?_
    refine vV_iconst (v := nI 1) Cx dL_law_669 (by decide) ?_
    refine vV_iadd Cx dL_law_670 ?_
    refine vV_sld Cx hX hbl hbA (hi 1 (by decide)) dL_law_671 ?_
    refine vG_callVi Cx hA (wN cI cZ am E D' N) (wR cI cZ ad E C T S) [lO cL o f] rfl rfl (fun A => KX3_plan o1 o2 o3 o4 o5 o6 (xs (6 * t + 1))) (cwV 1 Cx.1.2.2.2.2 (uGV u2_114 u2_115 u2_116 u1_1 u2_117) rfl rfl rfl hdX3_plan ⟨(Nat.le_of_ble_eq_true rfl), (Nat.le_of_ble_eq_true rfl)⟩) 0 rfl rfl rfl rfl (Nat.le_of_ble_eq_true rfl) hcs dL_law_672 ?_
    refine vV_aload_n Cx 2 dL_law_675 rfl rfl ?_
    refine vV_aload_n Cx 0 dL_law_676 rfl rfl ?_
    refine vV_iload Cx dL_law_677 rfl ?_
    refine vV_iconst (v := nI 1) Cx dL_law_679 (by decide) ?_
    refine vV_iadd Cx dL_law_680 ?_
    refine vV_sld Cx hX hbl hbA (hi 1 (by decide)) dL_law_681 ?_
    refine vG_callVi Cx hA [] (wN cI cZ am E D' N) (wR cI cZ ad (e_plan E S T n np (xs (6 * t + 1))) (c_plan E S T n np (xs (6 * t + 1)) C) (t_plan E S T n np (xs (6 * t + 1))) (s_plan E S T n np (xs (6 * t + 1))) ++ [lO cL o f]) (List.nil_append _).symm (List.nil_append _) (fun A => KX4_plan_out hv) (cwV 1 Cx.1.2.2.2.2 (uGV u3_186 u3_187 u3_188 u1_7 u3_189) rfl rfl rfl hdX4_plan ⟨(Nat.le_of_ble_eq_true rfl), (Nat.le_of_ble_eq_true rfl)⟩) 0 rfl rfl rfl rfl (Nat.le_of_ble_eq_true rfl) hcs dL_law_682 ?_
    refine vV_icmp_eq (tgt := 764) Cx dL_law_685 (by decide) (fun _ => vV_widen (k := 45 + (t + 1)) (n := 968 + 6 * (t + 1)) (by omega) (by omega) ?_) (fun h => absurd (by unfold a_plan; rw [if_pos hv]) h)
    have e1 : e_plan E S T n np (xs (6 * t + 1)) = E := by unfold e_plan; rw [if_pos hv]
    have e2 : c_plan E S T n np (xs (6 * t + 1)) C = C := by unfold c_plan; rw [if_pos hv]
    rw [e1, e2]
    exact tail _ _ _ _ _ _ _ _ _ _ _ J
  · obtain ⟨k, hk1, hk3, hxk⟩ := isW_nI2 (a := 1) (k := 3) (by decide) hv (by decide)
    rw [hxk] at hv
    obtain ⟨e0, e1⟩ := plan_eq ok h1p hLk hk1 hk3 S T D' (cS N 2 0 0)
    refine vV_aload_n Cx 1 dL_law_665 rfl rfl ?_
    refine vV_aload_n Cx 0 dL_law_666 rfl rfl ?_
    refine vV_iload Cx dL_law_667 rfl ?_
    refine vV_iconst (v := nI 1) Cx dL_law_669 (by decide) ?_
    refine vV_iadd Cx dL_law_670 ?_
    refine vV_sld Cx hX hbl hbA (hi 1 (by decide)) dL_law_671 ?_
    rw [hxk]
    refine vG_callVi Cx hA (wN cI cZ am E D' N) (wR cI cZ ad E C T S) [lO cL o f] rfl rfl (fun A => KX3_plan o1 o2 o3 o4 o5 o6 (nI k)) (cwV 1 Cx.1.2.2.2.2 (uGV u2_114 u2_115 u2_116 u1_1 u2_117) rfl rfl rfl hdX3_plan ⟨(Nat.le_of_ble_eq_true rfl), (Nat.le_of_ble_eq_true rfl)⟩) 0 rfl rfl rfl rfl (Nat.le_of_ble_eq_true rfl) hcs dL_law_672 ?_
    refine vV_aload_n Cx 2 dL_law_675 rfl rfl ?_
    refine vV_aload_n Cx 0 dL_law_676 rfl rfl ?_
    refine vV_iload Cx dL_law_677 rfl ?_
    refine vV_iconst (v := nI 1) Cx dL_law_679 (by decide) ?_
    refine vV_iadd Cx dL_law_680 ?_
    refine vV_sld Cx hX hbl hbA (hi 1 (by decide)) dL_law_681 ?_
    rw [hxk]
    refine vG_callVi Cx hA [] (wN cI cZ am E D' N) (wR cI cZ ad (e_plan E S T n np (nI k)) (c_plan E S T n np (nI k) C) (t_plan E S T n np (nI k)) (s_plan E S T n np (nI k)) ++ [lO cL o f]) (List.nil_append _).symm (List.nil_append _) (fun A => KX4_plan ok hk1 hk3) (cwV 1 Cx.1.2.2.2.2 (uGV u3_186 u3_187 u3_188 u1_7 u3_189) rfl rfl rfl hdX4_plan ⟨(Nat.le_of_ble_eq_true rfl), (Nat.le_of_ble_eq_true rfl)⟩) 0 rfl rfl rfl rfl (Nat.le_of_ble_eq_true rfl) hcs dL_law_682 ?_
    refine vV_icmp_eq (tgt := 764) Cx dL_law_685 (by decide) (fun _ => vV_widen (k := 45 + (t + 1)) (n := 968 + 6 * (t + 1)) (by omega) (by omega) ?_) (fun h => absurd e0 h)
    have e2 : c_plan E S T n np (nI k) C = c_reset (e_plan E S T n np (nI k)) n C := by unfold c_plan; rw [if_neg hv]
    rw [e2, e1]
    exact tail _ _ _ _ _ _ _ _ _ _ _ (J_plan J hk1 hk3 S T _)
set_option maxRecDepth 100000 in
set_option maxHeartbeats 1000000 in
theorem law_15 {D : va_G} {cI cZ cL : ClassId} {am ad : Nat → Nat} {o : Nat} {p : Program} {l : Launch} {e : Env} {s : State} {m : MethodId} {below : List Frame} {meth : Method} {c : Code} {b L t : Nat} {xs : Nat → Int32} (X : LX D cI cZ cL p s m c b L xs) (hl0 : l.stackTraces = false) (ht : 6 * t + 6 ≤ L) (tail : tailAt D cI cZ cL am ad o p l e s m below meth c b t) {E C D' T N : mT} {S : Nat → Int32} {f : Nat → Int64} {n np hr hg : Nat} (J : Jr n np hr hg E C D') : vV D (vtys cI cZ) (A0 s) 7 p l e room_1 s m #[Value.ref b] below meth c (45 + t) (968 + 6 * t) (lw_Z below #[Value.ref b] s) (wL cI cZ cL am ad o E C D' T N S f) (lLw b ad am o t) 690 [] := by
  obtain ⟨Cx, hK3, hx, hz, hX, hbl, hL⟩ := X
  have hA : ∀ q, s.heap.size ≤ q → A0 s q := fun _ h => h
  have hbA : ¬ A0 s b := Nat.not_le.mpr hbl
  have hcs : 45 + t ≤ room_1.cells ∧ 968 + 6 * t ≤ room_1.slots := ⟨by show _ ≤ 1071; omega, by show _ ≤ 9172; omega⟩
  have hi : ∀ k, k < 6 → vix (nI (6 * t) + nI k) L (6 * t + k) := fun k hk => by rw [nI_add]; exact vix_nI (by omega) (by omega)
  obtain ⟨ok, h1p, hLk, hhg, hgp, h200, R⟩ := id J
  obtain ⟨o1, o2, o3, o4, o5, o6⟩ := id ok
  refine vV_aload_n Cx 1 dL_law_690 rfl rfl ?_
  refine vV_aload_n Cx 0 dL_law_691 rfl rfl ?_
  refine vV_iload Cx dL_law_692 rfl ?_
  refine vV_iconst (v := nI 1) Cx dL_law_694 (by decide) ?_
  refine vV_iadd Cx dL_law_695 ?_
  refine vV_sld Cx hX hbl hbA (hi 1 (by decide)) dL_law_696 ?_
  refine vV_aload_n Cx 0 dL_law_697 rfl rfl ?_
  refine vV_iload Cx dL_law_698 rfl ?_
  refine vV_iconst (v := nI 2) Cx dL_law_700 (by decide) ?_
  refine vV_iadd Cx dL_law_701 ?_
  refine vV_sld Cx hX hbl hbA (hi 2 (by decide)) dL_law_702 ?_
  refine vG_callVi Cx hA (wN cI cZ am E D' N) (wR cI cZ ad E C T S) [lO cL o f] rfl rfl (fun A => KX3_need o4 o5 hhg (by omega) (xs (6 * t + 1)) (xs (6 * t + 2))) (cwV 2 Cx.1.2.2.2.2 (uGV u2_134 u2_135 u2_136 u1_1 u2_137) rfl rfl rfl hdX3_need ⟨(Nat.le_of_ble_eq_true rfl), (Nat.le_of_ble_eq_true rfl)⟩) 0 rfl rfl rfl rfl (Nat.le_of_ble_eq_true rfl) hcs dL_law_703 ?_
  refine vV_aload_n Cx 2 dL_law_706 rfl rfl ?_
  refine vV_aload_n Cx 0 dL_law_707 rfl rfl ?_
  refine vV_iload Cx dL_law_708 rfl ?_
  refine vV_iconst (v := nI 1) Cx dL_law_710 (by decide) ?_
  refine vV_iadd Cx dL_law_711 ?_
  refine vV_sld Cx hX hbl hbA (hi 1 (by decide)) dL_law_712 ?_
  refine vV_aload_n Cx 0 dL_law_713 rfl rfl ?_
  refine vV_iload Cx dL_law_714 rfl ?_
  refine vV_iconst (v := nI 2) Cx dL_law_716 (by decide) ?_
  refine vV_iadd Cx dL_law_717 ?_
  refine vV_sld Cx hX hbl hbA (hi 2 (by decide)) dL_law_718 ?_
  refine vG_callVi Cx hA [] (wN cI cZ am E D' N) (wR cI cZ ad E C T S ++ [lO cL o f]) (List.nil_append _).symm (List.nil_append _) (fun A => KX4_need o4 o5 (xs (6 * t + 1)) (xs (6 * t + 2))) (cwV 2 Cx.1.2.2.2.2 (uGV u3_194 u3_195 u3_196 u1_7 u3_197) rfl rfl rfl hdX4_need ⟨(Nat.le_of_ble_eq_true rfl), (Nat.le_of_ble_eq_true rfl)⟩) 0 rfl rfl rfl rfl (Nat.le_of_ble_eq_true rfl) hcs dL_law_719 ?_
  refine vV_icmp_eq (tgt := 764) Cx dL_law_722 (by decide) (fun _ => vV_widen (k := 45 + (t + 1)) (n := 968 + 6 * (t + 1)) (by omega) (by omega) ?_) (fun h => absurd (need_eq hhg (by omega) o4 o5 _ _) h)
  exact tail _ _ _ _ _ _ _ _ _ _ _ J
set_option maxRecDepth 100000 in
set_option maxHeartbeats 1000000 in
theorem law_16 {D : va_G} {cI cZ cL : ClassId} {am ad : Nat → Nat} {o : Nat} {p : Program} {l : Launch} {e : Env} {s : State} {m : MethodId} {below : List Frame} {meth : Method} {c : Code} {b L t : Nat} {xs : Nat → Int32} (X : LX D cI cZ cL p s m c b L xs) (hl0 : l.stackTraces = false) (ht : 6 * t + 6 ≤ L) (tail : tailAt D cI cZ cL am ad o p l e s m below meth c b t) {E C D' T N : mT} {S : Nat → Int32} {f : Nat → Int64} {n np hr hg : Nat} (J : Jr n np hr hg E C D') : vV D (vtys cI cZ) (A0 s) 7 p l e room_1 s m #[Value.ref b] below meth c (45 + t) (968 + 6 * t) (lw_Z below #[Value.ref b] s) (wL cI cZ cL am ad o E C D' T N S f) (lLw b ad am o t) 727 [] := by
  obtain ⟨Cx, hK3, hx, hz, hX, hbl, hL⟩ := X
  have hA : ∀ q, s.heap.size ≤ q → A0 s q := fun _ h => h
  have hbA : ¬ A0 s b := Nat.not_le.mpr hbl
  have hcs : 45 + t ≤ room_1.cells ∧ 968 + 6 * t ≤ room_1.slots := ⟨by show _ ≤ 1071; omega, by show _ ≤ 9172; omega⟩
  have hi : ∀ k, k < 6 → vix (nI (6 * t) + nI k) L (6 * t + k) := fun k hk => by rw [nI_add]; exact vix_nI (by omega) (by omega)
  obtain ⟨ok, h1p, hLk, hhg, hgp, h200, R⟩ := id J
  obtain ⟨o1, o2, o3, o4, o5, o6⟩ := id ok
  refine vV_aload_n Cx 1 dL_law_727 rfl rfl ?_
  refine vV_aload_n Cx 0 dL_law_728 rfl rfl ?_
  refine vV_iload Cx dL_law_729 rfl ?_
  refine vV_iconst (v := nI 1) Cx dL_law_731 (by decide) ?_
  refine vV_iadd Cx dL_law_732 ?_
  refine vV_sld Cx hX hbl hbA (hi 1 (by decide)) dL_law_733 ?_
  refine vV_aload_n Cx 0 dL_law_734 rfl rfl ?_
  refine vV_iload Cx dL_law_735 rfl ?_
  refine vV_iconst (v := nI 2) Cx dL_law_737 (by decide) ?_
  refine vV_iadd Cx dL_law_738 ?_
  refine vV_sld Cx hX hbl hbA (hi 2 (by decide)) dL_law_739 ?_
  refine vG_callVi Cx hA (wN cI cZ am E D' N) (wR cI cZ ad E C T S) [lO cL o f] rfl rfl (fun A => KX3_comes o4 o5 hhg (by omega) (xs (6 * t + 1)) (xs (6 * t + 2))) (cwV 2 Cx.1.2.2.2.2 (uGV u2_138 u2_139 u2_140 u1_1 u2_141) rfl rfl rfl hdX3_comes ⟨(Nat.le_of_ble_eq_true rfl), (Nat.le_of_ble_eq_true rfl)⟩) 0 rfl rfl rfl rfl (Nat.le_of_ble_eq_true rfl) hcs dL_law_740 ?_
  refine vV_aload_n Cx 2 dL_law_743 rfl rfl ?_
  refine vV_aload_n Cx 0 dL_law_744 rfl rfl ?_
  refine vV_iload Cx dL_law_745 rfl ?_
  refine vV_iconst (v := nI 1) Cx dL_law_747 (by decide) ?_
  refine vV_iadd Cx dL_law_748 ?_
  refine vV_sld Cx hX hbl hbA (hi 1 (by decide)) dL_law_749 ?_
  refine vV_aload_n Cx 0 dL_law_750 rfl rfl ?_
  refine vV_iload Cx dL_law_751 rfl ?_
  refine vV_iconst (v := nI 2) Cx dL_law_753 (by decide) ?_
  refine vV_iadd Cx dL_law_754 ?_
  refine vV_sld Cx hX hbl hbA (hi 2 (by decide)) dL_law_755 ?_
  refine vG_callVi Cx hA [] (wN cI cZ am E D' N) (wR cI cZ ad E C T S ++ [lO cL o f]) (List.nil_append _).symm (List.nil_append _) (fun A => KX4_comes o4 o5 (xs (6 * t + 1)) (xs (6 * t + 2))) (cwV 2 Cx.1.2.2.2.2 (uGV u3_198 u3_199 u3_200 u1_7 u3_201) rfl rfl rfl hdX4_comes ⟨(Nat.le_of_ble_eq_true rfl), (Nat.le_of_ble_eq_true rfl)⟩) 0 rfl rfl rfl rfl (Nat.le_of_ble_eq_true rfl) hcs dL_law_756 ?_
  refine vV_icmp_eq (tgt := 764) Cx dL_law_759 (by decide) (fun _ => vV_widen (k := 45 + (t + 1)) (n := 968 + 6 * (t + 1)) (by omega) (by omega) ?_) (fun h => absurd (comes_eq hhg (by omega) o4 o5 _ _) h)
  exact tail _ _ _ _ _ _ _ _ _ _ _ J
