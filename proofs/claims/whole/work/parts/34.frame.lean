/-! worlds side by side: a call that sees one part; constructors -/
theorem vP_mem {D : va_G} {cl : List vw_C} {w1 w2 : va_W} {H : Heap} (h : va_P D cl (w1 ++ w2) H) : va_P D cl w1 H ∧ va_P D cl w2 H := by
  refine ⟨fun k q hk => ?_, fun k q hk => ?_⟩
  · have hl := (List.getElem?_eq_some_iff.mp hk).1
    exact h k q (by rw [List.getElem?_append_left hl]; exact hk)
  · exact h (w1.length + k) q (by rw [List.getElem?_append_right (by omega), show w1.length + k - w1.length = k by omega]; exact hk)
theorem vD_mem {A : Nat → Prop} {w1 w2 : va_W} (h : va_D A (w1 ++ w2)) : va_D A w1 ∧ va_D A w2 ∧ ∀ (i j : Nat) (p q : Nat × va_E), w1[i]? = some p → w2[j]? = some q → p.1 ≠ q.1 := by
  have l1 : ∀ (k : Nat) (q : Nat × va_E), w1[k]? = some q → (w1 ++ w2)[k]? = some q := fun k q hk => by
    have hl := (List.getElem?_eq_some_iff.mp hk).1
    rw [List.getElem?_append_left hl]; exact hk
  have l2 : ∀ (k : Nat) (q : Nat × va_E), w2[k]? = some q → (w1 ++ w2)[w1.length + k]? = some q := fun k q hk => by
    rw [List.getElem?_append_right (by omega), show w1.length + k - w1.length = k by omega]; exact hk
  refine ⟨⟨fun i j p q hi hj e => h.1 i j p q (l1 i p hi) (l1 j q hj) e, fun k q hk => h.2 k q (l1 k q hk)⟩, ⟨fun i j p q hi hj e => ?_, fun k q hk => h.2 _ q (l2 k q hk)⟩, fun i j p q hi hj e => ?_⟩
  · have := h.1 _ _ p q (l2 i p hi) (l2 j q hj) e; omega
  · have h1 := h.1 _ _ p q (l1 i p hi) (l2 j q hj) e
    have hl := (List.getElem?_eq_some_iff.mp hi).1
    omega
theorem vjoin {A0 : Nat → Prop} {D : va_G} {cl : List vw_C} {w0 w1 w2 w1' : va_W} {H H1 : Heap} (hP : va_P D cl (w0 ++ (w1 ++ w2)) H) (hD : va_D A0 (w0 ++ (w1 ++ w2))) (hk : ∀ q : Nat, q < H.size → ¬ va_A w1 H.size q → H1[q]? = H[q]?) (hF : ∀ q, va_A w1 H.size q → A0 q) (hP1 : va_P D cl w1' H1) (hD1 : va_D (va_A w1 H.size) w1') : va_P D cl (w0 ++ (w1' ++ w2)) H1 ∧ va_D A0 (w0 ++ (w1' ++ w2)) := by
  obtain ⟨P0, P12⟩ := vP_mem hP
  obtain ⟨P1, P2⟩ := vP_mem P12
  obtain ⟨D0, D12, X0⟩ := vD_mem hD
  obtain ⟨D1, D2, X1⟩ := vD_mem D12
  have n0 : ∀ (k : Nat) (q : Nat × va_E), w0[k]? = some q → q.1 < H.size ∧ ¬ va_A w1 H.size q.1 := fun k q hq => ⟨(P0 k q hq).lt, fun h => by
    rcases h with ⟨i, e, hi⟩ | h
    · have hl := (List.getElem?_eq_some_iff.mp hi).1
      exact X0 k i q (q.1, e) hq (by rw [List.getElem?_append_left hl]; exact hi) rfl
    · have := (P0 k q hq).lt; omega⟩
  have n2 : ∀ (k : Nat) (q : Nat × va_E), w2[k]? = some q → q.1 < H.size ∧ ¬ va_A w1 H.size q.1 := fun k q hq => ⟨(P2 k q hq).lt, fun h => by
    rcases h with ⟨i, e, hi⟩ | h
    · exact X1 i k (q.1, e) q hi hq rfl
    · have := (P2 k q hq).lt; omega⟩
  have Q0 : va_P D cl w0 H1 := fun k q hq => (P0 k q hq).kept (hk q.1 (n0 k q hq).1 (n0 k q hq).2)
  have Q2 : va_P D cl w2 H1 := fun k q hq => (P2 k q hq).kept (hk q.1 (n2 k q hq).1 (n2 k q hq).2)
  have E1 : va_D A0 w1' := hD1.weaken (fun k q _ h => hF q.1 h)
  have E12 : va_D A0 (w1' ++ w2) := va_D.app E1 D2 (fun i j p q hi hj e => (n2 j q hj).2 (by rw [← e]; exact hD1.2 i p hi))
  refine ⟨Q0.app (hP1.app Q2), va_D.app D0 E12 (fun i j p q hi hj e => ?_)⟩
  rcases List.mem_append.mp (List.mem_of_getElem? hj) with h | h
  · obtain ⟨k, hk2⟩ := List.getElem?_of_mem h
    exact (n0 i p hi).2 (by rw [e]; exact hD1.2 k q hk2)
  · obtain ⟨k, hk2⟩ := List.getElem?_of_mem h
    have hl : w1.length + k < (w1 ++ w2).length := by rw [List.length_append]; have := (List.getElem?_eq_some_iff.mp hk2).1; omega
    exact X0 i (w1.length + k) p q hi (by rw [List.getElem?_append_right (by omega), show w1.length + k - w1.length = k by omega]; exact hk2) e
/-- a contract with new cells -/
def vPa (D : va_G) (tys : List (ClassId × FieldType)) (A : Nat → Prop) (w : va_W) (as : List Value) : Array Value → State → Prop := va_Pc as (fun U => va_P D vwCl w U.heap ∧ vkA D tys U ∧ va_D A w ∧ ∀ q, U.heap.size ≤ q → A q)
def vQa (D : va_G) (A : Nat → Prop) (post : (Nat → Nat) → va_W) : Array Value → State → Outcome → State → Prop := va_Qv (S := Nat → Nat) (fun _ => True) (fun f t => va_P D vwCl (post f) t.heap ∧ va_D A (post f)) A
def vKa (l : Launch) (D : va_G) (tys : List (ClassId × FieldType)) (A : Nat → Prop) (y : MethodName) (wo : List Cond) (rm : Room) (mc ms : Nat) (w : va_W) (as : List Value) (post : (Nat → Nat) → va_W) : Prop := Met l y wo rm (vPa D tys A w as) (vQa D A post) mc ms A
theorem vPa_blind (D : va_G) (tys : List (ClassId × FieldType)) (A : Nat → Prop) (w : va_W) (as : List Value) : FrameBlind (vPa D tys A w as) := fun a _ g mk q => ⟨q.1, q.2.1, vkA_call g mk a q.2.2.1, q.2.2.2.1, q.2.2.2.2⟩
section VFR
variable {D : va_G} {tys : List (ClassId × FieldType)} {A : Nat → Prop} {nL : Nat} {p : Program} {l : Launch} {e : Env} {R : Room} {s : State} {m : MethodId} {args : Array Value} {below : List Frame} {meth : Method} {c : Code} {cells slots : Nat} {Q : State → Prop} {cc : ByteArray} {Ts : List Cond} {own : String} {ws : va_W} {L : List Value} {pc : Nat} {st : List Value}
theorem vfree {w0 w1 w2 : va_W} {H0 H : Heap} {locs : List Loc} (hD : va_D A (w0 ++ (w1 ++ w2))) (hS : va_S A H0 H locs) (hA : ∀ q, H0.size ≤ q → A q) : ∀ q, va_A w1 H.size q → A q := fun q h => by
  rcases h with ⟨k, e, hk⟩ | h
  · exact (vD_mem (vD_mem hD).2.1).1.2 k _ hk
  · exact hA q (Nat.le_trans hS.1 h)
theorem vF_callVi (C : vCx D tys p m c cc nL s args Ts own) (hA0 : ∀ q, s.heap.size ≤ q → A q) (w0 w1 w2 : va_W) {y : MethodName} {wo : List Cond} {rm : Room} {b : Nat} {As rest : List Value} {r : Int32} {w1' : va_W} (hM : ∀ A, vKi l D tys A y wo rm w1 (.ref b :: As) r w1') {K : String} {index : Nat} {bytes : ByteArray} {maxL : Nat} {ret : Option FieldType} {n : Nat} (cw : CallW R s args own K index y bytes maxL ret wo rm 0 0 n) (q0 : Nat) {ci : Nat} {fs : List Value} {T : u_T} {N : Nat} (he : w1[q0]? = some (b, .inr (ci, fs))) (hc : vwCl[ci]? = some (K, T, N)) (hst : st = As.reverse ++ .ref b :: rest) (hn : As.length = n) (hrm : (rest.map fun v => v.category).sum ≤ 8) (hcs : cells ≤ R.cells ∧ slots ≤ R.slots) (hd : decode cc pc = .ok (.invokevirtual index, 3))
    (kk : vV D tys A nL p l e R s m args below meth c cells slots Q (w0 ++ (w1' ++ w2)) L (pc + 3) (.int r :: rest)) : vV D tys A nL p l e R s m args below meth c cells slots Q (w0 ++ (w1 ++ w2)) L pc st := fun H locs ls hP hD hS hl => by
  have hP1 := (vP_mem (vP_mem hP).2).1
  have hD1 := (vD_mem (vD_mem hD).2.1).1.self (sz := H.size)
  have hF := vfree hD hS hA0
  refine va_calli (va_runV (As := As) (rest := rest) C.1 (hM (va_A w1 H.size)) cw ⟨vPc_blind D tys _ w1 _, va_recv C.2.1 hP1 hc he, fun U hU hW => ⟨rfl, by rw [hU]; exact hP1, vkA_warm hW C.2, hD1⟩⟩ rfl hn hl.1 hst (lv_room hrm) hd hcs) hS (fun q _ h => hF q h) hF (fun r1 u t H1 locs1 ht hvm hp hB hz hk hS => ?_)
  subst hp
  obtain ⟨hP2, hD2⟩ := vjoin hP hD hk hF (by rw [← ht]; exact hB.1) hB.2
  exact kk H1 locs1 ls hP2 hD2 hS hl
theorem vV_objInit {c0 : Cond} (C : vCx D tys p m c cc nL s args (c0 :: uW) own) {idx : Nat} (hlink : Cond.methodLink own idx Lib.objectInit ∈ uW) (hinst : Cond.instanceMethod Lib.objectInit ∈ uW) (hcode : Cond.code Lib.objectInit ⟨#[0xb1]⟩ 1 none ∈ uW) {a : Nat} (hd : decode cc pc = .ok (.invokespecial idx, 3)) (hfr : 1 ≤ R.frames) (hlo : (st.map fun v => v.category).sum + 12 ≤ R.locals) (k : vV D tys A nL p l e R s m args below meth c cells slots Q ws L (pc + 3) st) : vV D tys A nL p l e R s m args below meth c cells slots Q ws L pc (.ref a :: st) := fun H locs ls hP hD hS hl =>
  W.objInit C.1.1 C.1.2.1 C.1.2.2.2.1 (C.1.2.2.2.2 _ (List.mem_cons_of_mem _ hlink)) (C.1.2.2.2.2 _ (List.mem_cons_of_mem _ hinst)) (C.1.2.2.2.2 _ (List.mem_cons_of_mem _ hcode)) rfl (hl.1.trans C.1.2.2.1.symm) rfl hd hfr (by show 2 * 0 + _ + 12 ≤ _; omega) (W.eq rfl (k H locs ls hP hD hS hl))
theorem vV_newi {cI cZ : ClassId} {c0 : Cond} (C : vCx D (vtys cI cZ) p m c cc nL s args (c0 :: uW) own) (harr : Cond.arrayClass .int ∈ uW) (hA0 : ∀ q, s.heap.size ≤ q → A q) {n : Int32} {N' : Nat} (hn : ¬ n < 0) (hN : n.toNatClampNeg = N') (hbytes : N' * componentBytes .int ≤ 536870912) (hcells : cells + 1 ≤ R.cells) (hslots : slots + N' ≤ R.slots) (hd : decode cc pc = .ok (.newarray .int, 2)) (kk : ∀ q : Nat, vV D (vtys cI cZ) A nL p l e R s m args below meth c (cells + 1) (slots + N') Q (ws ++ [(q, .inl (cI, N', .inl (fun _ => 0)))]) L (pc + 2) (.ref q :: st)) : vV D (vtys cI cZ) A nL p l e R s m args below meth c cells slots Q ws L pc (.int n :: st) := fun H locs ls hP hD hS hl =>
  va_newa (a0 := (N', .inl (fun _ => 0))) C.1.1 C.1.2.1 (atype := .int) (C.1.2.2.2.2 _ (List.mem_cons_of_mem _ harr)) (ty := .int) rfl C.2.1 hP hD hS hA0 (fun cA => rfl) hn hN hbytes hcells hslots hd (fun q cA H1 hK hP hD hS => by
    have e1 : s.vm.findClass ("[" ++ FieldType.int.toString) = some cI := (C.2.1.2 0 (cI, .int) rfl).2
    have e2 : s.vm.findClass ("[" ++ FieldType.int.toString) = some cA := (hK.2 2 (cA, .int) rfl).2
    obtain rfl : cI = cA := Option.some.inj (e1.symm.trans e2)
    exact kk q H1 locs ls hP hD hS hl)
theorem vV_newz {cI cZ : ClassId} {c0 : Cond} (C : vCx D (vtys cI cZ) p m c cc nL s args (c0 :: uW) own) (harr : Cond.arrayClass .boolean ∈ uW) (hA0 : ∀ q, s.heap.size ≤ q → A q) {n : Int32} {N' : Nat} (hn : ¬ n < 0) (hN : n.toNatClampNeg = N') (hbytes : N' * componentBytes .boolean ≤ 536870912) (hcells : cells + 1 ≤ R.cells) (hslots : slots + N' ≤ R.slots) (hd : decode cc pc = .ok (.newarray .boolean, 2)) (kk : ∀ q : Nat, vV D (vtys cI cZ) A nL p l e R s m args below meth c (cells + 1) (slots + N') Q (ws ++ [(q, .inl (cZ, N', .inl (fun _ => 0)))]) L (pc + 2) (.ref q :: st)) : vV D (vtys cI cZ) A nL p l e R s m args below meth c cells slots Q ws L pc (.int n :: st) := fun H locs ls hP hD hS hl =>
  va_newa (a0 := (N', .inl (fun _ => 0))) C.1.1 C.1.2.1 (atype := .boolean) (C.1.2.2.2.2 _ (List.mem_cons_of_mem _ harr)) (ty := .boolean) rfl C.2.1 hP hD hS hA0 (fun cA => rfl) hn hN hbytes hcells hslots hd (fun q cA H1 hK hP hD hS => by
    have e1 : s.vm.findClass ("[" ++ FieldType.boolean.toString) = some cZ := (C.2.1.2 1 (cZ, .boolean) rfl).2
    have e2 : s.vm.findClass ("[" ++ FieldType.boolean.toString) = some cA := (hK.2 2 (cA, .boolean) rfl).2
    obtain rfl : cZ = cA := Option.some.inj (e1.symm.trans e2)
    exact kk q H1 locs ls hP hD hS hl)
theorem vV_putF {c0 : Cond} (C : vCx D tys p m c cc nL s args (c0 :: uW) own) {K : String} {T : u_T} {N ci index : Nat} (hin : ∀ w ∈ u_ws K T N, w ∈ uW) {ty0 : Nat → FieldType} (hty : ∀ k, k < N → parseFieldDescriptor (T k).2.2.1 = some (ty0 k)) (hnm : ∀ a, a < N → ∀ b, b < N → a ≠ b → (T a).2.1 ≠ (T b).2.1) (q0 : Nat) {a : Nat} {fs : List Value} (he : ws[q0]? = some (a, .inr (ci, fs))) (hc : vwCl[ci]? = some (K, T, N)) (k : Nat) (hk : k < N) (hlink : Cond.fieldLink own index (T k).1 (T k).2.1 (T k).2.2.1 ∈ uW) (hfin : (T k).2.2.2 = true) (hin2 : meth.name = "<init>") (hdecl : (T k).1 = own) {ty : FieldType} {x : Nat} (hi : parseFieldDescriptor (T k).2.2.1 = some ty) (hn : narrow ty (.ref x) = .ref x) (hfit : fits ty (.ref x) = true) (hl2 : k < fs.length) (hd : decode cc pc = .ok (.putfield index, 3)) (kk : vV D tys A nL p l e R s m args below meth c cells slots Q (ws.set q0 (a, .inr (ci, fs.set k (.ref x)))) L (pc + 3) st) : vV D tys A nL p l e R s m args below meth c cells slots Q ws L pc (.ref x :: .ref a :: st) := fun H locs ls hP hD hS hl =>
  va_putF C.1.1 C.1.2.1 C.1.2.2.2.2 (fun w h => List.mem_cons_of_mem _ (hin w h)) ty0 hty hnm C.1.2.2.2.1 C.2.1 hP hD hS q0 he hc k hk (C.1.2.2.2.2 _ (List.mem_cons_of_mem _ hlink)) (fun _ h => h) hfin hin2 hdecl hi hn hfit hl2 hd (fun H1 locs1 hP hD hS => kk H1 locs1 ls hP hD hS hl)
theorem vV_new {c0 : Cond} (C : vCx D tys p m c cc nL s args (c0 :: uW) own) (hA0 : ∀ q, s.heap.size ≤ q → A q) {K : String} {T : u_T} {N ci index : Nat} (hin : ∀ w ∈ u_ws K T N, w ∈ uW) {ty0 : Nat → FieldType} (hty : ∀ k, k < N → parseFieldDescriptor (T k).2.2.1 = some (ty0 k)) (hcl : Cond.classLink own index K ∈ uW) (hinst : Cond.instantiable K N ∈ uW) (hini : Cond.initialized K ∈ uW) (hc : vwCl[ci]? = some (K, T, N)) (fs : List Value) (hfs : ∀ j, j < N → defaultValue (ty0 j) = vp_V fs j) (hcells : cells + 1 ≤ R.cells) (hslots : slots + N ≤ R.slots) (hd : decode cc pc = .ok (.new index, 3)) (kk : ∀ q : Nat, vV D tys A nL p l e R s m args below meth c (cells + 1) (slots + N) Q (ws ++ [(q, .inr (ci, fs))]) L (pc + 3) (.ref q :: st)) : vV D tys A nL p l e R s m args below meth c cells slots Q ws L pc st := fun H locs ls hP hD hS hl =>
  va_new C.1.1 C.1.2.1 C.1.2.2.2.2 (fun w h => List.mem_cons_of_mem _ (hin w h)) ty0 hty C.1.2.2.2.1 (C.1.2.2.2.2 _ (List.mem_cons_of_mem _ hcl)) (C.1.2.2.2.2 _ (List.mem_cons_of_mem _ hinst)) (C.1.2.2.2.2 _ (List.mem_cons_of_mem _ hini)) C.2.1 hP hD hS hA0 hc hfs hcells hslots hd (fun q H1 hP hD hS => kk q H1 locs ls hP hD hS hl)
theorem vKa_of {y : MethodName} {wo wo' : List Cond} {rm : Room} {maxL mc ms : Nat} {w : va_W} {post : (Nat → Nat) → va_W} {as : List Value} (hy : plainName y.cls = true) (hw : wo = Cond.code y cc maxL none :: wo') (hc : (as.all fun v => v.category == 1) = true) (hsz : (lg_sl as).length ≤ maxL)
    (body : ∀ (p : Program) (e : Env) (s : State) (m : MethodId) (below : List Frame) (meth : Method) (c : Code), vCx D tys p m c cc maxL s as.toArray wo y.cls → meth.sig.returnType = none → meth.locks = false → meth.name = y.name → (∀ q, s.heap.size ≤ q → A q) → vV D tys A maxL p l e rm s m as.toArray below meth c 0 0 (MQ below (vQa D A post) as.toArray s mc ms A) w as 0 []) : vKa l D tys A y wo rm mc ms w as post := by
  refine Met.ofW (cc := cc) (maxL := maxL) (ret := none) hy hw ?_
  intro p e s m args below meth c s₁ B hml hv
  obtain ⟨rfl, hP, hK, hD, hA⟩ := hv
  have hl := vlP_entry (fun v hv => by simpa using List.all_eq_true.mp hc v hv) (lv_entry as (n := maxL) hsz)
  rw [lg_entry_eq]
  exact body p e s m below meth c ⟨⟨B.exec, B.bytes, hml, findClass_of_methodNamed B.named, atoms_spec (ws := wo) B.pre⟩, hK⟩ B.returns B.notSynchronized (name_of_methodNamed B.named B.method).1 hA s.heap [] _ hP hD va_S.rf hl
theorem vV_aretv (C : vCx D tys p m c cc nL s args Ts own) (hr : meth.sig.returnType = none) (hlk : meth.locks = false) {post : (Nat → Nat) → va_W} {mc ms : Nat} (f : Nat → Nat) (hd : decode cc pc = .ok (.return_, 1)) (hw : ws = post f) : vV D tys A nL p l e R s m args below meth c mc ms (MQ below (vQa D A post) args s mc ms A) ws L pc [] := by
  subst hw
  exact fun H locs ls hP hD hS hl => W.vret C.1.1 C.1.2.1 hr (fun t ht hW => ⟨⟨f, rfl, trivial, by rw [ht]; exact hP, hD⟩, hS.F ht⟩) hS.2.2 hd hlk
/-- a constructor is called for the one part w1 -/
theorem vF_callIa (C : vCx D tys p m c cc nL s args Ts own) (hA0 : ∀ q, s.heap.size ≤ q → A q) (w0 w1 w2 : va_W) {y : MethodName} {wo : List Cond} {rm : Room} {b : Nat} {As rest : List Value} {mc ms : Nat} {post : (Nat → Nat) → va_W} (hM : ∀ A, vKa l D tys A y wo rm mc ms w1 (.ref b :: As) post) {index : Nat} {bytes : ByteArray} {maxL : Nat} {n : Nat} (cw : CallB R s args own index y bytes maxL none wo rm mc ms n ∧ y.name = "<init>" ∧ (Cond.instanceMethod y).before args s = true) (hws : ws = w0 ++ (w1 ++ w2)) (hst : st = As.reverse ++ .ref b :: rest) (hn : As.length = n) (hrm : (rest.map fun v => v.category).sum ≤ 8) (hcs : cells + mc ≤ R.cells ∧ slots + ms ≤ R.slots) (hd : decode cc pc = .ok (.invokespecial index, 3))
    (kk : ∀ f : Nat → Nat, vV D tys A nL p l e R s m args below meth c (cells + mc) (slots + ms) Q (w0 ++ (post f ++ w2)) L (pc + 3) rest) : vV D tys A nL p l e R s m args below meth c cells slots Q ws L pc st := fun H locs ls hP hD hS hl => by
  subst hws
  have hP1 := (vP_mem (vP_mem hP).2).1
  have hD1 := (vD_mem (vD_mem hD).2.1).1.self (sz := H.size)
  have hF := vfree hD hS hA0
  refine va_callv (va_runI (As := As) (rest := rest) C.1 (hM (va_A w1 H.size)) cw ⟨vPa_blind D tys _ w1 _, fun U hU hW => ⟨rfl, by rw [hU]; exact hP1, vkA_warm hW C.2, hD1, fun q hq => Or.inr (by rw [← hU]; exact hq)⟩⟩ rfl hn hl.1 hst (lv_room hrm) hd hcs) hS (fun q _ h => hF q h) hF (fun u t H1 locs1 ht hvm hp hB hz hk hS => ?_)
  obtain ⟨hP2, hD2⟩ := vjoin hP hD hk hF (by rw [← ht]; exact hB.1) hB.2
  exact kk u H1 locs1 ls hP2 hD2 hS hl
end VFR
