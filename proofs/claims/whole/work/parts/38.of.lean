/-! the throw, its words, its row; contracts that return or throw -/
abbrev xNS : String := "java/util/NoSuchElementException"
abbrev xRT : String := "java/lang/RuntimeException"
abbrev xEX : String := "java/lang/Exception"
def six13 : ByteArray := ⟨#[0x2a, 0x2b, 0xb7, 0x00, 0x0d, 0xb1]⟩
def vyL : List Cond := (vy_all RX3 111 xNS xRT [xEX] 13 six13).filter vx_no
theorem vyL_in : vyL.filter goodWord = ([45, 449, 458, 460, 463, 465, 450, 451, 56, 57, 452, 457, 461, 481, 439, 482, 441, 483, 443, 453, 455, 445, 477, 478, 480, 445, 468, 469, 470, 471, 471, 472, 473, 474, 474, 475, 476, 477, 467, 428, 436, 437, 438, 440, 442, 444, 448, 447, 446] : List Nat).filterMap (fun i => lw_tbl[i]?) := by decide +kernel
theorem vyL_bad : vyL.filter (fun w => !goodWord w) = [.declares (Bundle.initS xRT), .declares (Bundle.initS xEX), .declares (Bundle.initS Bundle.tN)] := by decide +kernel
theorem vyL_ot : ∀ w ∈ Cond.classLink RX3 107 xNS :: Cond.initialized xNS :: vyL, vx_ot w = true := by decide +kernel
theorem vyL_uW : ∀ w ∈ vyL.filter goodWord, w ∈ uW := fun w hw => by
  have hg := (List.mem_filter.mp hw).2
  rw [vyL_in] at hw
  obtain ⟨i, -, hi⟩ := List.mem_filterMap.mp hw
  exact List.mem_filter.mpr ⟨List.mem_of_getElem? hi, hg⟩
def vxW (U : State) : Prop := (∃ a, vk_R RX3 109 "no such climber" a U) ∧ (∃ a, vk_R RX3 135 "nothing of a climber has this number" a U) ∧ va_Nw (.declares (Bundle.initS xRT)) U ∧ va_Nw (.declares (Bundle.initS xEX)) U ∧ va_Nw (.declares (Bundle.initS Bundle.tN)) U ∧ va_Nw (.castable xNS xNS) U
theorem vxW_warm {s U : State} (hW : s.WarmedH U.vm) (h : vxW s) : vxW U := by
  obtain ⟨⟨a, ha⟩, ⟨b, hb⟩, h1, h2, h3, h4⟩ := h
  exact ⟨⟨a, vk_R.warm hW ha⟩, ⟨b, vk_R.warm hW hb⟩, va_Nw.warmD hW h1, va_Nw.warmD hW h2, va_Nw.warmD hW h3, va_Nw.warmC hW h4⟩
theorem vxW_call {U : State} (g : JFrame) (mk : MethodId) (a : Array Value) (h : vxW U) : vxW (U.calling g mk a) := by
  obtain ⟨⟨x, ha⟩, ⟨b, hb⟩, h1, h2, h3, h4⟩ := h
  exact ⟨⟨x, vk_R.same rfl ha⟩, ⟨b, vk_R.same rfl hb⟩, va_Nw.same rfl rfl h1, va_Nw.same rfl rfl h2, va_Nw.same rfl rfl h3, va_Nw.same rfl rfl h4⟩
def vxZ (A : Nat → Prop) (U : State) (H : Heap) : Prop := vx_Zq Bundle.tN "UNASSIGNED_STACK" Bundle.steD A U H ∧ vx_Zq Bundle.tN "SUPPRESSED_SENTINEL" Bundle.listD A U H
theorem vyL_hold {args : Array Value} {s : State} {c0 : Cond} (h : ∀ w ∈ c0 :: uW, w.before args s = true) (hx : vxW s) : ∀ w ∈ vyL, w.before args s = true := by
  refine vx_hat (B := [.declares (Bundle.initS xRT), .declares (Bundle.initS xEX), .declares (Bundle.initS Bundle.tN)]) (fun w hw => h w (List.mem_cons_of_mem _ (vyL_uW w hw))) (fun w hw => by rw [vyL_bad] at hw; exact hw) ?_
  obtain ⟨-, -, h1, h2, h3, -⟩ := hx
  exact vx_c (va_Nw.use rfl h1) (vx_c (va_Nw.use rfl h2) (vx_c (va_Nw.use rfl h3) vx_n))
section VYW
variable {p : Program} {l : Launch} {e : Env} {R : Room} {s : State} {m : MethodId} {args : Array Value} {below : List Frame} {meth : Method} {c : Code} {H : Heap} {locs : List Loc} {cells slots : Nat} {ls : Array Slot} {rest : List Value} {Qc : Array Value → State → Outcome → State → Prop} {XC : String → State → State → Prop} {free : Addr → Prop}
theorem vy_throw {cc : ByteArray} {pc : Nat} (hexec : p.tables.exec = Jvm.exec) (hb : c.code = cc) (hl : l.stackTraces = false) {text : String} {is mc ms sa : Nat} {A : Nat → Prop}
    (hown : s.vm.findClass RX3 = some m.cls)
    (hk : (Cond.classLink RX3 107 xNS).before args s = true) (hini : (Cond.initialized xNS).before args s = true) (hstr : vk_R RX3 is text sa s) (hat : ∀ w ∈ vyL, w.before args s = true)
    (hz : vxZ A s s.heap) (hS : va_S A s.heap H locs) (hsize : ls.size = c.maxLocals)
    (d0 : decode cc pc = .ok (.new 107, 3)) (d3 : decode cc (pc + 3) = .ok (.dup, 1)) (d4 : decode cc (pc + 4) = .ok (.ldc is, 2)) (d6 : decode cc (pc + 6) = .ok (.invokespecial 111, 3)) (d9 : decode cc (pc + 9) = .ok (.athrow, 1))
    (hout : ∀ x ∈ c.exceptionTable.toList, covers x (pc + 9) = false)
    (hRframes : 5 < R.frames) (hRlocals : (rest.map fun v => v.category).sum + 82 ≤ R.locals) (hRcells : cells + 1 ≤ R.cells) (hRslots : slots + 6 ≤ R.slots) (hlocks : meth.locks = false)
    (hx : ∀ t : State, s.vm.Alike t.vm → H.size ≤ t.heap.size → (∀ q : Nat, q < H.size → t.heap[q]? = H[q]?) → XC xNS s t)
    (hf : ∀ z ∈ locs, free z.base) (hc : cells + 1 ≤ mc) (hs : slots + 6 ≤ ms) :
    W p l e R s m args below meth c H locs cells slots (vx_MQ below Qc XC args s mc ms free) (F0 m pc ls rest) := by
  intro T hT X
  have htr : e.platform.stackTraces = false := (show e.platform.stackTraces = l.stackTraces by rw [X.admits.platform]).trans hl
  have Y := vx_rebase X (R' := { frames := R.frames, locals := R.locals, cells := 1, slots := 6 }) (Nat.le_refl _) (Nat.le_refl _) hRcells hRslots
  obtain ⟨s', hA⟩ : ∃ z, z = (T.setVm s.vm).setFrames (.invoking m args :: below) := ⟨_, rfl⟩
  rw [← hA] at Y
  have hvm : s'.vm = s.vm := by rw [hA]; rfl
  have hhp : s'.heap = H := by rw [hA]; exact hT
  have hW0 : s.WarmedH s'.vm := by rw [hvm]; exact State.WarmedH.refl s
  have hat' : ∀ w ∈ vyL, w.before args s' = true := fun w hw => vx_ot_at hW0 hvm.symm (vyL_ot w (List.mem_cons_of_mem _ (List.mem_cons_of_mem _ hw))) (hat w hw)
  have hk' : (Cond.classLink RX3 107 xNS).before args s' = true := vx_ot_at hW0 hvm.symm (vyL_ot _ List.mem_cons_self) hk
  have hini' : (Cond.initialized xNS).before args s' = true := vx_ot_at hW0 hvm.symm (vyL_ot _ (List.mem_cons_of_mem _ List.mem_cons_self)) hini
  have hU' : vx_Zq Bundle.tN "UNASSIGNED_STACK" Bundle.steD A s' s'.heap := by rw [hhp]; exact vx_Zq.moved hW0.alike (hz.1.kept hS.2.1)
  have hN' : vx_Zq Bundle.tN "SUPPRESSED_SENTINEL" Bundle.listD A s' s'.heap := by rw [hhp]; exact vx_Zq.moved hW0.alike (hz.2.kept hS.2.1)
  have h : ∀ w ∈ vy_all RX3 111 xNS xRT [xEX] 13 six13, w.before args s' = true := vx_own hat' (vx_isRefq hU'.1) (vx_isRefq hN'.1) hU'.2.word hN'.2.word
  have hown' : s'.vm.findClass RX3 = some m.cls := by rw [hvm]; exact hown
  have hins : (Cond.instantiable xNS 6).before args s' = true := h _ (List.mem_append_right _ (List.mem_append_right _ (List.mem_append_right _ (List.mem_append_right _ (by simp [vy_tail])))))
  obtain ⟨vm₁, cX, kX, hfX, hkX, -, -, X₁, st1⟩ := Y.newCold hexec (own := RX3) (C := xNS) (index := 107) (n := 6) hown' hk' hins hini'
    (g := F0 m pc ls rest) rfl (by rw [hb]; exact d0) (Nat.le_refl _) (Nat.le_refl _)
  generalize hT1 : (T.setVm vm₁).pushCell { cls := cX, slots := kX.instanceTypes.map defaultValue, vm := .none } = T1 at X₁ st1
  have hcat : (Value.ref T.heap.size).category = 1 := rfl
  have hcellA : T1.heap[T.heap.size]? = some (freshCell cX kX) := by rw [← hT1]; exact State.heap_pushCell_size _ _
  have d3' : decode c.code (pc + 3) = .ok (.dup, 1) := by rw [hb]; exact d3
  have d4' : decode c.code (pc + 4) = .ok (.ldc is, 2) := by rw [hb]; exact d4
  have hstr' : vk_R RX3 is text sa s' := vk_R.warm hW0 hstr
  obtain ⟨U, hsteps, hrun, hend, hW, hsame, ce, hce, hO, hOc⟩ := vy_ctor X₁ hexec htr (own := RX3) (cls := xNS) (Yn := xRT) (names := [xEX]) (ic := 111) (ix := 13) (bytes := six13) (by decide +kernel) (by decide +kernel) (by decide +kernel) (by decide +kernel) hown' (by decide +kernel) (by decide +kernel) (by decide +kernel) h (fun x hx => nomatch hx) hfX hkX hcellA (by rw [hhp, hT]; exact Nat.le_refl _) (msg := .ref sa) rfl
    (g := { method := m, pc := pc + 6, locals := ls, stack := .ref sa :: .ref T.heap.size :: .ref T.heap.size :: rest, locked := none }) rfl hsize rfl rfl (rest := rest) rfl
    (by rw [hb]; exact d6) (by rw [hb]; exact d9) hout (by show 1 + 4 < R.frames; omega) (by simp only [List.map_cons, List.sum_cons, hcat, List.length_cons, List.length_nil]; show 2 * 0 + _ + _ ≤ R.locals; omega) hlocks
  obtain ⟨f1, f2⟩ := vx_frame hsame
  rw [hhp] at f1 f2
  have hWs : s.WarmedH U.vm := State.WarmedH.trans hW0 hW
  have hcl : s.vm.findClass xNS = some ce.cls := by rw [← hvm]; exact hOc
  have hall : s.sameButNew ({ U with vm := s.vm } : State) locs mc ms := by
    subst hA
    obtain ⟨e1, e2⟩ := hsame
    rw [State.setFrames_setFrames] at e1
    have h2 : (T.setVm s.vm).sameButNew ({ U with vm := s.vm } : State) [] (0 + 1) (0 + 6) := ⟨e1, e2⟩
    have h3 := X.same.trans h2
    rw [List.append_nil] at h3
    exact h3.mono hc hs
  refine ⟨U, ?_, .threw T.heap.size, hrun, hend, Or.inr ⟨T.heap.size, rfl, xNS, ce, locs, hx U hWs.alike f1 (fun q hq => f2 q hq (fun z hz => nomatch hz)), hce, hO, hcl, hWs, hall, hf⟩⟩
  refine st1 _ ?_
  show Steps p.tables e below (T1.setTop { method := m, pc := pc + 3, locals := ls, stack := .ref T.heap.size :: rest, locked := none }) _
  jvm_step X₁.here [X₁.here.top, hexec, d3', Value.category]
  exact X₁.ldcString hexec (own := RX3) (text := text) (index := is) (a := sa) hown' hstr'.1 hstr'.2
    (g := { method := m, pc := pc + 4, locals := ls, stack := .ref T.heap.size :: .ref T.heap.size :: rest, locked := none }) rfl d4' _ hsteps
end VYW
/-- a contract that returns r where ok, and throws elsewhere; the world stays -/
def vPx (D : va_G) (tys : List (ClassId × FieldType)) (A : Nat → Prop) (w : va_W) (as : List Value) : Array Value → State → Prop := va_Pc as (fun U => va_P D vwCl w U.heap ∧ vkA D tys U ∧ va_D A w ∧ vxW U ∧ vxZ A U U.heap ∧ ∀ q, U.heap.size ≤ q → A q)
def vQx (D : va_G) (A : Nat → Prop) (ok : Prop) (r : Int32) (w : va_W) : Array Value → State → Outcome → State → Prop := va_Qi (S := Unit) (fun x _ => ok ∧ x = r) (fun _ t => va_P D vwCl w t.heap ∧ va_D A w) A
def vXx (D : va_G) (A : Nat → Prop) (ok : Prop) (w : va_W) : String → State → State → Prop := vx_X (S := Unit) (fun _ => ¬ ok) (fun E _ t => E = xNS ∧ va_P D vwCl w t.heap ∧ va_D A w) A
def vKx (l : Launch) (D : va_G) (tys : List (ClassId × FieldType)) (A : Nat → Prop) (y : MethodName) (wo : List Cond) (rm : Room) (mc ms : Nat) (w : va_W) (as : List Value) (ok : Prop) (r : Int32) : Prop := vx_Met l y wo rm (vPx D tys A w as) (vQx D A ok r w) (vXx D A ok w) mc ms A
theorem vxZ_moved {A : Nat → Prop} {u U : State} {H : Heap} (h : u.vm.Alike U.vm) (hz : vxZ A u H) : vxZ A U H := ⟨vx_Zq.moved h hz.1, vx_Zq.moved h hz.2⟩
theorem vPx_blind (D : va_G) (tys : List (ClassId × FieldType)) (A : Nat → Prop) (w : va_W) (as : List Value) : FrameBlind (vPx D tys A w as) := fun a U g mk q => ⟨q.1, q.2.1, vkA_call g mk a q.2.2.1, q.2.2.2.1, vxW_call g mk a q.2.2.2.2.1, vxZ_moved (u := U) (U := U.calling g mk a) (Vm.Alike.refl U.vm) q.2.2.2.2.2.1, q.2.2.2.2.2.2⟩
section VXR
variable {D : va_G} {tys : List (ClassId × FieldType)} {A : Nat → Prop} {nL : Nat} {p : Program} {l : Launch} {e : Env} {R : Room} {s : State} {m : MethodId} {args : Array Value} {below : List Frame} {meth : Method} {c : Code} {cells slots : Nat} {Q : State → Prop} {cc : ByteArray} {Ts : List Cond} {own : String} {ws : va_W} {L : List Value} {pc : Nat} {st : List Value}
theorem vV_throw {c0 : Cond} (C : vCx D tys p m c cc nL s args (c0 :: uW) RX3) (hl0 : l.stackTraces = false) (hx : vxW s) (hz : vxZ A s s.heap) {is sa : Nat} {text : String} (hstr : vk_R RX3 is text sa s) (hlk : meth.locks = false) (hout : ∀ x ∈ c.exceptionTable.toList, False)
    (hcl : Cond.classLink RX3 107 xNS ∈ uW) (hini : Cond.initialized xNS ∈ uW) (d0 : decode cc pc = .ok (.new 107, 3)) (d3 : decode cc (pc + 3) = .ok (.dup, 1)) (d4 : decode cc (pc + 4) = .ok (.ldc is, 2)) (d6 : decode cc (pc + 6) = .ok (.invokespecial 111, 3)) (d9 : decode cc (pc + 9) = .ok (.athrow, 1))
    (hfr : 5 < R.frames) (hlo : (st.map fun v => v.category).sum + 82 ≤ R.locals) (hRc : cells + 1 ≤ R.cells) (hRs : slots + 6 ≤ R.slots) {mc ms : Nat} (hc : cells + 1 ≤ mc) (hs : slots + 6 ≤ ms) {ok : Prop} {r : Int32} (hno : ¬ ok) : vV D tys A nL p l e R s m args below meth c cells slots (vx_MQ below (vQx D A ok r ws) (vXx D A ok ws) args s mc ms A) ws L pc st := fun H locs ls hP hD hS hl =>
  vy_throw C.1.1 C.1.2.1 hl0 C.1.2.2.2.1 (C.1.2.2.2.2 _ (List.mem_cons_of_mem _ hcl)) (C.1.2.2.2.2 _ (List.mem_cons_of_mem _ hini)) hstr (vyL_hold C.1.2.2.2.2 hx) hz hS (hl.1.trans C.1.2.2.1.symm) d0 d3 d4 d6 d9 (fun x h => (hout x h).elim) hfr hlo hRc hRs hlk
    (fun t _ hsz hk => ⟨(), hno, ⟨rfl, fun k q hq => (hP k q hq).kept (hk q.1 (hP k q hq).lt), hD⟩, Nat.le_trans hS.1 hsz, fun q h1 h2 => (hk q (Nat.lt_of_lt_of_le h1 hS.1)).trans (hS.2.1 q h1 h2)⟩) hS.2.2 hc hs
theorem vV_xiret (C : vCx D tys p m c cc nL s args Ts own) (hr : meth.sig.returnType = some .int) (hlk : meth.locks = false) {x r : Int32} {ok : Prop} (hok : ok) {mc ms : Nat} {X : String → State → State → Prop} (hc : cells ≤ mc) (hs : slots ≤ ms) (hd : decode cc pc = .ok (.ireturn, 1)) (hx : x = r) : vV D tys A nL p l e R s m args below meth c cells slots (vx_MQ below (vQx D A ok r ws) X args s mc ms A) ws L pc [.int x] :=
  fun H locs ls hP hD hS hl => W.widen hc hs (vx_ret (W.iret C.1.1 C.1.2.1 hr (fun t ht hW => ⟨⟨x, (), rfl, ⟨hok, hx⟩, by rw [ht]; exact hP, hD⟩, hS.F ht⟩) hS.2.2 hd hlk))
theorem vKx_of {y : MethodName} {wo wo' : List Cond} {rm : Room} {maxL mc ms : Nat} {w : va_W} {as : List Value} {ok : Prop} {r : Int32} {ret : Option FieldType} (hy : plainName y.cls = true) (hw : wo = Cond.code y cc maxL ret :: wo') (hc : (as.all fun v => v.category == 1) = true) (hsz : (lg_sl as).length ≤ maxL)
    (body : ∀ (p : Program) (e : Env) (s : State) (m : MethodId) (below : List Frame) (meth : Method) (c : Code), vCx D tys p m c cc maxL s as.toArray wo y.cls → meth.sig.returnType = ret → meth.locks = false → (∀ x ∈ c.exceptionTable.toList, False) → vxW s → vxZ A s s.heap → (∀ q, s.heap.size ≤ q → A q) → vV D tys A maxL p l e rm s m as.toArray below meth c 0 0 (vx_MQ below (vQx D A ok r w) (vXx D A ok w) as.toArray s mc ms A) w as 0 []) : vKx l D tys A y wo rm mc ms w as ok r := by
  refine vx_ofW (cc := cc) (maxL := maxL) (ret := ret) hy hw ?_
  intro p e s m args below meth c s₁ B hml hex hv
  obtain ⟨rfl, hP, hK, hD, hx, hz, hA⟩ := hv
  have hl := vlP_entry (fun v hv => by simpa using List.all_eq_true.mp hc v hv) (lv_entry as (n := maxL) hsz)
  rw [lg_entry_eq]
  exact body p e s m below meth c ⟨⟨B.exec, B.bytes, hml, findClass_of_methodNamed B.named, atoms_spec (ws := wo) B.pre⟩, hK⟩ B.returns B.notSynchronized hex hx hz hA s.heap [] _ hP hD va_S.rf hl
/-- a call that returns or throws, of the one part w1 -/
theorem vF_callX (C : vCx D tys p m c cc nL s args Ts own) (hA0 : ∀ q, s.heap.size ≤ q → A q) (hx : vxW s) (hz : vxZ A s s.heap) (w0 w1 w2 : va_W) {y : MethodName} {wo : List Cond} {rm : Room} {b : Nat} {As rest : List Value} {mc ms : Nat} {ok : Prop} {r : Int32} (hM : ∀ A, vKx l D tys A y wo rm mc ms w1 (.ref b :: As) ok r) {K : String} {index : Nat} {bytes : ByteArray} {maxL : Nat} {ret : Option FieldType} {n : Nat} (cw : CallW R s args own K index y bytes maxL ret wo rm mc ms n) (q0 : Nat) {ci : Nat} {fs : List Value} {T : u_T} {N : Nat} (he : w1[q0]? = some (b, .inr (ci, fs))) (hc : vwCl[ci]? = some (K, T, N)) (hst : st = As.reverse ++ .ref b :: rest) (hn : As.length = n) (hrm : (rest.map fun v => v.category).sum ≤ 8) (hcs : cells + mc ≤ R.cells ∧ slots + ms ≤ R.slots) (hd : decode cc pc = .ok (.invokevirtual index, 3))
    (kx : ¬ ok → ∀ (H1 : Heap) (locs1 : List Loc) (ls : Array Slot) (ce : Cell) (q9 : Addr), va_P D vwCl (w0 ++ (w1 ++ w2)) H1 → va_D A (w0 ++ (w1 ++ w2)) → va_S A s.heap H1 locs1 → vlP ls nL L → H1[q9]? = some ce → ce.vm = .none → s.vm.findClass xNS = some ce.cls → vx_W p l e R s m args below meth c H1 locs1 (cells + mc) (slots + ms) Q (F0 m pc ls rest) q9)
    (kk : ok → vV D tys A nL p l e R s m args below meth c (cells + mc) (slots + ms) Q (w0 ++ (w1 ++ w2)) L (pc + 3) (.int r :: rest)) : vV D tys A nL p l e R s m args below meth c cells slots Q (w0 ++ (w1 ++ w2)) L pc st := fun H locs ls hP hD hS hl => by
  have hP1 := (vP_mem (vP_mem hP).2).1
  have hD1 := (vD_mem (vD_mem hD).2.1).1.self (sz := H.size)
  have hF := vfree hD hS hA0
  refine vx_calli (vx_runV (As := As) (rest := rest) C.1 (hM (va_A w1 H.size)) cw ⟨vPx_blind D tys _ w1 _, va_recv C.2.1 hP1 hc he, fun U hU hW => ⟨rfl, by rw [hU]; exact hP1, vkA_warm hW C.2, hD1, vxW_warm hW hx, by rw [hU]; exact vxZ_moved hW.alike ⟨(hz.1.kept hS.2.1).narrow hF, (hz.2.kept hS.2.1).narrow hF⟩, fun q hq => Or.inr (by rw [← hU]; exact hq)⟩⟩ rfl hn hl.1 hst (lv_room hrm) hd hcs) hS (fun q _ h => hF q h) hF (fun q _ h => hF q h) (fun E ce q9 u t H1 locs1 ht hvm hp hB hsz hk hS h1 h2 h3 => ?_) (fun r1 u t H1 locs1 ht hvm hp hB hsz hk hS => ?_)
  · obtain ⟨rfl, hPt, hDt⟩ := hB
    obtain ⟨hP2, hD2⟩ := vjoin hP hD hk hF (by rw [← ht]; exact hPt) hDt
    exact kx hp H1 locs1 ls ce q9 hP2 hD2 hS hl h1 h2 h3
  · obtain ⟨hok, rfl⟩ := hp
    obtain ⟨hP2, hD2⟩ := vjoin hP hD hk hF (by rw [← ht]; exact hB.1) hB.2
    exact kk hok H1 locs1 ls hP2 hD2 hS hl
end VXR
