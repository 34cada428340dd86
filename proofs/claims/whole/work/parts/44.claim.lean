/-! the start, and the claim -/
theorem lwm {i : Nat} {w : Cond} (h : lw_tbl[i]? = some w) : w ∈ lw_tbl := List.mem_of_getElem? h
theorem arr_K {s : State} {args : Array Value} {ty : FieldType} (h : (Cond.arrayClass ty).before args s = true) : ∃ cA : ClassId, ArrOfT s cA ty ∧ s.vm.findClass ("[" ++ ty.toString) = some cA := by
  obtain ⟨cA, kA, comp, h1, h2, h3⟩ := Cond.arrayClass_spec h
  exact ⟨cA, fun n z => ⟨fun k h => (by cases h), kA, h2, comp, h3⟩, h1⟩
section VLN
variable {D : va_G} {A : Nat → Prop} {nL : Nat} {p : Program} {l : Launch} {e : Env} {R : Room} {s : State} {m : MethodId} {args : Array Value} {below : List Frame} {meth : Method} {c : Code} {cells slots : Nat} {Q : State → Prop} {cc : ByteArray} {own : String} {ws : va_W} {L : List Value} {pc : Nat} {st : List Value}
theorem vV_newl {cI cZ cL : ClassId} {c0 : Cond} (C : vCx D (vtys cI cZ) p m c cc nL s args (c0 :: uW) own) (hK3 : va_K D vwCl (vtys cI cZ ++ [(cL, .long)]) s) (harr : Cond.arrayClass .long ∈ uW) (hA0 : ∀ q, s.heap.size ≤ q → A q) (hcells : cells + 1 ≤ R.cells) (hslots : slots + 1 ≤ R.slots) (hd : decode cc pc = .ok (.newarray .long, 2)) (kk : ∀ q : Nat, vV D (vtys cI cZ) A nL p l e R s m args below meth c (cells + 1) (slots + 1) Q (ws ++ [lO cL q (fun _ => 0)]) L (pc + 2) (.ref q :: st)) : vV D (vtys cI cZ) A nL p l e R s m args below meth c cells slots Q ws L pc (.int 1 :: st) := fun H locs ls hP hD hS hl =>
  va_newa (a0 := (1, .inr (.inl (fun _ => 0)))) C.1.1 C.1.2.1 (atype := .long) (C.1.2.2.2.2 _ (List.mem_cons_of_mem _ harr)) (ty := .long) rfl C.2.1 hP hD hS hA0 (fun cA => rfl) (by decide) (N' := 1) rfl (by decide) hcells hslots hd (fun q cA H1 hK hP hD hS => by
    have e1 : s.vm.findClass ("[" ++ FieldType.long.toString) = some cL := (hK3.2 2 (cL, .long) rfl).2
    have e2 : s.vm.findClass ("[" ++ FieldType.long.toString) = some cA := (hK.2 2 (cA, .long) rfl).2
    obtain rfl : cL = cA := Option.some.inj (e1.symm.trans e2)
    exact kk q H1 locs ls hP hD hS hl)
end VLN
theorem E01 : E0 2 = E1 2 ∧ E0 3 = E1 3 ∧ E0 4 = E1 4 ∧ E0 5 = E1 5 ∧ E0 6 = E1 6 ∧ (E0 8 0 = E1 8 0 ∧ E0 8 1 = E1 8 1 ∧ E0 8 2 = E1 8 2) := by
  unfold E1
  refine ⟨?_, ?_, ?_, ?_, ?_, ?_, ?_, ?_⟩ <;> (rw [m_lev_q _ (by decide)]; first | rfl | decide)
theorem lw_X {s : State} {b : Nat} (hts : ∀ w ∈ lw_tbl, w.before #[Value.ref b] s = true) (hgv : (Jvm.Cond.and given_1 narrow_1).before #[Value.ref b] s = true) : vxW s ∧ vxZ (A0 s) s s.heap := by
  have hs := flat_of_before _ hgv
  obtain ⟨cur, kc, hcur, -⟩ := Cond.instantiable_spec (hts (.instantiable RX3 4) (List.mem_filter.mp u1_14).1)
  have w1 := hts (.stringRef RX3 109 "no such climber") (lwm (i := 466) (by decide +kernel))
  have w2 := hts (.stringRef RX3 135 "nothing of a climber has this number") (lwm (i := 493) (by decide +kernel))
  obtain ⟨-, -, -, a1, -, -, -, -, -, h1⟩ := Cond.stringRef_spec hcur w1
  obtain ⟨-, -, -, a2, -, -, -, -, -, h2⟩ := Cond.stringRef_spec hcur w2
  refine ⟨⟨⟨a1, vk_R.of w1 h1⟩, ⟨a2, vk_R.of w2 h2⟩, va_Nw.of rfl (hts _ (lwm (i := 431) (by decide +kernel))), va_Nw.of rfl (hts _ (lwm (i := 433) (by decide +kernel))), va_Nw.of rfl (hts _ (lwm (i := 435) (by decide +kernel))), va_Nw.of rfl (hts _ (lwm (i := 429) (by decide +kernel)))⟩, ?_, ?_⟩
  · exact vx_Zqof (hts _ (lwm (i := 454) (by decide +kernel))) (hts _ (lwm (i := 45) (by decide +kernel))) (hs _ (by decide +kernel)) (fun a ha => Nat.not_le.mpr ha)
  · exact vx_Zqof (hts _ (lwm (i := 456) (by decide +kernel))) (hts _ (lwm (i := 45) (by decide +kernel))) (hs _ (by decide +kernel)) (fun a ha => Nat.not_le.mpr ha)
theorem lw_K {s : State} {b : Nat} (hts : ∀ w ∈ lw_tbl, w.before #[Value.ref b] s = true) : ∃ (D : va_G) (cI cZ cL : ClassId), vkA D (vtys cI cZ) s ∧ va_K D vwCl (vtys cI cZ ++ [(cL, .long)]) s := by
  have hu : ∀ w ∈ uW, w.before #[Value.ref b] s = true := fun w h => hts w (List.mem_filter.mp h).1
  obtain ⟨c0, i0, k0⟩ := u_known (C := RX0) (T := TX0) (N := 13) (n := 13) hu hinX0 (hu _ u1_100)
  obtain ⟨c1, i1, k1⟩ := u_known (C := RX1) (T := TX1) (N := 6) (n := 6) hu hinX1 (hu _ u1_65)
  obtain ⟨c2, i2, k2⟩ := u_known (C := RX2) (T := TX2) (N := 5) (n := 5) hu hinX2 (hu _ u1_22)
  obtain ⟨c3, i3, k3⟩ := u_known (C := RX3) (T := TX3) (N := 4) (n := 4) hu hinX3 (hu _ u1_14)
  obtain ⟨c4, i4, k4⟩ := u_known (C := RX4) (T := TX4) (N := 19) (n := 19) hu hinX4 (hu _ u2_218)
  obtain ⟨cI, hI1, hI2⟩ := arr_K (hu _ u1_62)
  obtain ⟨cZ, hZ1, hZ2⟩ := arr_K (hu _ u1_63)
  obtain ⟨cL, hL1, hL2⟩ := arr_K (hu _ u3_202)
  have hcl : ∀ (k : Nat) (q : vw_C), vwCl[k]? = some q → u_Kn s q.1 q.2.1 q.2.2 ((fun k => if k = 0 then c0 else if k = 1 then c1 else if k = 2 then c2 else if k = 3 then c3 else c4) k) ((fun k => if k = 0 then i0 else if k = 1 then i1 else if k = 2 then i2 else if k = 3 then i3 else i4) k) := by
    intro k q hq
    match k, hq with
    | 0, hq => cases hq; exact k0
    | 1, hq => cases hq; exact k1
    | 2, hq => cases hq; exact k2
    | 3, hq => cases hq; exact k3
    | 4, hq => cases hq; exact k4
    | k + 5, hq => simp [vwCl] at hq
  have hK3 : va_K (fun k => if k = 0 then c0 else if k = 1 then c1 else if k = 2 then c2 else if k = 3 then c3 else c4, fun k => if k = 0 then i0 else if k = 1 then i1 else if k = 2 then i2 else if k = 3 then i3 else i4) vwCl (vtys cI cZ ++ [(cL, .long)]) s := ⟨hcl, fun k q hq => by
    match k, hq with
    | 0, hq => cases hq; exact ⟨hI1, hI2⟩
    | 1, hq => cases hq; exact ⟨hZ1, hZ2⟩
    | 2, hq => cases hq; exact ⟨hL1, hL2⟩
    | k + 3, hq => simp at hq⟩
  exact ⟨_, cI, cZ, cL, ⟨hK3.sub [0, 1] rfl, va_Nw.of rfl (hts _ (lwm (i := 353) (by decide +kernel))), va_Nw.of rfl (hts _ (lwm (i := 228) (by decide +kernel)))⟩, hK3⟩
set_option maxRecDepth 100000 in
set_option maxHeartbeats 1000000 in
theorem whole_start {p : Program} {e : Env} {s : State} {m : MethodId} {below : List Frame} {meth : Method} {c : Code} (l : Launch) (hl0 : l.stackTraces = false) {b L : Nat} {xs : Nat → Int32} (hL : L ≤ 3072) (C1 : lw_At p s m meth c b L xs) : W p l e room_1 s m #[Value.ref b] below meth c s.heap [] 0 0 (lw_Z below #[Value.ref b] s) (entryFrame m ([Value.ref b] : List Value).toArray 7) := by
  obtain ⟨hx, hb, hr, hml, hown, hts, hX, hbl, hlocks, hgv⟩ := C1
  have hA : ∀ q, s.heap.size ≤ q → A0 s q := fun _ h => h
  obtain ⟨D, cI, cZ, cL, hK, hK3⟩ := lw_K hts
  obtain ⟨hxW, hxZ⟩ := lw_X hts hgv
  have Cx : vCx D (vtys cI cZ) p m c cL_law 7 s #[Value.ref b] uLw RL := ⟨⟨hx, hb, hml, hown, fun w hw => (List.mem_cons.mp hw).elim (fun e => by rw [e]; exact hts _ (List.mem_filter.mp u1_0).1) (fun h => hts w (List.mem_filter.mp h).1)⟩, hK⟩
  have hl := vlP_entry (vs := [.ref b]) (nL := 7) (by simp [Value.category]) (lv_entry [.ref b] (n := 7) (Nat.le_of_ble_eq_true rfl))
  rw [lg_entry_eq]
  suffices hV : vV D (vtys cI cZ) (A0 s) 7 p l e room_1 s m #[Value.ref b] below meth c 0 0 (lw_Z below #[Value.ref b] s) [] [.ref b] 0 [] from hV s.heap [] _ (fun k q h => by simp at h) ⟨fun i j p q h => by simp at h, fun k q h => by simp at h⟩ va_S.rf hl
  refine vV_new Cx hA hinX3 tyX3_ok u1_13 u1_14 u1_1 (ci := 3) rfl [.null, .null, .null, .null] (by decide +kernel) (Nat.le_of_ble_eq_true rfl) (Nat.le_of_ble_eq_true rfl) dL_law_0 (fun q1 => ?_)
  refine vV_dup Cx dL_law_3 rfl ?_
  refine vF_callIa Cx hA [] [(q1, .inr (3, [.null, .null, .null, .null]))] [] (fun A => KX3_init q1) (cwI 0 Cx.1.2.2.2.2 (uG u1_17) rfl rfl rfl (Cx.1.2.2.2.2 _ (List.mem_cons_of_mem _ u1_1)) (Cx.1.2.2.2.2 _ (List.mem_cons_of_mem _ u1_15)) (Cx.1.2.2.2.2 _ (List.mem_cons_of_mem _ u1_16)) rfl hdX3_init ⟨(Nat.le_of_ble_eq_true rfl), (Nat.le_of_ble_eq_true rfl)⟩) rfl rfl rfl (Nat.le_of_ble_eq_true rfl) ⟨(Nat.le_of_ble_eq_true rfl), (Nat.le_of_ble_eq_true rfl)⟩ dL_law_4 (fun f1 => ?_)
  refine vV_eq (ws' := wR cI cZ (adr q1 f1) E0 C0 C0 (fun _ => 0)) (by rw [List.append_nil, List.nil_append]) rfl rfl ?_
  refine vV_astore_n Cx 1 dL_law_7 rfl (by decide) ?_
  refine vV_new Cx hA hinX4 tyX4_ok u2_217 u2_218 u1_7 (ci := 4) rfl [.int 0, .null, .null, .int 0, .int 0, .null, .null, .null, .int 0, .null, .null, .null, .null, .null, .null, .int 0, .int 0, .int 0, .int 0] (by decide +kernel) (Nat.le_of_ble_eq_true rfl) (Nat.le_of_ble_eq_true rfl) dL_law_8 (fun q2 => ?_)
  refine vV_dup Cx dL_law_11 rfl ?_
  refine vF_callIa Cx hA (wR cI cZ (adr q1 f1) E0 C0 C0 (fun _ => 0)) [(q2, .inr (4, [.int 0, .null, .null, .int 0, .int 0, .null, .null, .null, .int 0, .null, .null, .null, .null, .null, .null, .int 0, .int 0, .int 0, .int 0]))] [] (fun A => KX4_init q2) (cwI 0 Cx.1.2.2.2.2 (uG u2_221) rfl rfl rfl (Cx.1.2.2.2.2 _ (List.mem_cons_of_mem _ u1_7)) (Cx.1.2.2.2.2 _ (List.mem_cons_of_mem _ u2_219)) (Cx.1.2.2.2.2 _ (List.mem_cons_of_mem _ u2_220)) rfl hdX4_init ⟨(Nat.le_of_ble_eq_true rfl), (Nat.le_of_ble_eq_true rfl)⟩) rfl rfl rfl (Nat.le_of_ble_eq_true rfl) ⟨(Nat.le_of_ble_eq_true rfl), (Nat.le_of_ble_eq_true rfl)⟩ dL_law_12 (fun f2 => ?_)
  refine vV_eq (ws' := wR cI cZ (adr q1 f1) E0 C0 C0 (fun _ => 0) ++ wN cI cZ (adr q2 f2) E1 C0 C0) (by rw [List.append_nil]) rfl rfl ?_
  refine vV_astore_n Cx 2 dL_law_15 rfl (by decide) ?_
  refine vV_iconst (v := 1) Cx dL_law_16 (by decide) ?_
  refine vV_newl Cx hK3 u3_202 hA (Nat.le_of_ble_eq_true rfl) (Nat.le_of_ble_eq_true rfl) dL_law_17 (fun q3 => ?_)
  refine vV_eq (ws' := wR cI cZ (adr q1 f1) E0 C0 C0 (fun _ => 0) ++ (wN cI cZ (adr q2 f2) E1 C0 C0 ++ [lO cL q3 (fun _ => 0)])) (by rw [List.append_assoc]) rfl rfl ?_
  refine vV_swap ?_
  refine vV_swE E01_0 E01_1 E01_7 E01.1 E01.2.1 E01.2.2.1 E01.2.2.2.1 E01.2.2.2.2.1 E01.2.2.2.2.2 ?_
  refine vV_astore_n Cx 3 dL_law_19 rfl (by decide) ?_
  refine vV_iconst (v := 0) Cx dL_law_20 (by decide) ?_
  refine vV_istore Cx dL_law_21 (by decide) ?_
  refine vV_widen (k := 45 + 0) (n := 968 + 6 * 0) (Nat.le_of_ble_eq_true rfl) (Nat.le_of_ble_eq_true rfl) ?_
  exact law_loop (am := adr q2 f2) (ad := adr q1 f1) (o := q3) ⟨Cx, hK3, hxW, hxZ, hX, hbl, hL⟩ hl0 hr hlocks (L + 1) 0 (by omega) (by omega) E1 C0 C0 C0 C0 (fun _ => 0) (fun _ => 0) 0 2 0 1 J_start
set_option maxHeartbeats 4000000 in
theorem lw_walk (l : Launch) (hl0 : l.stackTraces = false) (b : Addr) (xs : List Int32) : MetFree l x (headSpec (Jvm.Cond.code x code maxLocals ret :: tables_1) room_1) (lw_P b xs) (fun _ _ _ _ _ => True) lw_Q := by
  refine MetFree.of_bodyS (code := code) (maxLocals := maxLocals) (ret := ret) (by decide) ?_ ?_
  · intro args s m h hn
    obtain ⟨meth, c, h1, h2, h3, h4, h5, h6, -, -⟩ := Cond.code_spec hn (atoms_spec (ws := Jvm.Cond.code x code maxLocals ret :: tables_1) h _ List.mem_cons_self)
    exact ⟨meth, c, h1, h2, h3, h4, h5, h6⟩
  · intro p e s m args below meth c s₁ B hml0 hP _
    obtain ⟨rfl, hx, hbd, hgv⟩ := hP
    obtain ⟨scr, harrAt, hlist, hof, hsmall⟩ := hx
    obtain ⟨hcb, hkn, -, -⟩ := State.arrayAt?_spec harrAt
    have hown : s.vm.findClass R_law = some m.cls := findClass_of_methodNamed B.named
    have hts0 : ∀ c ∈ (Jvm.Cond.code x code maxLocals ret :: tables_1), c.before #[Value.ref b] s = true := atoms_spec (ws := Jvm.Cond.code x code maxLocals ret :: tables_1) B.pre
    have hts : ∀ w ∈ lw_tbl, w.before #[Value.ref b] s = true := k2_hts_sels lw_privs (fun w hw => hts0 w (List.mem_cons_of_mem _ hw)) lw_privs_ok
    have hml : c.maxLocals = 7 := B.maxLocals_eq (hts0 _ List.mem_cons_self)
    have X₀ : Stand p l e room_1 s m #[Value.ref b] below meth c s₁ [] 0 0 := Stand.of_body B
    have hh0 : s₁.heap = s.heap := by rw [B.state]; rfl
    have hsz : scr.slots.size = xs.length := by rw [← Array.length_toList, hlist, List.length_map]
    have hval : ∀ j : Nat, j < xs.length → scr.slots[j]? = some (.int (xs.getD j 0)) := fun j hj => by
      rw [← Array.getElem?_toList, hlist]
      simp [hj]
    have hbl : b < s.heap.size := (Array.getElem?_eq_some_iff.mp hcb).1
    have hX : va_X b xs.length (fun j => xs.getD j 0) s s.heap := ⟨scr, hcb, hof, hkn, hsz, hval⟩
    have K : W p l e room_1 s m #[Value.ref b] below meth c s₁.heap [] 0 0 (lw_Z below #[Value.ref b] s) (entryFrame m ([Value.ref b] : List Value).toArray 7) := by
      rw [hh0]
      exact whole_start l hl0 hbd ⟨B.exec, B.bytes, B.returns, hml, hown, hts, hX, hbl, B.notSynchronized, hgv⟩
    obtain ⟨t, a1, o, b1, b2, b3⟩ := K s₁ rfl X₀
    exact ⟨t, o, a1, b1, b2, b3⟩
theorem lw_pre_spec {args : Array Value} {s : State} (h : (Jvm.Cond.and given_1 narrow_1).before args s = true) (hr : rest_1_c.before args s = true) : ∃ (b : Addr) (xs : List Int32), lw_P b xs args s := by
  have hs := flat_of_before _ h
  have hq := flat_of_before _ hr
  have hc : (Cond.count 1).before args s = true := hs _ (by decide +kernel)
  have harr : (Cond.arrayOf (.arg 0) .int).before args s = true := hs _ (by decide +kernel)
  have hle : (Cond.le (.length (.arg 0)) (.int 3072)).before args s = true := hs _ (by decide +kernel)
  have hlen : (Cond.isInt (.length (.arg 0))).before args s = true := hq _ (by decide +kernel)
  have hall : (Cond.all (.arg 0) (.isInt (.elem (.arg 0) (.index 0)))).before args s = true := hq _ (by decide +kernel)
  obtain ⟨b, xs, hb, hx⟩ := State.ints_of_pre rfl harr hlen hall
  have hsm : xs.length < 2 ^ 31 := hx.choose_spec.2.2.2
  have hev : (Term.length (.arg 0)).eval args s none [] s = some (.int xs.length.toInt32) := hx.length_eval hb
  have hv := Cond.le_ints hev (show (Term.int 3072).eval args s none [] s = some (.int 3072) from rfl)
  have hd : xs.length.toInt32 ≤ 3072 := by
    simpa [Cond.before, Cond.holds, hv] using hle
  have hN : xs.length ≤ 3072 := (Int32.ofNat_le_ofNat hsm (by decide)).mp (show Int32.ofNat xs.length ≤ Int32.ofNat 3072 from hd)
  exact ⟨b, xs, Cond.one_arg hc (show args[0]? = some (.ref b) from hb), hx, hN, h⟩
theorem lw_comes (l : Launch) (hl0 : l.stackTraces = false) : Comes l x (Jvm.Cond.code x code maxLocals ret :: tables_1) room_1 (fun tb e args s => Calls_1 tb e args s ∧ rest_1 tb e args s ∧ Pre_1 tb e args s)
    (fun _ _ args s o t => lw_Q args s o t) := by
  intro p e ha hc hk s m args below hf hfit hheap happ hpre
  obtain ⟨b, xs, hP⟩ := lw_pre_spec hpre.2.2 hpre.2.1
  obtain ⟨k, o, h1, h2, h3, hQ⟩ := lw_walk l hl0 b xs p e ha hc hk s m args below hf ((Spec.applies_iff_loose hf).mp happ).1 hP trivial
  exact ⟨k, o, h1, h2, h3, hQ⟩
theorem lw_frame {s t : State} {o : Outcome} {args : Array Value} (h : Framed s o t [] 1071 9172) :
    Framed s o t (fieldLocs frame_1_writes args s ++ arrayLocs frame_1_arrays args s ++ staticLocs frame_1_statics s) 1071 9172 := h
theorem lw_limb (L : Cond) (hL : ∀ (args : Array Value) (s t : State), L.after args s (.returned (some (.int 1))) t = true) :
    ArmFor flags0 classFile x code maxLocals ret World_1 tables_1 room_1 Calls_1 rest_1 Pre_1
      (fun tb e a s o t => postC L tb e a s o t ∧ Framed s o t (fieldLocs frame_1_writes a s ++ arrayLocs frame_1_arrays a s ++ staticLocs frame_1_statics s) 1071 9172) := by
  intro l hfl _ _ p e ha hc hk s m args below hf hfit hheap happ hpre
  obtain ⟨k, o, h1, h2, h3, rfl, hF⟩ := lw_comes l (by unfold Launch.stackTraces; rw [hfl]; decide) p e ha hc hk s m args below hf hfit hheap happ hpre
  exact ⟨k, _, h1, h2, h3, hL args s _, lw_frame hF⟩
theorem i_vc : Claimed_1_1 ∧ Claimed_1_2 := ⟨lw_limb limb_1_1 (fun args s t => by simp [limb_1_1, Cond.after, Cond.holds, Cond.value]), lw_limb limb_1_2 (fun args s t => Cond.after_iff.mpr (by
  first | (rw [show limb_1_2 = Cond.eq .result (.int 1) from rfl, Cond.eq_ints (x := 1) (y := 1) rfl rfl]; simp; done) | (simp [limb_1_2, Cond.value, Term.eval]; done)))⟩
