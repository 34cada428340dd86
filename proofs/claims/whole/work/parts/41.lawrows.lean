/-! rows of the law's own walk -/
set_option maxRecDepth 100000 in
set_option maxHeartbeats 1000000 in
theorem KX4_plan_out {l : Launch} {D : va_G} {cI cZ : ClassId} {ad : Nat → Nat} {A : Nat → Prop} {E C N : mT} {v : Int32} (hv : isW v 1 3 = 0) : vKi l D (vtys cI cZ) A yX4_plan (uT yX4_plan cX4_plan 9 (some .int)) rX4_plan (wN cI cZ ad E C N) [.ref (ad 0), .int v] (-1) (wN cI cZ ad E C (cS N 2 0 0)) := by
  refine vKi_of (cc := cX4_plan) (maxL := 9) (ret := some .int) (by decide) rfl rfl (Nat.le_of_ble_eq_true rfl) ?_
  intro p e s m below meth c Cx hr hlk
  refine vV_aload_n Cx 0 dX4_plan_0 rfl rfl ?_
  refine vV_iconst (v := 0) Cx dX4_plan_1 (by decide) ?_
  refine vU_put Cx hinX4 tyX4_ok nmX4 0 rfl rfl 15 (by decide) u3_2 rfl (by decide +kernel) (Nat.le_of_ble_eq_true rfl) dX4_plan_2 np_thrown ?_
  refine vV_iload_n Cx 1 dX4_plan_5 rfl rfl ?_
  refine vV_iconst (v := 1) Cx dX4_plan_6 (by decide) ?_
  refine vV_iconst (v := 3) Cx dX4_plan_7 (by decide) ?_
  refine vV_callSi Cx (KX4_in (ad := ad) _ _ _ _) (cwS 3 Cx.1.2.2.2.2 (uGS u3_53 u3_54 u1_7 u3_55) rfl rfl rfl hdX4_in ⟨Nat.le_of_ble_eq_true rfl, Nat.le_of_ble_eq_true rfl⟩) rfl rfl (Nat.le_of_ble_eq_true rfl) ⟨Nat.zero_le _, Nat.zero_le _⟩ dX4_plan_8 ?_
  refine vV_if_ne (tgt := 16) Cx dX4_plan_11 (by decide) (fun h => absurd hv h) (fun h => ?_)
  refine vV_iconst (v := -1) Cx dX4_plan_14 (by decide) ?_
  exact vV_iret Cx hr hlk dX4_plan_15 rfl rfl
section VLW
variable {D : va_G} {tys : List (ClassId × FieldType)} {A : Nat → Prop} {nL : Nat} {p : Program} {l : Launch} {e : Env} {R : Room} {s : State} {m : MethodId} {args : Array Value} {below : List Frame} {meth : Method} {c : Code} {cells slots : Nat} {Q : State → Prop} {cc : ByteArray} {Ts : List Cond} {own : String} {ws : va_W} {L : List Value} {pc : Nat} {st : List Value}
theorem vV_sld (C : vCx D tys p m c cc nL s args Ts own) {b n : Nat} {xs : Nat → Int32} (hX : va_X b n xs s s.heap) (hbl : b < s.heap.size) (hbA : ¬ A b) {i : Int32} {j : Nat} (hi : vix i n j) (hd : decode cc pc = .ok (.iaload, 1)) (k : vV D tys A nL p l e R s m args below meth c cells slots Q ws L (pc + 1) (.int (xs j) :: st)) : vV D tys A nL p l e R s m args below meth c cells slots Q ws L pc (.int i :: .ref b :: st) := fun H locs ls hP hD hS hl => va_sld C.1.1 C.1.2.1 hX hbl hbA hS hi.1 hd (by rw [hi.2]; exact k H locs ls hP hD hS hl)
theorem vV_slen (C : vCx D tys p m c cc nL s args Ts own) {b n : Nat} {xs : Nat → Int32} (hX : va_X b n xs s s.heap) (hbl : b < s.heap.size) (hbA : ¬ A b) (hd : decode cc pc = .ok (.arraylength, 1)) (k : vV D tys A nL p l e R s m args below meth c cells slots Q ws L (pc + 1) (.int (nI n) :: st)) : vV D tys A nL p l e R s m args below meth c cells slots Q ws L pc (.ref b :: st) := fun H locs ls hP hD hS hl => va_slen C.1.1 C.1.2.1 hX hbl hbA hS hd (k H locs ls hP hD hS hl)
theorem vV_iand (C : vCx D tys p m c cc nL s args Ts own) {x y : Int32} (hd : decode cc pc = .ok (.iand, 1)) (k : vV D tys A nL p l e R s m args below meth c cells slots Q ws L (pc + 1) (.int (x &&& y) :: st)) : vV D tys A nL p l e R s m args below meth c cells slots Q ws L pc (.int y :: .int x :: st) := fun H locs ls hP hD hS hl => lv_iand C.1.1 C.1.2.1 hd (k H locs ls hP hD hS hl)
theorem vV_lcmp0 (C : vCx D tys p m c cc nL s args Ts own) {x : Int64} (hd : decode cc pc = .ok (.lcmp, 1)) (k : vV D tys A nL p l e R s m args below meth c cells slots Q ws L (pc + 1) (.int 0 :: st)) : vV D tys A nL p l e R s m args below meth c cells slots Q ws L pc (.long x :: .long x :: st) := fun H locs ls hP hD hS hl => W.lcmp C.1.1 C.1.2.1 hd (by rw [show lg_cmp x x = 0 by unfold lg_cmp; simp [Int64.lt_irrefl]]; exact k H locs ls hP hD hS hl)
theorem vV_widen {k n : Nat} (h1 : cells ≤ k) (h2 : slots ≤ n) (kk : vV D tys A nL p l e R s m args below meth c k n Q ws L pc st) : vV D tys A nL p l e R s m args below meth c cells slots Q ws L pc st := fun H locs ls hP hD hS hl => W.widen h1 h2 (kk H locs ls hP hD hS hl)
theorem vG_callVi (C : vCx D tys p m c cc nL s args Ts own) (hA0 : ∀ q, s.heap.size ≤ q → A q) (w0 w1 w2 : va_W) {ws' : va_W} {y : MethodName} {wo : List Cond} {rm : Room} {b : Nat} {As rest : List Value} {r : Int32} {w1' : va_W} (hws : ws = w0 ++ (w1 ++ w2)) (hws' : w0 ++ (w1' ++ w2) = ws') (hM : ∀ A, vKi l D tys A y wo rm w1 (.ref b :: As) r w1') {K : String} {index : Nat} {bytes : ByteArray} {maxL : Nat} {ret : Option FieldType} {n : Nat} (cw : CallW R s args own K index y bytes maxL ret wo rm 0 0 n) (q0 : Nat) {ci : Nat} {fs : List Value} {T : u_T} {N : Nat} (he : w1[q0]? = some (b, .inr (ci, fs))) (hc : vwCl[ci]? = some (K, T, N)) (hst : st = As.reverse ++ .ref b :: rest) (hn : As.length = n) (hrm : (rest.map fun v => v.category).sum ≤ 8) (hcs : cells ≤ R.cells ∧ slots ≤ R.slots) (hd : decode cc pc = .ok (.invokevirtual index, 3))
    (kk : vV D tys A nL p l e R s m args below meth c cells slots Q ws' L (pc + 3) (.int r :: rest)) : vV D tys A nL p l e R s m args below meth c cells slots Q ws L pc st := by
  subst hws; subst hws'
  exact vF_callVi C hA0 w0 w1 w2 hM cw q0 he hc hst hn hrm hcs hd kk
/-- the law's own of -/
theorem vG_callO (C : vCx D tys p m c cc nL s args Ts own) (hA0 : ∀ q, s.heap.size ≤ q → A q) {cL : ClassId} (hK3 : va_K D vwCl (tys ++ [(cL, .long)]) s) (hx : vxW s) (hz : vxZ A s s.heap) (w0 w1 : va_W) {y : MethodName} {wo : List Cond} {rm : Room} {As rest : List Value} {mc ms : Nat} {r : Int32} {w1' : va_W} (hM : ∀ A, Met l y wo rm (vPo D tys cL A w1 As) (vQi D A r w1') mc ms A) {index : Nat} {bytes : ByteArray} {maxL : Nat} {ret : Option FieldType} {hh : List (Nat × Nat × Nat × Nat)} {n : Nat} (cw : vx_CSW R s args own index y bytes maxL ret hh wo rm mc ms n) (hst : st = As.reverse ++ rest) (hn : As.length = n) (hrm : (rest.map fun v => v.category).sum ≤ 8) (hcs : cells + mc ≤ R.cells ∧ slots + ms ≤ R.slots) (hd : decode cc pc = .ok (.invokestatic index, 3))
    (kk : vV D tys A nL p l e R s m args below meth c (cells + mc) (slots + ms) Q (w0 ++ w1') L (pc + 3) (.int r :: rest)) : vV D tys A nL p l e R s m args below meth c cells slots Q (w0 ++ w1) L pc st := fun H locs ls hP0 hD0 hS hl => by
  have hP : va_P D vwCl (w0 ++ (w1 ++ [])) H := by rw [List.append_nil]; exact hP0
  have hD : va_D A (w0 ++ (w1 ++ [])) := by rw [List.append_nil]; exact hD0
  have hP1 := (vP_mem hP0).2
  have hD1 := (vD_mem hD0).2.1.self (sz := H.size)
  have hF := vfree hD hS hA0
  refine va_calli (vx_runSW (As := As) (rest := rest) C.1 (hM (va_A w1 H.size)) cw ⟨vPo_blind D tys cL _ w1 _, fun U hU hW => ⟨rfl, by rw [hU]; exact hP1, vkA_warm hW C.2, va_K.moved hW.alike hK3, hD1, vxW_warm hW hx, by rw [hU]; exact vxZ_moved hW.alike ⟨(hz.1.kept hS.2.1).narrow hF, (hz.2.kept hS.2.1).narrow hF⟩, fun q hq => Or.inr (by rw [← hU]; exact hq)⟩⟩ rfl hn hl.1 hst (lv_room hrm) hd hcs) hS (fun q _ h => hF q h) hF (fun r1 u t H1 locs1 ht hvm hp hB hz hk hS => ?_)
  subst hp
  obtain ⟨hP2, hD2⟩ := vjoin hP hD hk hF (by rw [← ht]; exact hB.1) hB.2
  rw [List.append_nil] at hP2 hD2
  exact kk H1 locs1 ls hP2 hD2 hS hl
theorem vV_swap {w1 w2 w3 : va_W} (kk : vV D tys A nL p l e R s m args below meth c cells slots Q (w2 ++ (w1 ++ w3)) L pc st) : vV D tys A nL p l e R s m args below meth c cells slots Q (w1 ++ (w2 ++ w3)) L pc st := fun H locs ls hP hD hS hl => by
  obtain ⟨P1, P23⟩ := vP_mem hP
  obtain ⟨P2, P3⟩ := vP_mem P23
  obtain ⟨D1, D23, X1⟩ := vD_mem hD
  obtain ⟨D2, D3, X2⟩ := vD_mem D23
  have Y1 : ∀ (i j : Nat) (p q : Nat × va_E), w1[i]? = some p → w3[j]? = some q → p.1 ≠ q.1 := fun i j p q hi hj => X1 i (w2.length + j) p q hi (by rw [List.getElem?_append_right (by omega), show w2.length + j - w2.length = j by omega]; exact hj)
  have Y2 : ∀ (i j : Nat) (p q : Nat × va_E), w1[i]? = some p → w2[j]? = some q → p.1 ≠ q.1 := fun i j p q hi hj => X1 i j p q hi (by rw [List.getElem?_append_left (List.getElem?_eq_some_iff.mp hj).1]; exact hj)
  refine kk H locs ls (P2.app (P1.app P3)) (va_D.app D2 (va_D.app D1 D3 Y1) (fun i j p q hi hj e => ?_)) hS hl
  rcases List.mem_append.mp (List.mem_of_getElem? hj) with h | h
  · obtain ⟨k, hk⟩ := List.getElem?_of_mem h
    exact Y2 k i q p hk hi e.symm
  · obtain ⟨k, hk⟩ := List.getElem?_of_mem h
    exact X2 i k p q hi hk e
/-- what was told, as the reference has it -/
theorem vV_swE {cI cZ : ClassId} {ad : Nat → Nat} {E E' C T : mT} {S : Nat → Int32} {w0 w2 : va_W} (h0 : ∀ j, j < 6 → E 0 j = E' 0 j) (h1 : ∀ j, j < 6 → E 1 j = E' 1 j) (h7 : ∀ j, j < 4 → E 7 j = E' 7 j) (h2 : E 2 = E' 2) (h3 : E 3 = E' 3) (h4 : E 4 = E' 4) (h5 : E 5 = E' 5) (h6 : E 6 = E' 6) (h8 : E 8 0 = E' 8 0 ∧ E 8 1 = E' 8 1 ∧ E 8 2 = E' 8 2) (kk : vV D tys A nL p l e R s m args below meth c cells slots Q (w0 ++ (wR cI cZ ad E' C T S ++ w2)) L pc st) : vV D tys A nL p l e R s m args below meth c cells slots Q (w0 ++ (wR cI cZ ad E C T S ++ w2)) L pc st := fun H locs ls hP hD hS hl => by
  obtain ⟨P0, P12⟩ := vP_mem hP
  obtain ⟨P1, P2⟩ := vP_mem P12
  obtain ⟨D0, D12, X0⟩ := vD_mem hD
  obtain ⟨D1, D2, X1⟩ := vD_mem D12
  have Q1 := vP_rng (q := 10) (g := E' 7) rfl h7 (vP_rng (q := 3) (g := E' 1) rfl h1 (vP_rng (q := 2) (g := E' 0) rfl h0 P1))
  have F1 := ((D1.set (p := 2) (a := ad 2) (e := .inl (cI, 6, .inl (E' 0))) rfl).set (p := 3) (a := ad 3) (e := .inl (cI, 6, .inl (E' 1))) rfl).set (p := 10) (a := ad 10) (e := .inl (cI, 4, .inl (E' 7))) rfl
  have e9 : (((wR cI cZ ad E C T S).set 2 (ad 2, .inl (cI, 6, .inl (E' 0)))).set 3 (ad 3, .inl (cI, 6, .inl (E' 1)))).set 10 (ad 10, .inl (cI, 4, .inl (E' 7))) = wR cI cZ ad E' C T S := by
    unfold wR
    rw [h2, h3, h4, h5, h6, h8.1, h8.2.1, h8.2.2]
    rfl
  rw [e9] at Q1
  rw [e9] at F1
  have ea : ∀ (k : Nat) (q : Nat × va_E), (wR cI cZ ad E' C T S)[k]? = some q → ∃ e1, (wR cI cZ ad E C T S)[k]? = some (q.1, e1) := fun k q hq => by
    have hm : ((wR cI cZ ad E' C T S).map Prod.fst)[k]? = some q.1 := by rw [List.getElem?_map, hq]; rfl
    have hm2 : ((wR cI cZ ad E C T S).map Prod.fst)[k]? = some q.1 := hm
    rw [List.getElem?_map] at hm2
    cases hz : (wR cI cZ ad E C T S)[k]? with
    | none => rw [hz] at hm2; cases hm2
    | some z =>
      rw [hz] at hm2
      have : z.1 = q.1 := Option.some.inj hm2
      exact ⟨z.2, by rw [← this]⟩
  refine kk H locs ls (P0.app (Q1.app P2)) (va_D.app D0 (va_D.app F1 D2 (fun i j p q hi hj e => ?_)) (fun i j p q hi hj e => ?_)) hS hl
  · obtain ⟨e1, h⟩ := ea i p hi
    exact X1 i j _ q h hj e
  · rcases List.mem_append.mp (List.mem_of_getElem? hj) with h | h
    · obtain ⟨k, hk⟩ := List.getElem?_of_mem h
      obtain ⟨e1, h⟩ := ea k q hk
      exact X0 i k p (q.1, e1) hi (by rw [List.getElem?_append_left (List.getElem?_eq_some_iff.mp h).1]; exact h) e
    · obtain ⟨k, hk⟩ := List.getElem?_of_mem h
      exact X0 i ((wR cI cZ ad E C T S).length + k) p q hi (by rw [List.getElem?_append_right (by omega), show (wR cI cZ ad E C T S).length + k - (wR cI cZ ad E C T S).length = k by omega]; exact hk) e
end VLW
theorem tsw17 (x : Int32) : (∃ j, j < 17 ∧ x = nI j) ∨ (x.toInt < 0 ∨ 16 < x.toInt) := by
  rcases pk_ix x (n := 17) (by decide) with h | h | ⟨j, hj, rfl⟩
  · exact Or.inr (Or.inl (Int32.lt_iff_toInt_lt.mp h))
  · have h2 := Int32.le_iff_toInt_le.mp h
    rw [nI_toInt (by decide)] at h2
    exact Or.inr (Or.inr (by omega))
  · exact Or.inl ⟨j, hj, rfl⟩
theorem lend {L i : Nat} (hL : L ≤ 3072) (h : ¬ nI L - 6 < nI i) (hi : i ≤ 4000) : i + 6 ≤ L := by
  rcases Nat.lt_or_ge L 6 with q | q
  · exfalso
    refine h (Int32.lt_of_lt_of_le (b := 0) ?_ (nI_pos' (by omega)))
    match L, q with
    | 0, _ => decide
    | 1, _ => decide
    | 2, _ => decide
    | 3, _ => decide
    | 4, _ => decide
    | 5, _ => decide
  · have e : nI L - 6 = nI (L - 6) := by
      have : nI L = nI (L - 6) + 6 := by rw [show (6 : Int32) = nI 6 from rfl, nI_add, Nat.sub_add_cancel q]
      rw [this, Int32.add_sub_cancel]
    rw [e] at h
    have h2 : ¬ L - 6 < i := fun z => h (nI_lt z (by omega))
    omega
