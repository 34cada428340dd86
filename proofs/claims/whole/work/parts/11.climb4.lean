abbrev cJ_fill : ByteArray := prog_13_method_103_code
def yJ_fill : MethodName := ⟨"java/util/Arrays", "fill", "([II)V"⟩
theorem dJ_fill_0 : decode cJ_fill 0 = .ok (.iconst 0, 1) := by decide +kernel
theorem dJ_fill_1 : decode cJ_fill 1 = .ok (.istore_n 2, 1) := by decide +kernel
theorem dJ_fill_2 : decode cJ_fill 2 = .ok (.aload_n 0, 1) := by decide +kernel
theorem dJ_fill_3 : decode cJ_fill 3 = .ok (.arraylength, 1) := by decide +kernel
theorem dJ_fill_4 : decode cJ_fill 4 = .ok (.istore_n 3, 1) := by decide +kernel
theorem dJ_fill_5 : decode cJ_fill 5 = .ok (.iload_n 2, 1) := by decide +kernel
theorem dJ_fill_6 : decode cJ_fill 6 = .ok (.iload_n 3, 1) := by decide +kernel
theorem dJ_fill_7 : decode cJ_fill 7 = .ok (.if_icmp .ge 13, 3) := by decide +kernel
theorem dJ_fill_10 : decode cJ_fill 10 = .ok (.aload_n 0, 1) := by decide +kernel
theorem dJ_fill_11 : decode cJ_fill 11 = .ok (.iload_n 2, 1) := by decide +kernel
theorem dJ_fill_12 : decode cJ_fill 12 = .ok (.iload_n 1, 1) := by decide +kernel
theorem dJ_fill_13 : decode cJ_fill 13 = .ok (.iastore, 1) := by decide +kernel
theorem dJ_fill_14 : decode cJ_fill 14 = .ok (.iinc 2 1, 3) := by decide +kernel
theorem dJ_fill_17 : decode cJ_fill 17 = .ok (.goto (-12), 3) := by decide +kernel
theorem dJ_fill_20 : decode cJ_fill 20 = .ok (.return_, 1) := by decide +kernel
theorem hdJ_fill : yJ_fill.cls ≠ "java/lang/invoke/MethodHandle" ∧ yJ_fill.cls ≠ "java/lang/invoke/VarHandle" ∧ (parseMethodDescriptor yJ_fill.desc).map (fun d => d.parameters.length) = some 2 := by decide +kernel
def ffl (f : Nat → Int32) (v : Int32) (i : Nat) : Nat → Int32 := fun j => if j < i then v else f j
theorem ffl_0 (f : Nat → Int32) (v : Int32) : ffl f v 0 = f := by funext j; simp [ffl]
theorem ffl_s (f : Nat → Int32) (v : Int32) (i : Nat) : upd (ffl f v i) i v = ffl f v (i + 1) := by
  funext j
  unfold upd ffl
  by_cases h : j = i
  · subst h; simp
  · by_cases h2 : j < i
    · simp [h, h2, show j < i + 1 by omega]
    · simp [h, h2, show ¬ j < i + 1 by omega]
abbrev rJ_fill : Room := { frames := 0, cells := 0, slots := 0, locals := 0 }
set_option maxRecDepth 100000 in
set_option maxHeartbeats 4000000 in
theorem KJ_fill {l : Launch} {D : va_G} {cI cZ : ClassId} {A : Nat → Prop} {w : va_W} (q0 : Nat) {a n : Nat} {f : Nat → Int32} (hq : w[q0]? = some (a, .inl (cI, n, .inl f))) (hn : n < 2 ^ 31) (v : Int32) : vKv l D (vtys cI cZ) A yJ_fill (uT yJ_fill cJ_fill 4 none) rJ_fill w [.ref a, .int v] (w.set q0 (a, .inl (cI, n, .inl (ffl f v n)))) := by
  have hlen : q0 < w.length := by
    rcases Nat.lt_or_ge q0 w.length with h | h
    · exact h
    · rw [List.getElem?_eq_none h] at hq; cases hq
  refine vKv_of (cc := cJ_fill) (maxL := 4) (ret := none) (by decide) rfl rfl (Nat.le_of_ble_eq_true rfl) ?_
  intro p e s m below meth c Cx hr hlk
  have Lp : ∀ (fuel i : Nat), i ≤ n → n - i < fuel → vV D (vtys cI cZ) A 4 p l e rJ_fill s m ([.ref a, .int v] : List Value).toArray below meth c 0 0 (MQ below (vQv D A (w.set q0 (a, .inl (cI, n, .inl (ffl f v n))))) ([.ref a, .int v] : List Value).toArray s 0 0 A) (w.set q0 (a, .inl (cI, n, .inl (ffl f v i)))) [.ref a, .int v, .int (nI i), .int (nI n)] 5 [] := by
    intro fuel
    induction fuel with
    | zero => intro i h1 h2; exact absurd h2 (Nat.not_lt_zero _)
    | succ fuel ih =>
      intro i h1 h2
      refine vV_iload_n Cx 2 dJ_fill_5 rfl rfl ?_
      refine vV_iload_n Cx 3 dJ_fill_6 rfl rfl ?_
      refine vV_icmp_ge (tgt := 20) Cx dJ_fill_7 (by decide) (fun h7 => ?_) (fun h7 => ?_)
      · have hin := vix_ge h7 hn h1
        exact vV_vret Cx hr hlk dJ_fill_20 (by rw [hin])
      · have hlt := vix_lt h7 hn h1
        refine vV_aload_n Cx 0 dJ_fill_10 rfl rfl ?_
        refine vV_iload_n Cx 2 dJ_fill_11 rfl rfl ?_
        refine vV_iload_n Cx 1 dJ_fill_12 rfl rfl ?_
        refine vV_iast (f := ffl f v i) (n := n) (cA := cI) Cx q0 0 (by rw [List.getElem?_set_self hlen]) rfl (vix_nI hlt hn) dJ_fill_13 (ws' := w.set q0 (a, .inl (cI, n, .inl (ffl f v (i + 1))))) (by rw [List.set_set, ffl_s]) ?_
        refine vV_iinc Cx dJ_fill_14 rfl (vinc _) (by decide) ?_
        refine vV_goto (tgt := 5) Cx dJ_fill_17 (by decide) ?_
        exact ih (i + 1) (by omega) (by omega)
  refine vV_iconst (v := 0) Cx dJ_fill_0 (by decide) ?_
  refine vV_istore_n Cx 2 dJ_fill_1 rfl (by decide) ?_
  refine vV_aload_n Cx 0 dJ_fill_2 rfl rfl ?_
  refine vV_alen Cx q0 0 hq rfl (v := nI n) rfl dJ_fill_3 ?_
  refine vV_istore_n Cx 3 dJ_fill_4 rfl (by decide) ?_
  have h0 := Lp (n + 1) 0 (by omega) (by omega)
  rw [ffl_0, show w.set q0 (a, .inl (cI, n, .inl f)) = w from by
    apply List.ext_getElem?
    intro k
    by_cases hk : q0 = k
    · subst hk; rw [List.getElem?_set_self hlen, hq]
    · rw [List.getElem?_set_ne hk]] at h0
  exact h0
section VR4
variable {D : va_G} {tys : List (ClassId × FieldType)} {A : Nat → Prop} {nL : Nat} {p : Program} {l : Launch} {e : Env} {R : Room} {s : State} {m : MethodId} {args : Array Value} {below : List Frame} {meth : Method} {c : Code} {cells slots : Nat} {Q : State → Prop} {cc : ByteArray} {own : String} {ws : va_W} {L : List Value} {pc : Nat} {st : List Value}
theorem vU_fill {c0 : Cond} {cI cZ : ClassId} (C : vCx D (vtys cI cZ) p m c cc nL s args (c0 :: uW) own) {index : Nat} (hlink : Cond.methodLink own index yJ_fill ∈ uW) (q0 : Nat) {a n : Nat} {f : Nat → Int32} (hq : ws[q0]? = some (a, .inl (cI, n, .inl f))) (hn : n < 2 ^ 31) {v : Int32} (hfr : 1 ≤ R.frames) (hlo : 23 ≤ R.locals) (hrm : (st.map fun v => v.category).sum ≤ 8) (hcs : cells ≤ R.cells ∧ slots ≤ R.slots) (hd : decode cc pc = .ok (.invokestatic index, 3)) {w' : va_W} (hw : ws.set q0 (a, .inl (cI, n, .inl (ffl f v n))) = w')
    (kk : vV D (vtys cI cZ) A nL p l e R s m args below meth c cells slots Q w' L (pc + 3) st) : vV D (vtys cI cZ) A nL p l e R s m args below meth c cells slots Q ws L pc (.int v :: .ref a :: st) := by
  refine vV_callSv C (KJ_fill (cZ := cZ) q0 hq hn v) ⟨callB_of 2 C.1.2.2.2.2 (uG u1_36) rfl rfl rfl (C.1.2.2.2.2 _ (List.mem_cons_of_mem _ u1_4)) (C.1.2.2.2.2 _ (List.mem_cons_of_mem _ hlink)) hdJ_fill ⟨hfr, hlo⟩, C.1.2.2.2.2 _ (List.mem_cons_of_mem _ u1_35)⟩ rfl rfl hrm hcs hd ?_
  rw [hw]
  exact kk
theorem vU_copyi {c0 : Cond} {cI cZ : ClassId} (C : vCx D (vtys cI cZ) p m c cc nL s args (c0 :: uW) own) {index : Nat} (hlink : Cond.methodLink own index arraycopyName ∈ uW) (hini : (Cond.initialized "java/lang/System") ∈ uW) (q0 q1 : Nat) {a0 a1 n0 n1 : Nat} {f g : Nat → Int32} (ha0 : ws[q0]? = some (a0, .inl (cI, n0, .inl f))) (ha1 : ws[q1]? = some (a1, .inl (cI, n1, .inl g))) {sp dp n : Int32} (h1 : ¬ sp < 0) (h2 : ¬ dp < 0) (h3 : ¬ n < 0) (h4 : sp.toNatClampNeg + n.toNatClampNeg ≤ n0) (h5 : dp.toNatClampNeg + n.toNatClampNeg ≤ n1) (hfr : 1 ≤ R.frames) (hlo : (st.map fun v => v.category).sum + (nativeFrameWords "java/lang/System" "arraycopy" 5 + 11) ≤ R.locals) (hd : decode cc pc = .ok (.invokestatic index, 3)) {w' : va_W} (hw : ws.set q1 (a1, .inl (cI, n1, .inl (va_cpy f g sp.toNatClampNeg dp.toNatClampNeg n.toNatClampNeg))) = w')
    (kk : vV D (vtys cI cZ) A nL p l e R s m args below meth c cells slots Q w' L (pc + 3) st) : vV D (vtys cI cZ) A nL p l e R s m args below meth c cells slots Q ws L pc (.int n :: .int dp :: .ref a1 :: .int sp :: .ref a0 :: st) := fun H locs ls hP hD hS hl =>
  va_copyi C.1.1 C.1.2.1 (C.1.2.2.1.trans hl.1.symm) C.1.2.2.2.1 (C.1.2.2.2.2 _ (List.mem_cons_of_mem _ hlink)) (C.1.2.2.2.2 _ (List.mem_cons_of_mem _ u2_103)) (C.1.2.2.2.2 _ (List.mem_cons_of_mem _ u2_102)) (C.1.2.2.2.2 _ (List.mem_cons_of_mem _ hini)) C.2.1 hP hD hS q0 q1 0 0 ha0 ha1 (ty := .int) rfl rfl rfl h1 h2 h3 h4 h5 (fun _ _ => rfl) hfr hlo hd (fun H1 locs1 hP hD hS => kk H1 locs1 ls (hw ▸ hP) (hw ▸ hD) hS hl)
end VR4
/-! Climb: the way to a camp -/
def cmp (C : mT) (i : Nat) : Nat := (C 1 i).toNatClampNeg
def c_ht (E : mT) (i ac lo : Nat) (C : mT) : Int32 := vlp (fun s h => h + c_hf E i s (if C 1 i < nI ac then 1 else 0)) (max (cmp C i) ac) (max (min (cmp C i) ac) lo) 0
def c_cr (E : mT) (i ac hg : Nat) (C : mT) : Int32 := if 0 < C 2 i then 0 else if C 0 i = 3 then 0 else if C 0 i = 4 then 0 else if C 3 i < 2 * c_ht E i ac hg C then 0 else 1
def f_fet (E : mT) (ac hg : Nat) (C : mT) (i : Nat) (p : Int32 × Int32) : Int32 × Int32 := if c_cr E i ac hg C = 0 then p else if p.1 = -1 then (nI i, c_ht E i ac 0 C) else if c_ht E i ac 0 C < p.2 then (nI i, c_ht E i ac 0 C) else p
def c_fet (E : mT) (n ac hg : Nat) (C : mT) : Int32 := (vlp (f_fet E ac hg C) n 0 (-1, 0)).1
theorem vmaxI {a b : Nat} (ha : a < 2 ^ 31) (hb : b < 2 ^ 31) : (if nI a < nI b then nI b else nI a) = nI (max a b) := by
  by_cases h : a < b
  · rw [if_pos (nI_lt h hb), Nat.max_eq_right (by omega)]
  · rw [if_neg (nI_nlt (by omega) ha), Nat.max_eq_left (by omega)]
theorem vminI {a b : Nat} (ha : a < 2 ^ 31) (hb : b < 2 ^ 31) : (if nI b < nI a then nI b else nI a) = nI (min a b) := by
  by_cases h : b < a
  · rw [if_pos (nI_lt h ha), Nat.min_eq_right (by omega)]
  · rw [if_neg (nI_nlt (by omega) hb), Nat.min_eq_left (by omega)]
def vany (E : mT) (q : Int32) : Nat → Nat → Int32
  | 0, _ => 0
  | k + 1, i => if E 3 i = q then 1 else vany E q k (i + 1)
abbrev rX0_hoursTo : Room := { frames := 1, cells := 0, slots := 0, locals := 23 }
set_option maxRecDepth 100000 in
set_option maxHeartbeats 4000000 in
theorem KX0_hoursTo {l : Launch} {D : va_G} {cI cZ : ClassId} {ad : Nat → Nat} {A : Nat → Prop} {b : Nat} (hb : b = 1 ∨ b = 2) {E C X : mT} {S : Nat → Int32} {x : Int32} {i : Nat} (hi : vix x 12 i) (hcm : C 1 i = nI (cmp C i) ∧ cmp C i ≤ 6) {ac : Nat} (hac : ac ≤ 6) {lo : Nat} (hlo : lo ≤ 6) : vKi l D (vtys cI cZ) A yX0_hoursTo (uT yX0_hoursTo cX0_hoursTo 7 (some .int)) rX0_hoursTo (wB cI cZ ad b E C X S) [.ref (ad (pb b)), .int (nI ac), .int x, .int (nI lo)] (c_ht E i ac lo C) (wB cI cZ ad b E C X S) := by
  refine vKi_of (cc := cX0_hoursTo) (maxL := 7) (ret := some .int) (by decide) rfl rfl (Nat.le_of_ble_eq_true rfl) ?_
  intro p e s m below meth c Cx hr hlk
  have Lp : ∀ (fuel j : Nat) (a : Int32), max (cmp C i) ac - j < fuel → j < 2 ^ 31 → vlp (fun s h => h + c_hf E i s (if C 1 i < nI ac then 1 else 0)) (max (cmp C i) ac) j a = c_ht E i ac lo C → vV D (vtys cI cZ) A 7 p l e rX0_hoursTo s m ([.ref (ad (pb b)), .int (nI ac), .int x, .int (nI lo)] : List Value).toArray below meth c 0 0 (MQ below (vQi D A (c_ht E i ac lo C) (wB cI cZ ad b E C X S)) ([.ref (ad (pb b)), .int (nI ac), .int x, .int (nI lo)] : List Value).toArray s 0 0 A) (wB cI cZ ad b E C X S) [.ref (ad (pb b)), .int (nI ac), .int x, .int (nI lo), .int a, .int (nI (max (cmp C i) ac)), .int (nI j)] 31 [] := by
    intro fuel
    induction fuel with
    | zero => intro j a h2; exact absurd h2 (Nat.not_lt_zero _)
    | succ fuel ih =>
      intro j a h2 hjj h3
      refine vV_iload Cx dX0_hoursTo_31 rfl ?_
      refine vV_iload Cx dX0_hoursTo_33 rfl ?_
      refine vV_icmp_ge (tgt := 71) Cx dX0_hoursTo_35 (by decide) (fun h35 => ?_) (fun h35 => ?_)
      · have hin : max (cmp C i) ac ≤ j := Nat.le_of_not_lt (fun hh => h35 (nI_lt hh (by omega)))
        refine vV_iload Cx dX0_hoursTo_71 rfl ?_
        exact vV_iret Cx hr hlk dX0_hoursTo_73 (by rw [vlp_done hin] at h3; exact h3) (by rfl)
      · have hlt : j < max (cmp C i) ac := Nat.lt_of_not_le (fun hh => nI_nlt hh hjj h35)
        have hj : vix (nI j) 6 j := vix_nI (by omega) (by decide)
        refine vV_iload Cx dX0_hoursTo_38 rfl ?_
        refine vV_aload_n Cx 0 dX0_hoursTo_40 rfl rfl ?_
        refine vV_iload_n Cx 2 dX0_hoursTo_41 rfl rfl ?_
        refine vV_iload Cx dX0_hoursTo_42 rfl ?_
        refine vV_aload_n Cx 0 dX0_hoursTo_44 rfl rfl ?_
        refine vU_get Cx hinX0 (pb b) (lkO hb) rfl 5 (by decide) u1_113 rfl dX0_hoursTo_45 ?_
        refine vV_iload_n Cx 2 dX0_hoursTo_48 rfl rfl ?_
        refine vV_iald Cx (pb b + 2) 0 (lk_camp hb) rfl (by assumption) dX0_hoursTo_49 ?_
        refine vV_iload_n Cx 1 dX0_hoursTo_50 rfl rfl ?_
        refine vV_icmp_ge (tgt := 58) Cx dX0_hoursTo_51 (by decide) (fun h51 => ?_) (fun h51 => ?_)
        · refine vV_iconst (v := 0) Cx dX0_hoursTo_58 (by decide) ?_
          refine vV_callVi Cx (KX0_hoursFor hb hi hj _) (cwV 3 Cx.1.2.2.2.2 (uGV u2_21 u2_23 us_7 u1_6 u2_24) rfl rfl rfl hdX0_hoursFor ⟨Nat.le_of_ble_eq_true rfl, Nat.le_of_ble_eq_true rfl⟩) (pb b) (lkO hb) rfl rfl rfl (Nat.le_of_ble_eq_true rfl) ⟨Nat.zero_le _, Nat.zero_le _⟩ dX0_hoursTo_59 ?_
          refine vV_iadd Cx dX0_hoursTo_62 ?_
          refine vV_istore Cx dX0_hoursTo_63 (by decide) ?_
          refine vV_iinc Cx dX0_hoursTo_65 rfl (vinc _) (by decide) ?_
          refine vV_goto (tgt := 31) Cx dX0_hoursTo_68 (by decide) ?_
          exact ih (j + 1) _ (by omega) (by omega) (by rw [← h3, vlp_step hlt]; exact congrArg (vlp _ _ (j + 1)) (by first | rfl | (clear Cx hr hlk; simp_all [-Int32.not_lt, -Int32.not_le])))
        · refine vV_iconst (v := 1) Cx dX0_hoursTo_54 (by decide) ?_
          refine vV_goto (tgt := 59) Cx dX0_hoursTo_55 (by decide) ?_
          refine vV_callVi Cx (KX0_hoursFor hb hi hj _) (cwV 3 Cx.1.2.2.2.2 (uGV u2_21 u2_23 us_7 u1_6 u2_24) rfl rfl rfl hdX0_hoursFor ⟨Nat.le_of_ble_eq_true rfl, Nat.le_of_ble_eq_true rfl⟩) (pb b) (lkO hb) rfl rfl rfl (Nat.le_of_ble_eq_true rfl) ⟨Nat.zero_le _, Nat.zero_le _⟩ dX0_hoursTo_59 ?_
          refine vV_iadd Cx dX0_hoursTo_62 ?_
          refine vV_istore Cx dX0_hoursTo_63 (by decide) ?_
          refine vV_iinc Cx dX0_hoursTo_65 rfl (vinc _) (by decide) ?_
          refine vV_goto (tgt := 31) Cx dX0_hoursTo_68 (by decide) ?_
          exact ih (j + 1) _ (by omega) (by omega) (by rw [← h3, vlp_step hlt]; exact congrArg (vlp _ _ (j + 1)) (by first | rfl | (clear Cx hr hlk; simp_all [-Int32.not_lt, -Int32.not_le])))
  refine vV_iconst (v := 0) Cx dX0_hoursTo_0 (by decide) ?_
  refine vV_istore Cx dX0_hoursTo_1 (by decide) ?_
  refine vV_aload_n Cx 0 dX0_hoursTo_3 rfl rfl ?_
  refine vU_get Cx hinX0 (pb b) (lkO hb) rfl 5 (by decide) u1_113 rfl dX0_hoursTo_4 ?_
  refine vV_iload_n Cx 2 dX0_hoursTo_7 rfl rfl ?_
  refine vV_iald Cx (pb b + 2) 0 (lk_camp hb) rfl (by assumption) dX0_hoursTo_8 ?_
  refine vV_iload_n Cx 1 dX0_hoursTo_9 rfl rfl ?_
  refine vU_mmax Cx u2_33 u2_34 u1_3 u2_35 (Nat.le_of_ble_eq_true rfl) (Nat.le_of_ble_eq_true rfl) (Nat.zero_le _) (Nat.zero_le _) dX0_hoursTo_10 ?_
  rw [hcm.1, vmaxI (by omega) (by omega)]
  refine vV_istore Cx dX0_hoursTo_13 (by decide) ?_
  refine vV_aload_n Cx 0 dX0_hoursTo_15 rfl rfl ?_
  refine vU_get Cx hinX0 (pb b) (lkO hb) rfl 5 (by decide) u1_113 rfl dX0_hoursTo_16 ?_
  refine vV_iload_n Cx 2 dX0_hoursTo_19 rfl rfl ?_
  refine vV_iald Cx (pb b + 2) 0 (lk_camp hb) rfl (by assumption) dX0_hoursTo_20 ?_
  refine vV_iload_n Cx 1 dX0_hoursTo_21 rfl rfl ?_
  refine vU_mmin Cx u2_89 u1_32 u1_3 u1_33 (Nat.le_of_ble_eq_true rfl) (Nat.le_of_ble_eq_true rfl) (Nat.zero_le _) (Nat.zero_le _) dX0_hoursTo_22 ?_
  rw [hcm.1, vminI (by omega) (by omega)]
  refine vV_iload_n Cx 3 dX0_hoursTo_25 rfl rfl ?_
  refine vU_mmax Cx u2_33 u2_34 u1_3 u2_35 (Nat.le_of_ble_eq_true rfl) (Nat.le_of_ble_eq_true rfl) (Nat.zero_le _) (Nat.zero_le _) dX0_hoursTo_26 ?_
  rw [vmaxI (by omega) (by omega)]
  refine vV_istore Cx dX0_hoursTo_29 (by decide) ?_
  exact Lp 13 _ _ (by omega) (by omega) rfl
abbrev rX0_couldReach : Room := { frames := 2, cells := 0, slots := 0, locals := 49 }
set_option maxRecDepth 100000 in
set_option maxHeartbeats 4000000 in
theorem KX0_couldReach {l : Launch} {D : va_G} {cI cZ : ClassId} {ad : Nat → Nat} {A : Nat → Prop} {b : Nat} (hb : b = 1 ∨ b = 2) {E C X : mT} {S : Nat → Int32} {x : Int32} {i : Nat} (hi : vix x 12 i) (hcm : C 1 i = nI (cmp C i) ∧ cmp C i ≤ 6) {ac : Nat} (hac : ac ≤ 6) {hg : Nat} (hhg : E 8 1 = nI hg) (hg6 : hg ≤ 6) : vKi l D (vtys cI cZ) A yX0_couldReach (uT yX0_couldReach cX0_couldReach 3 (some .boolean)) rX0_couldReach (wB cI cZ ad b E C X S) [.ref (ad (pb b)), .int x, .int (nI ac)] (c_cr E i ac hg C) (wB cI cZ ad b E C X S) := by
  refine vKi_of (cc := cX0_couldReach) (maxL := 3) (ret := some .boolean) (by decide) rfl rfl (Nat.le_of_ble_eq_true rfl) ?_
  intro p e s m below meth c Cx hr hlk
  refine vV_aload_n Cx 0 dX0_couldReach_0 rfl rfl ?_
  refine vU_get Cx hinX0 (pb b) (lkO hb) rfl 6 (by decide) u1_115 rfl dX0_couldReach_1 ?_
  refine vV_iload_n Cx 1 dX0_couldReach_4 rfl rfl ?_
  refine vV_iald Cx (pb b + 3) 0 (lk_toGo hb) rfl (by assumption) dX0_couldReach_5 ?_
  refine vV_if_gt (tgt := 29) Cx dX0_couldReach_6 (by decide) (fun h6 => ?_) (fun h6 => ?_)
  · refine vV_iconst (v := 0) Cx dX0_couldReach_29 (by decide) ?_
    exact vV_zret Cx hr hlk dX0_couldReach_30 (by first | rfl | decide) (by first | rfl | (clear Cx hr hlk; simp_all [-Int32.not_lt, -Int32.not_le, c_cr])) (by rfl)
  · refine vV_aload_n Cx 0 dX0_couldReach_9 rfl rfl ?_
    refine vU_get Cx hinX0 (pb b) (lkO hb) rfl 4 (by decide) u1_111 rfl dX0_couldReach_10 ?_
    refine vV_iload_n Cx 1 dX0_couldReach_13 rfl rfl ?_
    refine vV_iald Cx (pb b + 1) 0 (lk_state hb) rfl (by assumption) dX0_couldReach_14 ?_
    refine vV_iconst (v := 3) Cx dX0_couldReach_15 (by decide) ?_
    refine vV_icmp_eq (tgt := 29) Cx dX0_couldReach_16 (by decide) (fun h16 => ?_) (fun h16 => ?_)
    · refine vV_iconst (v := 0) Cx dX0_couldReach_29 (by decide) ?_
      exact vV_zret Cx hr hlk dX0_couldReach_30 (by first | rfl | decide) (by first | rfl | (clear Cx hr hlk; simp_all [-Int32.not_lt, -Int32.not_le, c_cr])) (by rfl)
    · refine vV_aload_n Cx 0 dX0_couldReach_19 rfl rfl ?_
      refine vU_get Cx hinX0 (pb b) (lkO hb) rfl 4 (by decide) u1_111 rfl dX0_couldReach_20 ?_
      refine vV_iload_n Cx 1 dX0_couldReach_23 rfl rfl ?_
      refine vV_iald Cx (pb b + 1) 0 (lk_state hb) rfl (by assumption) dX0_couldReach_24 ?_
      refine vV_iconst (v := 4) Cx dX0_couldReach_25 (by decide) ?_
      refine vV_icmp_ne (tgt := 31) Cx dX0_couldReach_26 (by decide) (fun h26 => ?_) (fun h26 => ?_)
      · refine vV_aload_n Cx 0 dX0_couldReach_31 rfl rfl ?_
        refine vU_get Cx hinX0 (pb b) (lkO hb) rfl 7 (by decide) u1_117 rfl dX0_couldReach_32 ?_
        refine vV_iload_n Cx 1 dX0_couldReach_35 rfl rfl ?_
        refine vV_iald Cx (pb b + 4) 0 (lk_breath hb) rfl (by assumption) dX0_couldReach_36 ?_
        refine vV_iconst (v := 2) Cx dX0_couldReach_37 (by decide) ?_
        refine vV_aload_n Cx 0 dX0_couldReach_38 rfl rfl ?_
        refine vV_iload_n Cx 2 dX0_couldReach_39 rfl rfl ?_
        refine vV_iload_n Cx 1 dX0_couldReach_40 rfl rfl ?_
        refine vV_aload_n Cx 0 dX0_couldReach_41 rfl rfl ?_
        refine vU_get Cx hinX0 (pb b) (lkO hb) rfl 0 (by decide) u1_105 rfl dX0_couldReach_42 ?_
        refine vU_get Cx hinX2 1 (lkRopes hb) rfl 1 (by decide) u1_42 rfl dX0_couldReach_45 ?_
        rw [hhg]
        refine vV_callVi Cx (KX0_hoursTo hb hi hcm hac hg6) (cwV 3 Cx.1.2.2.2.2 (uGV u2_85 u2_87 us_11 u1_6 u2_88) rfl rfl rfl hdX0_hoursTo ⟨Nat.le_of_ble_eq_true rfl, Nat.le_of_ble_eq_true rfl⟩) (pb b) (lkO hb) rfl rfl rfl (Nat.le_of_ble_eq_true rfl) ⟨Nat.zero_le _, Nat.zero_le _⟩ dX0_couldReach_48 ?_
        refine vV_imul Cx dX0_couldReach_51 ?_
        refine vV_icmp_lt (tgt := 59) Cx dX0_couldReach_52 (by decide) (fun h52 => ?_) (fun h52 => ?_)
        · refine vV_iconst (v := 0) Cx dX0_couldReach_59 (by decide) ?_
          exact vV_zret Cx hr hlk dX0_couldReach_60 (by first | rfl | decide) (by first | rfl | (clear Cx hr hlk; simp_all [-Int32.not_lt, -Int32.not_le, c_cr])) (by rfl)
        · refine vV_iconst (v := 1) Cx dX0_couldReach_55 (by decide) ?_
          refine vV_goto (tgt := 60) Cx dX0_couldReach_56 (by decide) ?_
          exact vV_zret Cx hr hlk dX0_couldReach_60 (by first | rfl | decide) (by first | rfl | (clear Cx hr hlk; simp_all [-Int32.not_lt, -Int32.not_le, c_cr])) (by rfl)
      · refine vV_iconst (v := 0) Cx dX0_couldReach_29 (by decide) ?_
        exact vV_zret Cx hr hlk dX0_couldReach_30 (by first | rfl | decide) (by first | rfl | (clear Cx hr hlk; simp_all [-Int32.not_lt, -Int32.not_le, c_cr])) (by rfl)
abbrev rX0_fetcherTo : Room := { frames := 3, cells := 0, slots := 0, locals := 71 }
set_option maxRecDepth 100000 in
set_option maxHeartbeats 4000000 in
theorem KX0_fetcherTo {l : Launch} {D : va_G} {cI cZ : ClassId} {ad : Nat → Nat} {A : Nat → Prop} {b : Nat} (hb : b = 1 ∨ b = 2) {E C X : mT} {S : Nat → Int32} {n : Nat} (hn : E 8 2 = nI n) (h12 : n ≤ 12) (hcm : ∀ i, i < n → C 1 i = nI (cmp C i) ∧ cmp C i ≤ 6) {ac : Nat} (hac : ac ≤ 6) {hg : Nat} (hhg : E 8 1 = nI hg) (hg6 : hg ≤ 6) : vKi l D (vtys cI cZ) A yX0_fetcherTo (uT yX0_fetcherTo cX0_fetcherTo 6 (some .int)) rX0_fetcherTo (wB cI cZ ad b E C X S) [.ref (ad (pb b)), .int (nI ac)] (c_fet E n ac hg C) (wB cI cZ ad b E C X S) := by
  refine vKi_of (cc := cX0_fetcherTo) (maxL := 6) (ret := some .int) (by decide) rfl rfl (Nat.le_of_ble_eq_true rfl) ?_
  intro p e s m below meth c Cx hr hlk
  have Lp : ∀ (fuel i : Nat) (a h : Int32), i ≤ n → n - i < fuel → (vlp (f_fet E ac hg C) n i (a, h)).1 = c_fet E n ac hg C → vV D (vtys cI cZ) A 6 p l e rX0_fetcherTo s m ([.ref (ad (pb b)), .int (nI ac)] : List Value).toArray below meth c 0 0 (MQ below (vQi D A (c_fet E n ac hg C) (wB cI cZ ad b E C X S)) ([.ref (ad (pb b)), .int (nI ac)] : List Value).toArray s 0 0 A) (wB cI cZ ad b E C X S) [.ref (ad (pb b)), .int (nI ac), .int a, .int h, .int (nI i)] 7 [] := by
    intro fuel
    induction fuel with
    | zero => intro i a h h1 h2; exact absurd h2 (Nat.not_lt_zero _)
    | succ fuel ih =>
      intro i a h h1 h2 h3
      refine vV_iload Cx dX0_fetcherTo_7 rfl ?_
      refine vV_aload_n Cx 0 dX0_fetcherTo_9 rfl rfl ?_
      refine vU_get Cx hinX0 (pb b) (lkO hb) rfl 1 (by decide) u1_106 rfl dX0_fetcherTo_10 ?_
      refine vU_get Cx hinX1 5 (lkParty hb) rfl 0 (by decide) u1_72 rfl dX0_fetcherTo_13 ?_
      refine vV_icmp_ge (tgt := 65) Cx dX0_fetcherTo_16 (by decide) (fun h16 => ?_) (fun h16 => ?_)
      · rw [hn] at h16
        have hin := vix_ge h16 (by omega) h1
        refine vV_iload_n Cx 2 dX0_fetcherTo_65 rfl rfl ?_
        exact vV_iret Cx hr hlk dX0_fetcherTo_66 (by rw [hin, vlp_done (Nat.le_refl _)] at h3; exact h3) (by rfl)
      · rw [hn] at h16
        have hlt := vix_lt h16 (by omega) h1
        have hi : vix (nI i) 12 i := vix_nI (by omega) (by decide)
        refine vV_aload_n Cx 0 dX0_fetcherTo_19 rfl rfl ?_
        refine vV_iload Cx dX0_fetcherTo_20 rfl ?_
        refine vV_iload_n Cx 1 dX0_fetcherTo_22 rfl rfl ?_
        refine vV_callVi Cx (KX0_couldReach hb hi (hcm i hlt) hac hhg hg6) (cwV 2 Cx.1.2.2.2.2 (uGV u2_81 u2_83 us_10 u1_6 u2_84) rfl rfl rfl hdX0_couldReach ⟨Nat.le_of_ble_eq_true rfl, Nat.le_of_ble_eq_true rfl⟩) (pb b) (lkO hb) rfl rfl rfl (Nat.le_of_ble_eq_true rfl) ⟨Nat.zero_le _, Nat.zero_le _⟩ dX0_fetcherTo_23 ?_
        refine vV_if_ne (tgt := 32) Cx dX0_fetcherTo_26 (by decide) (fun h26 => ?_) (fun h26 => ?_)
        · refine vV_aload_n Cx 0 dX0_fetcherTo_32 rfl rfl ?_
          refine vV_iload_n Cx 1 dX0_fetcherTo_33 rfl rfl ?_
          refine vV_iload Cx dX0_fetcherTo_34 rfl ?_
          refine vV_iconst (v := 0) Cx dX0_fetcherTo_36 (by decide) ?_
          refine vV_callVi Cx (KX0_hoursTo (lo := 0) hb hi (hcm i hlt) hac (by omega)) (cwV 3 Cx.1.2.2.2.2 (uGV u2_85 u2_87 us_11 u1_6 u2_88) rfl rfl rfl hdX0_hoursTo ⟨Nat.le_of_ble_eq_true rfl, Nat.le_of_ble_eq_true rfl⟩) (pb b) (lkO hb) rfl rfl rfl (Nat.le_of_ble_eq_true rfl) ⟨Nat.zero_le _, Nat.zero_le _⟩ dX0_fetcherTo_37 ?_
          refine vV_istore Cx dX0_fetcherTo_40 (by decide) ?_
          refine vV_iload_n Cx 2 dX0_fetcherTo_42 rfl rfl ?_
          refine vV_iconst (v := -1) Cx dX0_fetcherTo_43 (by decide) ?_
          refine vV_icmp_eq (tgt := 53) Cx dX0_fetcherTo_44 (by decide) (fun h44 => ?_) (fun h44 => ?_)
          · refine vV_iload Cx dX0_fetcherTo_53 rfl ?_
            refine vV_istore_n Cx 2 dX0_fetcherTo_55 rfl (by decide) ?_
            refine vV_iload Cx dX0_fetcherTo_56 rfl ?_
            refine vV_istore_n Cx 3 dX0_fetcherTo_58 rfl (by decide) ?_
            refine vV_iinc Cx dX0_fetcherTo_59 rfl (vinc _) (by decide) ?_
            refine vV_goto (tgt := 7) Cx dX0_fetcherTo_62 (by decide) ?_
            refine vV_take 5 rfl ?_
            exact ih (i + 1) _ _ (by omega) (by omega) (by rw [← h3, vlp_step hlt]; exact congrArg (fun z => (vlp (f_fet E ac hg C) n (i + 1) z).1) (by first | rfl | (clear Cx hr hlk; simp_all [-Int32.not_lt, -Int32.not_le, f_fet])))
          · refine vV_iload Cx dX0_fetcherTo_47 rfl ?_
            refine vV_iload_n Cx 3 dX0_fetcherTo_49 rfl rfl ?_
            refine vV_icmp_ge (tgt := 59) Cx dX0_fetcherTo_50 (by decide) (fun h50 => ?_) (fun h50 => ?_)
            · refine vV_iinc Cx dX0_fetcherTo_59 rfl (vinc _) (by decide) ?_
              refine vV_goto (tgt := 7) Cx dX0_fetcherTo_62 (by decide) ?_
              refine vV_take 5 rfl ?_
              exact ih (i + 1) _ _ (by omega) (by omega) (by rw [← h3, vlp_step hlt]; exact congrArg (fun z => (vlp (f_fet E ac hg C) n (i + 1) z).1) (by first | rfl | (clear Cx hr hlk; simp_all [-Int32.not_lt, -Int32.not_le, f_fet])))
            · refine vV_iload Cx dX0_fetcherTo_53 rfl ?_
              refine vV_istore_n Cx 2 dX0_fetcherTo_55 rfl (by decide) ?_
              refine vV_iload Cx dX0_fetcherTo_56 rfl ?_
              refine vV_istore_n Cx 3 dX0_fetcherTo_58 rfl (by decide) ?_
              refine vV_iinc Cx dX0_fetcherTo_59 rfl (vinc _) (by decide) ?_
              refine vV_goto (tgt := 7) Cx dX0_fetcherTo_62 (by decide) ?_
              refine vV_take 5 rfl ?_
              exact ih (i + 1) _ _ (by omega) (by omega) (by rw [← h3, vlp_step hlt]; exact congrArg (fun z => (vlp (f_fet E ac hg C) n (i + 1) z).1) (by first | rfl | (clear Cx hr hlk; simp_all [-Int32.not_lt, -Int32.not_le, f_fet])))
        · refine vV_goto (tgt := 59) Cx dX0_fetcherTo_29 (by decide) ?_
          refine vV_iinc Cx dX0_fetcherTo_59 rfl (vinc _) (by decide) ?_
          refine vV_goto (tgt := 7) Cx dX0_fetcherTo_62 (by decide) ?_
          refine vV_take 5 rfl ?_
          exact ih (i + 1) _ _ (by omega) (by omega) (by rw [← h3, vlp_step hlt]; exact congrArg (fun z => (vlp (f_fet E ac hg C) n (i + 1) z).1) (by first | rfl | (clear Cx hr hlk; simp_all [-Int32.not_lt, -Int32.not_le, f_fet])))
  refine vV_iconst (v := -1) Cx dX0_fetcherTo_0 (by decide) ?_
  refine vV_istore_n Cx 2 dX0_fetcherTo_1 rfl (by decide) ?_
  refine vV_iconst (v := 0) Cx dX0_fetcherTo_2 (by decide) ?_
  refine vV_istore_n Cx 3 dX0_fetcherTo_3 rfl (by decide) ?_
  refine vV_iconst (v := 0) Cx dX0_fetcherTo_4 (by decide) ?_
  refine vV_istore Cx dX0_fetcherTo_5 (by decide) ?_
  exact Lp (n + 1) 0 _ _ (by omega) (by omega) rfl
abbrev rX1_hasAnyOf : Room := { frames := 0, cells := 0, slots := 0, locals := 0 }
set_option maxRecDepth 100000 in
set_option maxHeartbeats 4000000 in
theorem KX1_hasAnyOf {l : Launch} {D : va_G} {cI cZ : ClassId} {ad : Nat → Nat} {A : Nat → Prop} {b : Nat} (hb : b = 1 ∨ b = 2) {E C X : mT} {S : Nat → Int32} {n : Nat} (hn : E 8 2 = nI n) (h12 : n ≤ 12) (q : Int32) : vKi l D (vtys cI cZ) A yX1_hasAnyOf (uT yX1_hasAnyOf cX1_hasAnyOf 3 (some .boolean)) rX1_hasAnyOf (wB cI cZ ad b E C X S) [.ref (ad 5), .int q] (vany E q n 0) (wB cI cZ ad b E C X S) := by
  refine vKi_of (cc := cX1_hasAnyOf) (maxL := 3) (ret := some .boolean) (by decide) rfl rfl (Nat.le_of_ble_eq_true rfl) ?_
  intro p e s m below meth c Cx hr hlk
  have Lp : ∀ (fuel i : Nat) (a : Int32), i ≤ n → n - i < fuel → vany E q (n - i) i = vany E q n 0 → vV D (vtys cI cZ) A 3 p l e rX1_hasAnyOf s m ([.ref (ad 5), .int q] : List Value).toArray below meth c 0 0 (MQ below (vQi D A (vany E q n 0) (wB cI cZ ad b E C X S)) ([.ref (ad 5), .int q] : List Value).toArray s 0 0 A) (wB cI cZ ad b E C X S) [.ref (ad 5), .int q, .int (nI i)] 2 [] := by
    intro fuel
    induction fuel with
    | zero => intro i a h1 h2; exact absurd h2 (Nat.not_lt_zero _)
    | succ fuel ih =>
      intro i a h1 h2 h3
      refine vV_iload_n Cx 2 dX1_hasAnyOf_2 rfl rfl ?_
      refine vV_aload_n Cx 0 dX1_hasAnyOf_3 rfl rfl ?_
      refine vU_get Cx hinX1 5 (lkParty hb) rfl 0 (by decide) u1_71 rfl dX1_hasAnyOf_4 ?_
      refine vV_icmp_ge (tgt := 28) Cx dX1_hasAnyOf_7 (by decide) (fun h7 => ?_) (fun h7 => ?_)
      · rw [hn] at h7
        have hin := vix_ge h7 (by omega) h1
        refine vV_iconst (v := 0) Cx dX1_hasAnyOf_28 (by decide) ?_
        exact vV_zret Cx hr hlk dX1_hasAnyOf_29 (by first | rfl | decide) (by rw [show n - i = 0 by omega] at h3; exact h3) (by rfl)
      · rw [hn] at h7
        have hlt := vix_lt h7 (by omega) h1
        have hi : vix (nI i) 12 i := vix_nI (by omega) (by decide)
        rw [show n - i = (n - (i + 1)) + 1 by omega, vany] at h3
        refine vV_aload_n Cx 0 dX1_hasAnyOf_10 rfl rfl ?_
        refine vU_get Cx hinX1 5 (lkParty hb) rfl 1 (by decide) u1_74 rfl dX1_hasAnyOf_11 ?_
        refine vV_iload_n Cx 2 dX1_hasAnyOf_14 rfl rfl ?_
        refine vV_iald Cx 6 0 (lk_team hb) rfl (by assumption) dX1_hasAnyOf_15 ?_
        refine vV_iload_n Cx 1 dX1_hasAnyOf_16 rfl rfl ?_
        refine vV_icmp_ne (tgt := 22) Cx dX1_hasAnyOf_17 (by decide) (fun h17 => ?_) (fun h17 => ?_)
        · refine vV_iinc Cx dX1_hasAnyOf_22 rfl (vinc _) (by decide) ?_
          refine vV_goto (tgt := 2) Cx dX1_hasAnyOf_25 (by decide) ?_
          exact ih (i + 1) a (by omega) (by omega) (by first | rfl | (clear Cx hr hlk; simp_all [-Int32.not_lt, -Int32.not_le]))
        · refine vV_iconst (v := 1) Cx dX1_hasAnyOf_20 (by decide) ?_
          exact vV_zret Cx hr hlk dX1_hasAnyOf_21 (by first | rfl | decide) (by first | rfl | (clear Cx hr hlk; simp_all [-Int32.not_lt, -Int32.not_le])) (by rfl)
  refine vV_iconst (v := 0) Cx dX1_hasAnyOf_0 (by decide) ?_
  refine vV_istore_n Cx 2 dX1_hasAnyOf_1 rfl (by decide) ?_
  exact Lp (n + 1) 0 0 (by omega) (by omega) rfl
abbrev rX1_join : Room := { frames := 0, cells := 0, slots := 0, locals := 0 }
set_option maxRecDepth 100000 in
set_option maxHeartbeats 4000000 in
theorem KX1_join {l : Launch} {D : va_G} {cI cZ : ClassId} {ad : Nat → Nat} {A : Nat → Prop} {E C T : mT} {S : Nat → Int32} {n : Nat} (hn : E 8 2 = nI n) (hi : vix (nI n) 12 n) (t q r : Int32) : vKi l D (vtys cI cZ) A yX1_join (uT yX1_join cX1_join 5 (some .int)) rX1_join (wR cI cZ ad E C T S) [.ref (ad 5), .int t, .int q, .int r] (nI n) (wR cI cZ ad (cS (cS (cS (cS E 3 n t) 4 n q) 5 n r) 8 2 (nI n + 1)) C T S) := by
  refine vKi_of (cc := cX1_join) (maxL := 5) (ret := some .int) (by decide) rfl rfl (Nat.le_of_ble_eq_true rfl) ?_
  intro p e s m below meth c Cx hr hlk
  refine vV_aload_n Cx 0 dX1_join_0 rfl rfl ?_
  refine vU_get Cx hinX1 5 rfl rfl 0 (by decide) u1_71 rfl dX1_join_1 ?_
  rw [hn]
  refine vV_istore Cx dX1_join_4 (by decide) ?_
  refine vV_aload_n Cx 0 dX1_join_6 rfl rfl ?_
  refine vU_get Cx hinX1 5 rfl rfl 1 (by decide) u1_74 rfl dX1_join_7 ?_
  refine vV_iload Cx dX1_join_10 rfl ?_
  refine vV_iload_n Cx 1 dX1_join_12 rfl rfl ?_
  refine vV_iast Cx 6 0 rfl rfl (by assumption) dX1_join_13 wk_team ?_
  refine vV_aload_n Cx 0 dX1_join_14 rfl rfl ?_
  refine vU_get Cx hinX1 5 rfl rfl 2 (by decide) u1_76 rfl dX1_join_15 ?_
  refine vV_iload Cx dX1_join_18 rfl ?_
  refine vV_iload_n Cx 2 dX1_join_20 rfl rfl ?_
  refine vV_iast Cx 7 0 rfl rfl (by assumption) dX1_join_21 wk_pace ?_
  refine vV_aload_n Cx 0 dX1_join_22 rfl rfl ?_
  refine vU_get Cx hinX1 5 rfl rfl 3 (by decide) u1_78 rfl dX1_join_23 ?_
  refine vV_iload Cx dX1_join_26 rfl ?_
  refine vV_iload_n Cx 3 dX1_join_28 rfl rfl ?_
  refine vV_iast Cx 8 0 rfl rfl (by assumption) dX1_join_29 wk_pbreath ?_
  refine vV_aload_n Cx 0 dX1_join_30 rfl rfl ?_
  refine vV_dup Cx dX1_join_31 rfl ?_
  refine vU_get Cx hinX1 5 rfl rfl 0 (by decide) u1_71 rfl dX1_join_32 ?_
  rw [show cS (cS (cS E 3 n t) 4 n q) 5 n r 8 2 = nI n from hn]
  refine vV_iconst (v := 1) Cx dX1_join_35 (by decide) ?_
  refine vV_iadd Cx dX1_join_36 ?_
  refine vU_put Cx hinX1 tyX1_ok nmX1 5 rfl rfl 0 (by decide) u1_71 rfl (by decide +kernel) (Nat.le_of_ble_eq_true rfl) dX1_join_37 wp_size ?_
  refine vV_iload Cx dX1_join_40 rfl ?_
  exact vV_iret Cx hr hlk dX1_join_42 (by rfl) (by rfl)
