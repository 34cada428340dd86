/-! the same contracts, of the climb (1) and of the trial (2) -/
theorem R_hasPitch {l : Launch} {D : va_G} {cI cZ : ClassId} {ad : Nat → Nat} {A : Nat → Prop} {E C T : mT} {S : Nat → Int32} (v : Int32) : vKi l D (vtys cI cZ) A yX2_hasPitch (uT yX2_hasPitch cX2_hasPitch 2 (some .boolean)) rX2_hasPitch (wR cI cZ ad E C T S) [.ref (ad 1), .int v] (isW v 0 (E 8 0 - 1)) (wR cI cZ ad E C T S) := KX2_hasPitch (b := 1) (Or.inl rfl) v
theorem R_hasCamp {l : Launch} {D : va_G} {cI cZ : ClassId} {ad : Nat → Nat} {A : Nat → Prop} {E C T : mT} {S : Nat → Int32} (v : Int32) : vKi l D (vtys cI cZ) A yX2_hasCamp (uT yX2_hasCamp cX2_hasCamp 2 (some .boolean)) rX2_hasCamp (wR cI cZ ad E C T S) [.ref (ad 1), .int v] (isW v 0 (E 8 0)) (wR cI cZ ad E C T S) := KX2_hasCamp (b := 1) (Or.inl rfl) v
theorem R_has {l : Launch} {D : va_G} {cI cZ : ClassId} {ad : Nat → Nat} {A : Nat → Prop} {E C T : mT} {S : Nat → Int32} (v : Int32) : vKi l D (vtys cI cZ) A yX1_has (uT yX1_has cX1_has 2 (some .boolean)) rX1_has (wR cI cZ ad E C T S) [.ref (ad 5), .int v] (isW v 0 (E 8 2 - 1)) (wR cI cZ ad E C T S) := KX1_has (b := 1) (Or.inl rfl) v
theorem R_hasAnyOf {l : Launch} {D : va_G} {cI cZ : ClassId} {ad : Nat → Nat} {A : Nat → Prop} {E C T : mT} {S : Nat → Int32} {n : Nat} (hn : E 8 2 = nI n) (h12n : n ≤ 12) (q : Int32) : vKi l D (vtys cI cZ) A yX1_hasAnyOf (uT yX1_hasAnyOf cX1_hasAnyOf 3 (some .boolean)) rX1_hasAnyOf (wR cI cZ ad E C T S) [.ref (ad 5), .int q] (vany E q n 0) (wR cI cZ ad E C T S) := KX1_hasAnyOf (b := 1) (Or.inl rfl) hn h12n q
theorem R1_reset {l : Launch} {D : va_G} {cI cZ : ClassId} {ad : Nat → Nat} {A : Nat → Prop} {E C T : mT} {S : Nat → Int32} {n : Nat} (hn : E 8 2 = nI n) (h12n : n ≤ 12) : vKv l D (vtys cI cZ) A yX0_reset (uT yX0_reset cX0_reset 2 (none)) rX0_reset (wR cI cZ ad E C T S) [.ref (ad 11)] (wR cI cZ ad E (c_reset E n C) T S) := KX0_reset (b := 1) (Or.inl rfl) hn h12n
theorem R1_putAtFoot {l : Launch} {D : va_G} {cI cZ : ClassId} {ad : Nat → Nat} {A : Nat → Prop} {E C T : mT} {S : Nat → Int32} {x : Int32} {i : Nat} (hi : vix x 12 i) : vKv l D (vtys cI cZ) A yX0_putAtFoot (uT yX0_putAtFoot cX0_putAtFoot 2 (none)) rX0_putAtFoot (wR cI cZ ad E C T S) [.ref (ad 11), .int x] (wR cI cZ ad E (c_paf E i C) T S) := KX0_putAtFoot (b := 1) (Or.inl rfl) hi
theorem R1_passHour {l : Launch} {D : va_G} {cI cZ : ClassId} {ad : Nat → Nat} {A : Nat → Prop} {E C T : mT} {S : Nat → Int32} {n : Nat} (hn : E 8 2 = nI n) (h12n : n ≤ 12) (ht : ∀ i, i < n → vix (E 3 i) 4 (tm E i)) {np : Nat} (hp : E 8 0 = nI np) (hp6 : np ≤ 6) (hw : ∀ s, s < 6 → E 1 s = nI (wd E s) ∧ wd E s ≤ 6) : vKv l D (vtys cI cZ) A yX0_passHour (uT yX0_passHour cX0_passHour 2 (none)) rX0_passHour (wR cI cZ ad E C T S) [.ref (ad 11)] (wR cI cZ ad E (c_ph E (E 6) n np C) T S) := KX0_passHour (b := 1) (Or.inl rfl) hn h12n ht hp hp6 hw
theorem R1_summits {l : Launch} {D : va_G} {cI cZ : ClassId} {ad : Nat → Nat} {A : Nat → Prop} {E C T : mT} {S : Nat → Int32} {n : Nat} (hn : E 8 2 = nI n) (h12n : n ≤ 12) : vKi l D (vtys cI cZ) A yX0_summits (uT yX0_summits cX0_summits 3 (some .int)) rX0_summits (wR cI cZ ad E C T S) [.ref (ad 11)] (c_sum n C) (wR cI cZ ad E C T S) := KX0_summits (b := 1) (Or.inl rfl) hn h12n
theorem R1_inState {l : Launch} {D : va_G} {cI cZ : ClassId} {ad : Nat → Nat} {A : Nat → Prop} {E C T : mT} {S : Nat → Int32} {n : Nat} (hn : E 8 2 = nI n) (h12n : n ≤ 12) (q : Int32) : vKi l D (vtys cI cZ) A yX0_inState (uT yX0_inState cX0_inState 4 (some .int)) rX0_inState (wR cI cZ ad E C T S) [.ref (ad 11), .int q] (c_inS n q C) (wR cI cZ ad E C T S) := KX0_inState (b := 1) (Or.inl rfl) hn h12n q
theorem R1_allWaits {l : Launch} {D : va_G} {cI cZ : ClassId} {ad : Nat → Nat} {A : Nat → Prop} {E C T : mT} {S : Nat → Int32} {n : Nat} (hn : E 8 2 = nI n) (h12n : n ≤ 12) : vKi l D (vtys cI cZ) A yX0_allWaits (uT yX0_allWaits cX0_allWaits 3 (some .int)) rX0_allWaits (wR cI cZ ad E C T S) [.ref (ad 11)] (c_wts n C) (wR cI cZ ad E C T S) := KX0_allWaits (b := 1) (Or.inl rfl) hn h12n
theorem R2_summits {l : Launch} {D : va_G} {cI cZ : ClassId} {ad : Nat → Nat} {A : Nat → Prop} {E C T : mT} {S : Nat → Int32} {n : Nat} (hn : E 8 2 = nI n) (h12n : n ≤ 12) : vKi l D (vtys cI cZ) A yX0_summits (uT yX0_summits cX0_summits 3 (some .int)) rX0_summits (wR cI cZ ad E C T S) [.ref (ad 21)] (c_sum n T) (wR cI cZ ad E C T S) := KX0_summits (b := 2) (Or.inr rfl) hn h12n
theorem R2_inState {l : Launch} {D : va_G} {cI cZ : ClassId} {ad : Nat → Nat} {A : Nat → Prop} {E C T : mT} {S : Nat → Int32} {n : Nat} (hn : E 8 2 = nI n) (h12n : n ≤ 12) (q : Int32) : vKi l D (vtys cI cZ) A yX0_inState (uT yX0_inState cX0_inState 4 (some .int)) rX0_inState (wR cI cZ ad E C T S) [.ref (ad 21), .int q] (c_inS n q T) (wR cI cZ ad E C T S) := KX0_inState (b := 2) (Or.inr rfl) hn h12n q
theorem R2_allWaits {l : Launch} {D : va_G} {cI cZ : ClassId} {ad : Nat → Nat} {A : Nat → Prop} {E C T : mT} {S : Nat → Int32} {n : Nat} (hn : E 8 2 = nI n) (h12n : n ≤ 12) : vKi l D (vtys cI cZ) A yX0_allWaits (uT yX0_allWaits cX0_allWaits 3 (some .int)) rX0_allWaits (wR cI cZ ad E C T S) [.ref (ad 21)] (c_wts n T) (wR cI cZ ad E C T S) := KX0_allWaits (b := 2) (Or.inr rfl) hn h12n
theorem R1_howManyOn {l : Launch} {D : va_G} {cI cZ : ClassId} {ad : Nat → Nat} {A : Nat → Prop} {E C T : mT} {S : Nat → Int32} {n : Nat} (hn : E 8 2 = nI n) (h12n : n ≤ 12) (q : Int32) : vKi l D (vtys cI cZ) A yX0_howManyOn (uT yX0_howManyOn cX0_howManyOn 4 (some .int)) rX0_howManyOn (wR cI cZ ad E C T S) [.ref (ad 11), .int q] (c_on n q C) (wR cI cZ ad E C T S) := KX0_howManyOn (b := 1) (Or.inl rfl) hn h12n q
theorem R1_howManyAt {l : Launch} {D : va_G} {cI cZ : ClassId} {ad : Nat → Nat} {A : Nat → Prop} {E C T : mT} {S : Nat → Int32} {n : Nat} (hn : E 8 2 = nI n) (h12n : n ≤ 12) (q : Int32) : vKi l D (vtys cI cZ) A yX0_howManyAt (uT yX0_howManyAt cX0_howManyAt 4 (some .int)) rX0_howManyAt (wR cI cZ ad E C T S) [.ref (ad 11), .int q] (c_atC n q C) (wR cI cZ ad E C T S) := KX0_howManyAt (b := 1) (Or.inl rfl) hn h12n q
theorem R1_fetcherTo {l : Launch} {D : va_G} {cI cZ : ClassId} {ad : Nat → Nat} {A : Nat → Prop} {E C T : mT} {S : Nat → Int32} {n : Nat} (hn : E 8 2 = nI n) (h12n : n ≤ 12) (hcm : ∀ i, i < n → C 1 i = nI (cmp C i) ∧ cmp C i ≤ 6) {ac : Nat} (hac : ac ≤ 6) {hg : Nat} (hhg : E 8 1 = nI hg) (hg6 : hg ≤ 6) : vKi l D (vtys cI cZ) A yX0_fetcherTo (uT yX0_fetcherTo cX0_fetcherTo 6 (some .int)) rX0_fetcherTo (wR cI cZ ad E C T S) [.ref (ad 11), .int (nI ac)] (c_fet E n ac hg C) (wR cI cZ ad E C T S) := KX0_fetcherTo (b := 1) (Or.inl rfl) hn h12n hcm hac hhg hg6
theorem R2_tryOut {l : Launch} {D : va_G} {cI cZ : ClassId} {ad : Nat → Nat} {A : Nat → Prop} {E C T : mT} {S : Nat → Int32} {n : Nat} (hn : E 8 2 = nI n) (h12n : n ≤ 12) (ht : ∀ i, i < n → vix (E 3 i) 4 (tm E i)) {np : Nat} (hp : E 8 0 = nI np) (hp6 : np ≤ 6) (hw : ∀ s, s < 6 → E 1 s = nI (wd E s) ∧ wd E s ≤ 6) : vKv l D (vtys cI cZ) A yX0_tryOut (uT yX0_tryOut cX0_tryOut 2 (none)) rX0_tryOut (wR cI cZ ad E C T S) [.ref (ad 21)] (wR cI cZ ad E C (c_try E S n np T) S) := KX0_tryOut (b := 2) (Or.inr rfl) hn h12n ht hp hp6 hw
abbrev rX0_takeStarts : Room := { frames := 1, cells := 0, slots := 0, locals := 48 }
set_option maxRecDepth 100000 in
set_option maxHeartbeats 4000000 in
theorem R2_takeStarts {l : Launch} {D : va_G} {cI cZ : ClassId} {ad : Nat → Nat} {A : Nat → Prop} {E C T : mT} {S : Nat → Int32} : vKv l D (vtys cI cZ) A yX0_takeStarts (uT yX0_takeStarts cX0_takeStarts 1 none) rX0_takeStarts (wR cI cZ ad E C T S) [.ref (ad 21)] (wR cI cZ ad E C T (va_cpy (E 6) S 0 0 4)) := by
  refine vKv_of (cc := cX0_takeStarts) (maxL := 1) (ret := none) (by decide) rfl rfl (Nat.le_of_ble_eq_true rfl) ?_
  intro p e s m below meth c Cx hr hlk
  refine vV_aload_n Cx 0 dX0_takeStarts_0 rfl rfl ?_
  refine vU_get Cx hinX0 21 rfl rfl 1 (by decide) u1_106 rfl dX0_takeStarts_1 ?_
  refine vU_get Cx hinX1 5 rfl rfl 4 (by decide) u1_82 rfl dX0_takeStarts_4 ?_
  refine vV_iconst (v := 0) Cx dX0_takeStarts_7 (by decide) ?_
  refine vV_aload_n Cx 0 dX0_takeStarts_8 rfl rfl ?_
  refine vU_get Cx hinX0 21 rfl rfl 2 (by decide) u1_107 rfl dX0_takeStarts_9 ?_
  refine vV_iconst (v := 0) Cx dX0_takeStarts_12 (by decide) ?_
  refine vV_iconst (v := 4) Cx dX0_takeStarts_13 (by decide) ?_
  refine vU_copyi (f := E 6) (g := S) (n0 := 4) (n1 := 4) Cx u2_101 u1_12 9 31 rfl rfl (by decide) (by decide) (by decide) (by decide) (by decide) (Nat.le_of_ble_eq_true rfl) (Nat.le_of_ble_eq_true rfl) dX0_takeStarts_14 (w' := wR cI cZ ad E C T (va_cpy (E 6) S 0 0 4)) rfl ?_
  exact vV_vret Cx hr hlk dX0_takeStarts_17 rfl
theorem tsw7 (x : Int32) : x = 0 ∨ x = 1 ∨ x = 2 ∨ x = 3 ∨ x = 4 ∨ x = 5 ∨ x = 6 ∨ (x.toInt < 0 ∨ 6 < x.toInt) := by
  rcases pk_ix x (n := 7) (by decide) with h | h | ⟨j, hj, rfl⟩
  · have := Int32.lt_iff_toInt_lt.mp h
    exact Or.inr (Or.inr (Or.inr (Or.inr (Or.inr (Or.inr (Or.inr (Or.inl this)))))))
  · have h2 := Int32.le_iff_toInt_le.mp h
    rw [nI_toInt (by decide)] at h2
    exact Or.inr (Or.inr (Or.inr (Or.inr (Or.inr (Or.inr (Or.inr (Or.inr (by omega))))))))
  · match j, hj with
    | 0, _ => exact Or.inl rfl
    | 1, _ => exact Or.inr (Or.inl rfl)
    | 2, _ => exact Or.inr (Or.inr (Or.inl rfl))
    | 3, _ => exact Or.inr (Or.inr (Or.inr (Or.inl rfl)))
    | 4, _ => exact Or.inr (Or.inr (Or.inr (Or.inr (Or.inl rfl))))
    | 5, _ => exact Or.inr (Or.inr (Or.inr (Or.inr (Or.inr (Or.inl rfl)))))
    | 6, _ => exact Or.inr (Or.inr (Or.inr (Or.inr (Or.inr (Or.inr (Or.inl rfl))))))
theorem tsw8 (x : Int32) : x = 0 ∨ x = 1 ∨ x = 2 ∨ x = 3 ∨ x = 4 ∨ x = 5 ∨ x = 6 ∨ x = 7 ∨ (x.toInt < 0 ∨ 7 < x.toInt) := by
  rcases tsw7 x with h | h | h | h | h | h | h | h | h
  · exact Or.inl h
  · exact Or.inr (Or.inl h)
  · exact Or.inr (Or.inr (Or.inl h))
  · exact Or.inr (Or.inr (Or.inr (Or.inl h)))
  · exact Or.inr (Or.inr (Or.inr (Or.inr (Or.inl h))))
  · exact Or.inr (Or.inr (Or.inr (Or.inr (Or.inr (Or.inl h)))))
  · exact Or.inr (Or.inr (Or.inr (Or.inr (Or.inr (Or.inr (Or.inl h))))))
  · exact Or.inr (Or.inr (Or.inr (Or.inr (Or.inr (Or.inr (Or.inr (Or.inr (Or.inl h))))))))
  · by_cases h7 : x = 7
    · exact Or.inr (Or.inr (Or.inr (Or.inr (Or.inr (Or.inr (Or.inr (Or.inl h7)))))))
    · have : x.toInt ≠ 7 := fun q => h7 (Int32.toInt_inj.mp q)
      exact Or.inr (Or.inr (Or.inr (Or.inr (Or.inr (Or.inr (Or.inr (Or.inr (Or.inr (by omega)))))))))
def sRw (E : mT) (k : Nat) (f : Nat → Int32) : mT := fun q => bif Nat.beq q k then f else E q
def layE (E : mT) (v : Int32) : mT := sRw (sRw (cS (cS E 8 0 v) 8 1 (if v < E 8 1 then v else E 8 1)) 0 (ffl (E 0) 2 6)) 1 (ffl (E 1) 1 6)
theorem vset_set {w : va_W} {q : Nat} {x y : Nat × va_E} : (w.set q x).set q y = w.set q y := List.set_set ..
theorem vset_ne {w : va_W} {q r : Nat} {x : Nat × va_E} (h : q ≠ r) {z : Option (Nat × va_E)} (e : w[r]? = z) : (w.set q x)[r]? = z := by rw [List.getElem?_set_ne h]; exact e
theorem vset_eq {w : va_W} {q : Nat} {x y : Nat × va_E} (h : w[q]? = some y) : (w.set q x)[q]? = some x := by
  have : q < w.length := by
    rcases Nat.lt_or_ge q w.length with a | a
    · exact a
    · rw [List.getElem?_eq_none a] at h; cases h
  rw [List.getElem?_set_self this]
abbrev rX2_layAnew : Room := { frames := 1, cells := 0, slots := 0, locals := 40 }
set_option maxRecDepth 100000 in
set_option maxHeartbeats 4000000 in
theorem KX2_layAnew {l : Launch} {D : va_G} {cI cZ : ClassId} {ad : Nat → Nat} {A : Nat → Prop} {w : va_W} (qo q1 q2 : Nat) {a a1 a2 a3 : Nat} {p0 h0 : Int32} {f g : Nat → Int32} (hqo : w[qo]? = some (a, .inr (2, [.int p0, .int h0, .ref a1, .ref a2, .ref a3]))) (hq1 : w[q1]? = some (a1, .inl (cI, 6, .inl f))) (hq2 : w[q2]? = some (a2, .inl (cI, 6, .inl g))) (n01 : qo ≠ q1) (n02 : qo ≠ q2) (n12 : q1 ≠ q2) (v : Int32) : vKv l D (vtys cI cZ) A yX2_layAnew (uT yX2_layAnew cX2_layAnew 2 none) rX2_layAnew w [.ref a, .int v] (((w.set qo (a, .inr (2, [.int v, .int (if v < h0 then v else h0), .ref a1, .ref a2, .ref a3]))).set q1 (a1, .inl (cI, 6, .inl (ffl f 2 6)))).set q2 (a2, .inl (cI, 6, .inl (ffl g 1 6)))) := by
  refine vKv_of (cc := cX2_layAnew) (maxL := 2) (ret := none) (by decide) rfl rfl (Nat.le_of_ble_eq_true rfl) ?_
  intro p e s m below meth c Cx hr hlk
  refine vV_aload_n Cx 0 dX2_layAnew_0 rfl rfl ?_
  refine vV_iload_n Cx 1 dX2_layAnew_1 rfl rfl ?_
  refine vU_put Cx hinX2 tyX2_ok nmX2 qo hqo rfl 0 (by decide) u1_37 rfl (by decide +kernel) (Nat.le_of_ble_eq_true rfl) dX2_layAnew_2 (ws' := w.set qo (a, .inr (2, [.int v, .int h0, .ref a1, .ref a2, .ref a3]))) rfl ?_
  refine vV_aload_n Cx 0 dX2_layAnew_5 rfl rfl ?_
  refine vV_aload_n Cx 0 dX2_layAnew_6 rfl rfl ?_
  refine vU_get Cx hinX2 qo (vset_eq hqo) rfl 1 (by decide) u1_40 rfl dX2_layAnew_7 ?_
  refine vV_iload_n Cx 1 dX2_layAnew_10 rfl rfl ?_
  refine vU_mmin Cx u1_31 u1_32 u1_3 u1_33 (Nat.le_of_ble_eq_true rfl) (Nat.le_of_ble_eq_true rfl) (Nat.zero_le _) (Nat.zero_le _) dX2_layAnew_11 ?_
  refine vU_put Cx hinX2 tyX2_ok nmX2 qo (vset_eq hqo) rfl 1 (by decide) u1_40 rfl (by decide +kernel) (Nat.le_of_ble_eq_true rfl) dX2_layAnew_14 (ws' := w.set qo (a, .inr (2, [.int v, .int (if v < h0 then v else h0), .ref a1, .ref a2, .ref a3]))) vset_set ?_
  refine vV_aload_n Cx 0 dX2_layAnew_17 rfl rfl ?_
  refine vU_get Cx hinX2 qo (vset_eq hqo) rfl 2 (by decide) u1_43 rfl dX2_layAnew_18 ?_
  refine vV_iconst (v := 2) Cx dX2_layAnew_21 (by decide) ?_
  refine vU_fill Cx u1_34 q1 (vset_ne n01 hq1) (by decide) (Nat.le_of_ble_eq_true rfl) (Nat.le_of_ble_eq_true rfl) (Nat.le_of_ble_eq_true rfl) ⟨Nat.zero_le _, Nat.zero_le _⟩ dX2_layAnew_22 rfl ?_
  refine vV_aload_n Cx 0 dX2_layAnew_25 rfl rfl ?_
  refine vU_get Cx hinX2 qo (vset_ne (Ne.symm n01) (vset_eq hqo)) rfl 3 (by decide) u1_46 rfl dX2_layAnew_26 ?_
  refine vV_iconst (v := 1) Cx dX2_layAnew_29 (by decide) ?_
  refine vU_fill Cx u1_34 q2 (vset_ne n12 (vset_ne n02 hq2)) (by decide) (Nat.le_of_ble_eq_true rfl) (Nat.le_of_ble_eq_true rfl) (Nat.le_of_ble_eq_true rfl) ⟨Nat.zero_le _, Nat.zero_le _⟩ dX2_layAnew_30 rfl ?_
  exact vV_vret Cx hr hlk dX2_layAnew_33 rfl
theorem R_layAnew {l : Launch} {D : va_G} {cI cZ : ClassId} {ad : Nat → Nat} {A : Nat → Prop} {E C T : mT} {S : Nat → Int32} (v : Int32) : vKv l D (vtys cI cZ) A yX2_layAnew (uT yX2_layAnew cX2_layAnew 2 (none)) rX2_layAnew (wR cI cZ ad E C T S) [.ref (ad 1), .int v] (wR cI cZ ad (layE E v) C T S) := KX2_layAnew (ad := ad) 1 2 3 rfl rfl rfl (by decide) (by decide) (by decide) v
