/-! RopeMountain: bottles, plans -/
theorem vlt1 {j k : Nat} (hj : j ≤ 6) (hk : k ≤ 6) : nI j - 1 < nI k ↔ j ≤ k := by
  cases j with
  | zero =>
    refine ⟨fun _ => Nat.zero_le _, fun _ => ?_⟩
    match k, hk with
    | 0, _ => decide
    | 1, _ => decide
    | 2, _ => decide
    | 3, _ => decide
    | 4, _ => decide
    | 5, _ => decide
    | 6, _ => decide
  | succ j => rw [nI_pred, nI_ltI (by omega) (by omega)]; omega
theorem vrem6 {r : Nat} (h : r < 2 ^ 31) : nI r - nI r / 6 * 6 = nI (r % 6) := pk_rem (d := 6) h (by decide) (by decide)
theorem vdiv6 {r : Nat} (h : r < 2 ^ 31) : nI r / 6 = nI (r / 6) := pk_div (d := 6) h (by decide) (by decide)
theorem vmul2 (r : Nat) : nI r * 2 = nI (r * 2) := pk_mul r 2
theorem vmul6 (r : Nat) : nI r * 6 = nI (r * 6) := pk_mul r 6
theorem vm1 (j : Nat) : nI j + Int32.ofInt (-1) = nI j - 1 := by rw [show Int32.ofInt (-1) = (-1 : Int32) by decide, Int32.sub_eq_add_neg]
def c_nd (hg : Nat) : Nat → Int32 → Int32
  | 0, a => a
  | j + 1, a => if j < hg then a else c_nd hg j (a + (a + 4 - 2) / 3)
theorem c_nd_le {hg j : Nat} {a : Int32} (h : j ≤ hg) : c_nd hg j a = a := by
  cases j with
  | zero => rfl
  | succ j => rw [c_nd, if_pos (by omega)]
def a_need (E : mT) (hg : Nat) (v y : Int32) : Int32 := if isW v 0 (E 8 0) = 0 then -1 else if isW y 0 200 = 0 then -1 else c_nd hg v.toNatClampNeg y
def a_comes (E : mT) (hg : Nat) (v y : Int32) : Int32 := if isW v 0 (E 8 0) = 0 then -1 else if isW y 0 2000 = 0 then -1 else vlp (fun _ a => a - (a + 4 - 1) / 4) v.toNatClampNeg hg y
abbrev rX3_need : Room := { frames := 2, cells := 0, slots := 0, locals := 43 }
set_option maxRecDepth 100000 in
set_option maxHeartbeats 4000000 in
theorem KX3_need {l : Launch} {D : va_G} {cI cZ : ClassId} {ad : Nat → Nat} {A : Nat → Prop} {E C T : mT} {S : Nat → Int32} {np : Nat} (hp : E 8 0 = nI np) (hp6 : np ≤ 6) {hg : Nat} (hhg : E 8 1 = nI hg) (hg6 : hg ≤ 6) (v y : Int32) : vKi l D (vtys cI cZ) A yX3_need (uT yX3_need cX3_need 6 (some .int)) rX3_need (wR cI cZ ad E C T S) [.ref (ad 0), .int v, .int y] (a_need E hg v y) (wR cI cZ ad E C T S) := by
  refine vKi_of (cc := cX3_need) (maxL := 6) (ret := some .int) (by decide) rfl rfl (Nat.le_of_ble_eq_true rfl) ?_
  intro p e s m below meth c Cx hr hlk
  have Lp : ∀ (fuel j : Nat) (a x : Int32), j ≤ 6 → j < fuel → x = nI j - 1 → c_nd hg j a = a_need E hg v y → vV D (vtys cI cZ) A 6 p l e rX3_need s m ([.ref (ad 0), .int v, .int y] : List Value).toArray below meth c 0 0 (MQ below (vQi D A (a_need E hg v y) (wR cI cZ ad E C T S)) ([.ref (ad 0), .int v, .int y] : List Value).toArray s 0 0 A) (wR cI cZ ad E C T S) [.ref (ad 0), .int v, .int y, .int a, .int x] 31 [] := by
    intro fuel
    induction fuel with
    | zero => intro j a x _ h2; exact absurd h2 (Nat.not_lt_zero _)
    | succ fuel ih =>
      intro j a x h1 h2 hx h3
      refine vV_iload Cx dX3_need_31 rfl ?_
      refine vV_aload_n Cx 0 dX3_need_33 rfl rfl ?_
      refine vU_get Cx hinX3 0 rfl rfl 0 (by decide) u1_154 rfl dX3_need_34 ?_
      refine vU_get Cx hinX2 1 rfl rfl 1 (by decide) u1_41 rfl dX3_need_37 ?_
      refine vV_icmp_lt (tgt := 63) Cx dX3_need_40 (by decide) (fun h40 => ?_) (fun h40 => ?_)
      · rw [hhg, hx] at h40
        have hin := (vlt1 (by omega) (by omega)).mp h40
        refine vV_iload_n Cx 3 dX3_need_63 rfl rfl ?_
        exact vV_iret Cx hr hlk dX3_need_64 (by rw [c_nd_le hin] at h3; exact h3) (by rfl)
      · rw [hhg, hx] at h40
        have hlt : hg < j := Nat.lt_of_not_le (fun hh => h40 ((vlt1 (by omega) (by omega)).mpr hh))
        obtain ⟨k, rfl⟩ : ∃ k, j = k + 1 := ⟨j - 1, by omega⟩
        rw [c_nd, if_neg (by omega)] at h3
        obtain rfl : x = nI k := hx.trans (nI_pred k)
        refine vV_iload_n Cx 3 dX3_need_43 rfl rfl ?_
        refine vV_iconst (v := 4) Cx dX3_need_44 (by decide) ?_
        refine vV_iadd Cx dX3_need_45 ?_
        refine vV_iconst (v := 2) Cx dX3_need_46 (by decide) ?_
        refine vV_isub Cx dX3_need_47 ?_
        refine vV_iconst (v := 3) Cx dX3_need_48 (by decide) ?_
        refine vV_idiv Cx dX3_need_49 (by decide) ?_
        refine vV_istore Cx dX3_need_50 (by decide) ?_
        refine vV_iload_n Cx 3 dX3_need_52 rfl rfl ?_
        refine vV_iload Cx dX3_need_53 rfl ?_
        refine vV_iadd Cx dX3_need_55 ?_
        refine vV_istore_n Cx 3 dX3_need_56 rfl (by decide) ?_
        refine vV_iinc Cx dX3_need_57 rfl rfl (by decide) ?_
        refine vV_goto (tgt := 31) Cx dX3_need_60 (by decide) ?_
        refine vV_take 5 rfl ?_
        exact ih k _ _ (by omega) (by omega) (vm1 k) h3
  refine vV_aload_n Cx 0 dX3_need_0 rfl rfl ?_
  refine vU_get Cx hinX3 0 rfl rfl 0 (by decide) u1_154 rfl dX3_need_1 ?_
  refine vV_iload_n Cx 1 dX3_need_4 rfl rfl ?_
  refine vV_callVi Cx (R_hasCamp v) (cwV 1 Cx.1.2.2.2.2 (uGV u1_196 u1_197 u1_198 u1_2 u1_199) rfl rfl rfl hdX2_hasCamp ⟨Nat.le_of_ble_eq_true rfl, Nat.le_of_ble_eq_true rfl⟩) 1 rfl rfl rfl rfl (Nat.le_of_ble_eq_true rfl) ⟨Nat.zero_le _, Nat.zero_le _⟩ dX3_need_5 ?_
  refine vV_if_eq (tgt := 22) Cx dX3_need_8 (by decide) (fun h8 => ?_) (fun h8 => ?_)
  · refine vV_iconst (v := -1) Cx dX3_need_22 (by decide) ?_
    exact vV_iret Cx hr hlk dX3_need_23 (by simp [a_need, h8]) (by rfl)
  · refine vV_iload_n Cx 2 dX3_need_11 rfl rfl ?_
    refine vV_iconst (v := 0) Cx dX3_need_12 (by decide) ?_
    refine vV_sipush (v := 200) Cx dX3_need_13 (by decide) ?_
    refine vV_callSi Cx (KX3_isWithin (ad := ad) _ _ _ _) (cwS 3 Cx.1.2.2.2.2 (uGS u1_171 u1_172 u1_1 u1_173) rfl rfl rfl hdX3_isWithin ⟨Nat.le_of_ble_eq_true rfl, Nat.le_of_ble_eq_true rfl⟩) rfl rfl (Nat.le_of_ble_eq_true rfl) ⟨Nat.zero_le _, Nat.zero_le _⟩ dX3_need_16 ?_
    refine vV_if_ne (tgt := 24) Cx dX3_need_19 (by decide) (fun h19 => ?_) (fun h19 => ?_)
    · refine vV_iload_n Cx 2 dX3_need_24 rfl rfl ?_
      refine vV_istore_n Cx 3 dX3_need_25 rfl (by decide) ?_
      refine vV_iload_n Cx 1 dX3_need_26 rfl rfl ?_
      refine vV_iconst (v := 1) Cx dX3_need_27 (by decide) ?_
      refine vV_isub Cx dX3_need_28 ?_
      refine vV_istore Cx dX3_need_29 (by decide) ?_
      obtain ⟨k, hk, hv⟩ : ∃ k, k ≤ np ∧ v = nI k := by rw [hp] at h8; exact isW_nI h8 (by omega)
      exact Lp 8 k _ _ (by omega) (by omega) (by rw [hv]) (by rw [a_need, if_neg h8, if_neg h19, hv, nI_clamp (by omega)])
    · refine vV_iconst (v := -1) Cx dX3_need_22 (by decide) ?_
      exact vV_iret Cx hr hlk dX3_need_23 (by simp [a_need, h8, h19]) (by rfl)
abbrev rX3_comes : Room := { frames := 2, cells := 0, slots := 0, locals := 43 }
set_option maxRecDepth 100000 in
set_option maxHeartbeats 4000000 in
theorem KX3_comes {l : Launch} {D : va_G} {cI cZ : ClassId} {ad : Nat → Nat} {A : Nat → Prop} {E C T : mT} {S : Nat → Int32} {np : Nat} (hp : E 8 0 = nI np) (hp6 : np ≤ 6) {hg : Nat} (hhg : E 8 1 = nI hg) (hg6 : hg ≤ 6) (v y : Int32) : vKi l D (vtys cI cZ) A yX3_comes (uT yX3_comes cX3_comes 6 (some .int)) rX3_comes (wR cI cZ ad E C T S) [.ref (ad 0), .int v, .int y] (a_comes E hg v y) (wR cI cZ ad E C T S) := by
  refine vKi_of (cc := cX3_comes) (maxL := 6) (ret := some .int) (by decide) rfl rfl (Nat.le_of_ble_eq_true rfl) ?_
  intro p e s m below meth c Cx hr hlk
  have Lp : ∀ (fuel j k : Nat) (a : Int32), v = nI k → k ≤ 6 → j ≤ 7 → k - j < fuel → vlp (fun _ a => a - (a + 4 - 1) / 4) k j a = a_comes E hg v y → vV D (vtys cI cZ) A 6 p l e rX3_comes s m ([.ref (ad 0), .int v, .int y] : List Value).toArray below meth c 0 0 (MQ below (vQi D A (a_comes E hg v y) (wR cI cZ ad E C T S)) ([.ref (ad 0), .int v, .int y] : List Value).toArray s 0 0 A) (wR cI cZ ad E C T S) [.ref (ad 0), .int v, .int y, .int a, .int (nI j)] 35 [] := by
    intro fuel
    induction fuel with
    | zero => intro j k a _ _ _ h2; exact absurd h2 (Nat.not_lt_zero _)
    | succ fuel ih =>
      intro j k a hv hk h1 h2 h3
      refine vV_iload Cx dX3_comes_35 rfl ?_
      refine vV_iload_n Cx 1 dX3_comes_37 rfl rfl ?_
      refine vV_icmp_ge (tgt := 61) Cx dX3_comes_38 (by decide) (fun h38 => ?_) (fun h38 => ?_)
      · rw [hv] at h38
        have hin : k ≤ j := Nat.le_of_not_lt (fun hh => h38 (nI_lt hh (by omega)))
        refine vV_iload_n Cx 3 dX3_comes_61 rfl rfl ?_
        exact vV_iret Cx hr hlk dX3_comes_62 (by rw [vlp_done hin] at h3; exact h3) (by rfl)
      · rw [hv] at h38
        have hlt : j < k := (nI_ltI (by omega) (by omega)).mp h38
        refine vV_iload_n Cx 3 dX3_comes_41 rfl rfl ?_
        refine vV_iconst (v := 4) Cx dX3_comes_42 (by decide) ?_
        refine vV_iadd Cx dX3_comes_43 ?_
        refine vV_iconst (v := 1) Cx dX3_comes_44 (by decide) ?_
        refine vV_isub Cx dX3_comes_45 ?_
        refine vV_iconst (v := 4) Cx dX3_comes_46 (by decide) ?_
        refine vV_idiv Cx dX3_comes_47 (by decide) ?_
        refine vV_istore Cx dX3_comes_48 (by decide) ?_
        refine vV_iload_n Cx 3 dX3_comes_50 rfl rfl ?_
        refine vV_iload Cx dX3_comes_51 rfl ?_
        refine vV_isub Cx dX3_comes_53 ?_
        refine vV_istore_n Cx 3 dX3_comes_54 rfl (by decide) ?_
        refine vV_iinc Cx dX3_comes_55 rfl (vinc _) (by decide) ?_
        refine vV_goto (tgt := 35) Cx dX3_comes_58 (by decide) ?_
        refine vV_take 5 rfl ?_
        exact ih (j + 1) k _ hv hk (by omega) (by omega) ((vlp_step hlt).symm.trans h3)
  refine vV_aload_n Cx 0 dX3_comes_0 rfl rfl ?_
  refine vU_get Cx hinX3 0 rfl rfl 0 (by decide) u1_154 rfl dX3_comes_1 ?_
  refine vV_iload_n Cx 1 dX3_comes_4 rfl rfl ?_
  refine vV_callVi Cx (R_hasCamp v) (cwV 1 Cx.1.2.2.2.2 (uGV u1_196 u1_197 u1_198 u1_2 u1_199) rfl rfl rfl hdX2_hasCamp ⟨Nat.le_of_ble_eq_true rfl, Nat.le_of_ble_eq_true rfl⟩) 1 rfl rfl rfl rfl (Nat.le_of_ble_eq_true rfl) ⟨Nat.zero_le _, Nat.zero_le _⟩ dX3_comes_5 ?_
  refine vV_if_eq (tgt := 22) Cx dX3_comes_8 (by decide) (fun h8 => ?_) (fun h8 => ?_)
  · refine vV_iconst (v := -1) Cx dX3_comes_22 (by decide) ?_
    exact vV_iret Cx hr hlk dX3_comes_23 (by simp [a_comes, h8]) (by rfl)
  · refine vV_iload_n Cx 2 dX3_comes_11 rfl rfl ?_
    refine vV_iconst (v := 0) Cx dX3_comes_12 (by decide) ?_
    refine vV_sipush (v := 2000) Cx dX3_comes_13 (by decide) ?_
    refine vV_callSi Cx (KX3_isWithin (ad := ad) _ _ _ _) (cwS 3 Cx.1.2.2.2.2 (uGS u1_171 u1_172 u1_1 u1_173) rfl rfl rfl hdX3_isWithin ⟨Nat.le_of_ble_eq_true rfl, Nat.le_of_ble_eq_true rfl⟩) rfl rfl (Nat.le_of_ble_eq_true rfl) ⟨Nat.zero_le _, Nat.zero_le _⟩ dX3_comes_16 ?_
    refine vV_if_ne (tgt := 24) Cx dX3_comes_19 (by decide) (fun h19 => ?_) (fun h19 => ?_)
    · refine vV_iload_n Cx 2 dX3_comes_24 rfl rfl ?_
      refine vV_istore_n Cx 3 dX3_comes_25 rfl (by decide) ?_
      refine vV_aload_n Cx 0 dX3_comes_26 rfl rfl ?_
      refine vU_get Cx hinX3 0 rfl rfl 0 (by decide) u1_154 rfl dX3_comes_27 ?_
      refine vU_get Cx hinX2 1 rfl rfl 1 (by decide) u1_41 rfl dX3_comes_30 ?_
      rw [hhg]
      refine vV_istore Cx dX3_comes_33 (by decide) ?_
      obtain ⟨k, hk, hv⟩ : ∃ k, k ≤ np ∧ v = nI k := by rw [hp] at h8; exact isW_nI h8 (by omega)
      exact Lp 8 hg k _ hv (by omega) (by omega) (by omega) (by rw [a_comes, if_neg h8, if_neg h19, hv, nI_clamp (by omega)])
    · refine vV_iconst (v := -1) Cx dX3_comes_22 (by decide) ?_
      exact vV_iret Cx hr hlk dX3_comes_23 (by simp [a_comes, h8, h19]) (by rfl)
def r_tri (m a b c : Int32) : Int32 := if isW a 0 10 = 0 then 0 else if ¬ m < 2 ∧ isW b 0 10 = 0 then 0 else if ¬ m < 3 ∧ isW c 0 10 = 0 then 0 else 1
def c_mer (a b c : Int32) : Int32 := (a * 13 + 12 - b) * (1200 + 1) + 1200 - c
abbrev rX3_areTriable : Room := { frames := 1, cells := 0, slots := 0, locals := 22 }
set_option maxRecDepth 100000 in
set_option maxHeartbeats 4000000 in
theorem KX3_areTriable {l : Launch} {D : va_G} {cI cZ : ClassId} {ad : Nat → Nat} {A : Nat → Prop} (w : va_W) (u a b d : Int32) : vKi l D (vtys cI cZ) A yX3_areTriable (uT yX3_areTriable cX3_areTriable 4 (some .boolean)) rX3_areTriable (w) [.int u, .int a, .int b, .int d] (r_tri u a b d) (w) := by
  refine vKi_of (cc := cX3_areTriable) (maxL := 4) (ret := some .boolean) (by decide) rfl rfl (Nat.le_of_ble_eq_true rfl) ?_
  intro p e s m below meth c Cx hr hlk
  refine vV_iload_n Cx 1 dX3_areTriable_0 rfl rfl ?_
  refine vV_iconst (v := 0) Cx dX3_areTriable_1 (by decide) ?_
  refine vV_bipush (v := 10) Cx dX3_areTriable_2 (by decide) ?_
  refine vV_callSi Cx (KX3_isWithin (ad := ad) _ _ _ _) (cwS 3 Cx.1.2.2.2.2 (uGS u1_171 u1_172 u1_1 u1_173) rfl rfl rfl hdX3_isWithin ⟨Nat.le_of_ble_eq_true rfl, Nat.le_of_ble_eq_true rfl⟩) rfl rfl (Nat.le_of_ble_eq_true rfl) ⟨Nat.zero_le _, Nat.zero_le _⟩ dX3_areTriable_4 ?_
  refine vV_if_eq (tgt := 44) Cx dX3_areTriable_7 (by decide) (fun h7 => ?_) (fun h7 => ?_)
  · refine vV_iconst (v := 0) Cx dX3_areTriable_44 (by decide) ?_
    exact vV_zret Cx hr hlk dX3_areTriable_45 (by first | rfl | decide) (by simp [-Int32.not_lt, r_tri, h7]) (by rfl)
  · refine vV_iload_n Cx 0 dX3_areTriable_10 rfl rfl ?_
    refine vV_iconst (v := 2) Cx dX3_areTriable_11 (by decide) ?_
    refine vV_icmp_lt (tgt := 25) Cx dX3_areTriable_12 (by decide) (fun h12 => ?_) (fun h12 => ?_)
    · refine vV_iload_n Cx 0 dX3_areTriable_25 rfl rfl ?_
      refine vV_iconst (v := 3) Cx dX3_areTriable_26 (by decide) ?_
      refine vV_icmp_lt (tgt := 40) Cx dX3_areTriable_27 (by decide) (fun h27 => ?_) (fun h27 => ?_)
      · refine vV_iconst (v := 1) Cx dX3_areTriable_40 (by decide) ?_
        refine vV_goto (tgt := 45) Cx dX3_areTriable_41 (by decide) ?_
        exact vV_zret Cx hr hlk dX3_areTriable_45 (by first | rfl | decide) (by simp [-Int32.not_lt, r_tri, h7, h12, h27]) (by rfl)
      · refine vV_iload_n Cx 3 dX3_areTriable_30 rfl rfl ?_
        refine vV_iconst (v := 0) Cx dX3_areTriable_31 (by decide) ?_
        refine vV_bipush (v := 10) Cx dX3_areTriable_32 (by decide) ?_
        refine vV_callSi Cx (KX3_isWithin (ad := ad) _ _ _ _) (cwS 3 Cx.1.2.2.2.2 (uGS u1_171 u1_172 u1_1 u1_173) rfl rfl rfl hdX3_isWithin ⟨Nat.le_of_ble_eq_true rfl, Nat.le_of_ble_eq_true rfl⟩) rfl rfl (Nat.le_of_ble_eq_true rfl) ⟨Nat.zero_le _, Nat.zero_le _⟩ dX3_areTriable_34 ?_
        refine vV_if_eq (tgt := 44) Cx dX3_areTriable_37 (by decide) (fun h37 => ?_) (fun h37 => ?_)
        · refine vV_iconst (v := 0) Cx dX3_areTriable_44 (by decide) ?_
          exact vV_zret Cx hr hlk dX3_areTriable_45 (by first | rfl | decide) (by simp [-Int32.not_lt, r_tri, h7, h12, h27, h37]) (by rfl)
        · refine vV_iconst (v := 1) Cx dX3_areTriable_40 (by decide) ?_
          refine vV_goto (tgt := 45) Cx dX3_areTriable_41 (by decide) ?_
          exact vV_zret Cx hr hlk dX3_areTriable_45 (by first | rfl | decide) (by simp [-Int32.not_lt, r_tri, h7, h12, h27, h37]) (by rfl)
    · refine vV_iload_n Cx 2 dX3_areTriable_15 rfl rfl ?_
      refine vV_iconst (v := 0) Cx dX3_areTriable_16 (by decide) ?_
      refine vV_bipush (v := 10) Cx dX3_areTriable_17 (by decide) ?_
      refine vV_callSi Cx (KX3_isWithin (ad := ad) _ _ _ _) (cwS 3 Cx.1.2.2.2.2 (uGS u1_171 u1_172 u1_1 u1_173) rfl rfl rfl hdX3_isWithin ⟨Nat.le_of_ble_eq_true rfl, Nat.le_of_ble_eq_true rfl⟩) rfl rfl (Nat.le_of_ble_eq_true rfl) ⟨Nat.zero_le _, Nat.zero_le _⟩ dX3_areTriable_19 ?_
      refine vV_if_eq (tgt := 44) Cx dX3_areTriable_22 (by decide) (fun h22 => ?_) (fun h22 => ?_)
      · refine vV_iconst (v := 0) Cx dX3_areTriable_44 (by decide) ?_
        exact vV_zret Cx hr hlk dX3_areTriable_45 (by first | rfl | decide) (by simp [-Int32.not_lt, r_tri, h7, h12, h22]) (by rfl)
      · refine vV_iload_n Cx 0 dX3_areTriable_25 rfl rfl ?_
        refine vV_iconst (v := 3) Cx dX3_areTriable_26 (by decide) ?_
        refine vV_icmp_lt (tgt := 40) Cx dX3_areTriable_27 (by decide) (fun h27 => ?_) (fun h27 => ?_)
        · refine vV_iconst (v := 1) Cx dX3_areTriable_40 (by decide) ?_
          refine vV_goto (tgt := 45) Cx dX3_areTriable_41 (by decide) ?_
          exact vV_zret Cx hr hlk dX3_areTriable_45 (by first | rfl | decide) (by simp [-Int32.not_lt, r_tri, h7, h12, h22, h27]) (by rfl)
        · refine vV_iload_n Cx 3 dX3_areTriable_30 rfl rfl ?_
          refine vV_iconst (v := 0) Cx dX3_areTriable_31 (by decide) ?_
          refine vV_bipush (v := 10) Cx dX3_areTriable_32 (by decide) ?_
          refine vV_callSi Cx (KX3_isWithin (ad := ad) _ _ _ _) (cwS 3 Cx.1.2.2.2.2 (uGS u1_171 u1_172 u1_1 u1_173) rfl rfl rfl hdX3_isWithin ⟨Nat.le_of_ble_eq_true rfl, Nat.le_of_ble_eq_true rfl⟩) rfl rfl (Nat.le_of_ble_eq_true rfl) ⟨Nat.zero_le _, Nat.zero_le _⟩ dX3_areTriable_34 ?_
          refine vV_if_eq (tgt := 44) Cx dX3_areTriable_37 (by decide) (fun h37 => ?_) (fun h37 => ?_)
          · refine vV_iconst (v := 0) Cx dX3_areTriable_44 (by decide) ?_
            exact vV_zret Cx hr hlk dX3_areTriable_45 (by first | rfl | decide) (by simp [-Int32.not_lt, r_tri, h7, h12, h22, h27, h37]) (by rfl)
          · refine vV_iconst (v := 1) Cx dX3_areTriable_40 (by decide) ?_
            refine vV_goto (tgt := 45) Cx dX3_areTriable_41 (by decide) ?_
            exact vV_zret Cx hr hlk dX3_areTriable_45 (by first | rfl | decide) (by simp [-Int32.not_lt, r_tri, h7, h12, h22, h27, h37]) (by rfl)
abbrev rX3_merit : Room := { frames := 0, cells := 0, slots := 0, locals := 0 }
set_option maxRecDepth 100000 in
set_option maxHeartbeats 4000000 in
theorem KX3_merit {l : Launch} {D : va_G} {cI cZ : ClassId} {ad : Nat → Nat} {A : Nat → Prop} (w : va_W) (a b d : Int32) : vKi l D (vtys cI cZ) A yX3_merit (uT yX3_merit cX3_merit 5 (some .int)) rX3_merit (w) [.int a, .int b, .int d] (c_mer a b d) (w) := by
  refine vKi_of (cc := cX3_merit) (maxL := 5) (ret := some .int) (by decide) rfl rfl (Nat.le_of_ble_eq_true rfl) ?_
  intro p e s m below meth c Cx hr hlk
  refine vV_sipush (v := 1200) Cx dX3_merit_0 (by decide) ?_
  refine vV_istore_n Cx 3 dX3_merit_3 rfl (by decide) ?_
  refine vV_iload_n Cx 0 dX3_merit_4 rfl rfl ?_
  refine vV_bipush (v := 13) Cx dX3_merit_5 (by decide) ?_
  refine vV_imul Cx dX3_merit_7 ?_
  refine vV_bipush (v := 12) Cx dX3_merit_8 (by decide) ?_
  refine vV_iadd Cx dX3_merit_10 ?_
  refine vV_iload_n Cx 1 dX3_merit_11 rfl rfl ?_
  refine vV_isub Cx dX3_merit_12 ?_
  refine vV_istore Cx dX3_merit_13 (by decide) ?_
  refine vV_iload Cx dX3_merit_15 rfl ?_
  refine vV_iload_n Cx 3 dX3_merit_17 rfl rfl ?_
  refine vV_iconst (v := 1) Cx dX3_merit_18 (by decide) ?_
  refine vV_iadd Cx dX3_merit_19 ?_
  refine vV_imul Cx dX3_merit_20 ?_
  refine vV_iload_n Cx 3 dX3_merit_21 rfl rfl ?_
  refine vV_iadd Cx dX3_merit_22 ?_
  refine vV_iload_n Cx 2 dX3_merit_23 rfl rfl ?_
  refine vV_isub Cx dX3_merit_24 ?_
  exact vV_iret Cx hr hlk dX3_merit_25 (by rfl) (by rfl)
def s_try (E : mT) (S : Nat → Int32) (m a b c : Int32) : Nat → Int32 := if 2 < m then upd (upd (upd (va_cpy (E 6) S 0 0 4) 0 a) 1 b) 2 c else if 1 < m then upd (upd (va_cpy (E 6) S 0 0 4) 0 a) 1 b else upd (va_cpy (E 6) S 0 0 4) 0 a
def r_tries (m a b c w : Int32) : Int32 := if isW m 1 3 = 0 then 0 else if isW w 0 2 = 0 then 0 else if r_tri m a b c = 0 then 0 else 1
def a_tries (E : mT) (S : Nat → Int32) (n np : Nat) (T : mT) (m a b c w : Int32) : Int32 := if r_tries m a b c w = 0 then -1 else if w = 0 then c_sum n (c_try E (s_try E S m a b c) n np T) else if w = 1 then c_inS n 4 (c_try E (s_try E S m a b c) n np T) else c_wts n (c_try E (s_try E S m a b c) n np T)
abbrev rX3_tries : Room := { frames := 5, cells := 0, slots := 0, locals := 110 }
set_option maxRecDepth 100000 in
set_option maxHeartbeats 4000000 in
theorem KX3_tries {l : Launch} {D : va_G} {cI cZ : ClassId} {ad : Nat → Nat} {A : Nat → Prop} {E C T : mT} {S : Nat → Int32} {n : Nat} (hn : E 8 2 = nI n) (h12n : n ≤ 12) (ht : ∀ i, i < n → vix (E 3 i) 4 (tm E i)) {np : Nat} (hp : E 8 0 = nI np) (hp6 : np ≤ 6) (hw : ∀ s, s < 6 → E 1 s = nI (wd E s) ∧ wd E s ≤ 6) (u a b d w : Int32) : vKi l D (vtys cI cZ) A yX3_tries (uT yX3_tries cX3_tries 6 (some .int)) rX3_tries (wR cI cZ ad E C T S) [.ref (ad 0), .int u, .int a, .int b, .int d, .int w] (a_tries E S n np T u a b d w) (wR cI cZ ad (E) (C) (if r_tries u a b d w = 0 then T else c_try E (s_try E S u a b d) n np T) (if r_tries u a b d w = 0 then S else s_try E S u a b d)) := by
  refine vKi_of (cc := cX3_tries) (maxL := 6) (ret := some .int) (by decide) rfl rfl (Nat.le_of_ble_eq_true rfl) ?_
  intro p e s m below meth c Cx hr hlk
  have hi0 : vix (0 : Int32) 4 0 := vix_nI (j := 0) (n := 4) (by decide) (by decide)
  have hi1 : vix (1 : Int32) 4 1 := vix_nI (j := 1) (n := 4) (by decide) (by decide)
  have hi2 : vix (2 : Int32) 4 2 := vix_nI (j := 2) (n := 4) (by decide) (by decide)
  refine vV_iload_n Cx 1 dX3_tries_0 rfl rfl ?_
  refine vV_iconst (v := 1) Cx dX3_tries_1 (by decide) ?_
  refine vV_iconst (v := 3) Cx dX3_tries_2 (by decide) ?_
  refine vV_callSi Cx (KX3_isWithin (ad := ad) _ _ _ _) (cwS 3 Cx.1.2.2.2.2 (uGS u1_171 u1_172 u1_1 u1_173) rfl rfl rfl hdX3_isWithin ⟨Nat.le_of_ble_eq_true rfl, Nat.le_of_ble_eq_true rfl⟩) rfl rfl (Nat.le_of_ble_eq_true rfl) ⟨Nat.zero_le _, Nat.zero_le _⟩ dX3_tries_3 ?_
  refine vV_if_eq (tgt := 30) Cx dX3_tries_6 (by decide) (fun h6 => ?_) (fun h6 => ?_)
  · refine vV_iconst (v := -1) Cx dX3_tries_30 (by decide) ?_
    exact vV_iret Cx hr hlk dX3_tries_31 (by simp [a_tries, r_tries, h6]) (by simp [r_tries, h6])
  · refine vV_iload Cx dX3_tries_9 rfl ?_
    refine vV_iconst (v := 0) Cx dX3_tries_11 (by decide) ?_
    refine vV_iconst (v := 2) Cx dX3_tries_12 (by decide) ?_
    refine vV_callSi Cx (KX3_isWithin (ad := ad) _ _ _ _) (cwS 3 Cx.1.2.2.2.2 (uGS u1_171 u1_172 u1_1 u1_173) rfl rfl rfl hdX3_isWithin ⟨Nat.le_of_ble_eq_true rfl, Nat.le_of_ble_eq_true rfl⟩) rfl rfl (Nat.le_of_ble_eq_true rfl) ⟨Nat.zero_le _, Nat.zero_le _⟩ dX3_tries_13 ?_
    refine vV_if_eq (tgt := 30) Cx dX3_tries_16 (by decide) (fun h16 => ?_) (fun h16 => ?_)
    · refine vV_iconst (v := -1) Cx dX3_tries_30 (by decide) ?_
      exact vV_iret Cx hr hlk dX3_tries_31 (by simp [a_tries, r_tries, h6, h16]) (by simp [r_tries, h6, h16])
    · refine vV_iload_n Cx 1 dX3_tries_19 rfl rfl ?_
      refine vV_iload_n Cx 2 dX3_tries_20 rfl rfl ?_
      refine vV_iload_n Cx 3 dX3_tries_21 rfl rfl ?_
      refine vV_iload Cx dX3_tries_22 rfl ?_
      refine vV_callSi Cx (KX3_areTriable (ad := ad) _ _ _ _ _) (cwS 4 Cx.1.2.2.2.2 (uGS u2_94 u2_95 u1_1 u2_96) rfl rfl rfl hdX3_areTriable ⟨Nat.le_of_ble_eq_true rfl, Nat.le_of_ble_eq_true rfl⟩) rfl rfl (Nat.le_of_ble_eq_true rfl) ⟨Nat.zero_le _, Nat.zero_le _⟩ dX3_tries_24 ?_
      refine vV_if_ne (tgt := 32) Cx dX3_tries_27 (by decide) (fun h27 => ?_) (fun h27 => ?_)
      · have hok : ¬ r_tries u a b d w = 0 := by simp [r_tries, h6, h16, h27]
        refine vV_aload_n Cx 0 dX3_tries_32 rfl rfl ?_
        refine vU_get Cx hinX3 0 rfl rfl 3 (by decide) u1_157 rfl dX3_tries_33 ?_
        refine vV_callVv Cx (R2_takeStarts) (cwV 0 Cx.1.2.2.2.2 (uGV u2_97 u2_98 u2_99 u1_6 u2_100) rfl rfl rfl hdX0_takeStarts ⟨Nat.le_of_ble_eq_true rfl, Nat.le_of_ble_eq_true rfl⟩) 21 rfl rfl rfl rfl (Nat.le_of_ble_eq_true rfl) ⟨Nat.zero_le _, Nat.zero_le _⟩ dX3_tries_36 ?_
        refine vV_aload_n Cx 0 dX3_tries_39 rfl rfl ?_
        refine vU_get Cx hinX3 0 rfl rfl 3 (by decide) u1_157 rfl dX3_tries_40 ?_
        refine vU_get Cx hinX0 21 rfl rfl 2 (by decide) u1_108 rfl dX3_tries_43 ?_
        refine vV_iconst (v := 0) Cx dX3_tries_46 (by decide) ?_
        refine vV_iload_n Cx 2 dX3_tries_47 rfl rfl ?_
        refine vV_iast Cx 31 0 rfl rfl (by assumption) dX3_tries_48 wk_tstart ?_
        refine vV_iload_n Cx 1 dX3_tries_49 rfl rfl ?_
        refine vV_iconst (v := 1) Cx dX3_tries_50 (by decide) ?_
        refine vV_icmp_le (tgt := 64) Cx dX3_tries_51 (by decide) (fun h51 => ?_) (fun h51 => ?_)
        · have hm2 : ¬ 2 < u := fun hh => h51 (Int32.lt_trans (by decide) hh)
          refine vV_iload_n Cx 1 dX3_tries_64 rfl rfl ?_
          refine vV_iconst (v := 2) Cx dX3_tries_65 (by decide) ?_
          refine vV_icmp_le (tgt := 80) Cx dX3_tries_66 (by decide) (fun h66 => ?_) (fun h66 => ?_)
          · refine vV_aload_n Cx 0 dX3_tries_80 rfl rfl ?_
            refine vU_get Cx hinX3 0 rfl rfl 3 (by decide) u1_157 rfl dX3_tries_81 ?_
            refine vV_callVv Cx (R2_tryOut hn h12n ht hp hp6 hw) (cwV 0 Cx.1.2.2.2.2 (uGV u2_104 u2_105 u2_106 u1_6 u2_107) rfl rfl rfl hdX0_tryOut ⟨Nat.le_of_ble_eq_true rfl, Nat.le_of_ble_eq_true rfl⟩) 21 rfl rfl rfl rfl (Nat.le_of_ble_eq_true rfl) ⟨Nat.zero_le _, Nat.zero_le _⟩ dX3_tries_84 ?_
            refine vV_iload Cx dX3_tries_87 rfl ?_
            refine vV_if_ne (tgt := 100) Cx dX3_tries_89 (by decide) (fun h89 => ?_) (fun h89 => ?_)
            · refine vV_iload Cx dX3_tries_100 rfl ?_
              refine vV_iconst (v := 1) Cx dX3_tries_102 (by decide) ?_
              refine vV_icmp_ne (tgt := 117) Cx dX3_tries_103 (by decide) (fun h103 => ?_) (fun h103 => ?_)
              · refine vV_aload_n Cx 0 dX3_tries_117 rfl rfl ?_
                refine vU_get Cx hinX3 0 rfl rfl 3 (by decide) u1_157 rfl dX3_tries_118 ?_
                refine vV_callVi Cx (R2_allWaits hn h12n) (cwV 0 Cx.1.2.2.2.2 (uGV u2_48 u2_49 u2_50 u1_6 u2_51) rfl rfl rfl hdX0_allWaits ⟨Nat.le_of_ble_eq_true rfl, Nat.le_of_ble_eq_true rfl⟩) 21 rfl rfl rfl rfl (Nat.le_of_ble_eq_true rfl) ⟨Nat.zero_le _, Nat.zero_le _⟩ dX3_tries_121 ?_
                exact vV_iret Cx hr hlk dX3_tries_124 (by first | (exact absurd h66 hm2) | (rw [a_tries, if_neg hok]; simp [-Int32.not_lt, s_try, h6, h16, h27, h51, h66, h89, h103])) (by first | (exact absurd h66 hm2) | (rw [if_neg hok, if_neg hok]; simp [-Int32.not_lt, s_try, h6, h16, h27, h51, h66, h89, h103]))
              · refine vV_aload_n Cx 0 dX3_tries_106 rfl rfl ?_
                refine vU_get Cx hinX3 0 rfl rfl 3 (by decide) u1_157 rfl dX3_tries_107 ?_
                refine vV_iconst (v := 4) Cx dX3_tries_110 (by decide) ?_
                refine vV_callVi Cx (R2_inState hn h12n _) (cwV 1 Cx.1.2.2.2.2 (uGV u2_44 u2_45 u2_46 u1_6 u2_47) rfl rfl rfl hdX0_inState ⟨Nat.le_of_ble_eq_true rfl, Nat.le_of_ble_eq_true rfl⟩) 21 rfl rfl rfl rfl (Nat.le_of_ble_eq_true rfl) ⟨Nat.zero_le _, Nat.zero_le _⟩ dX3_tries_111 ?_
                refine vV_goto (tgt := 124) Cx dX3_tries_114 (by decide) ?_
                exact vV_iret Cx hr hlk dX3_tries_124 (by first | (exact absurd h66 hm2) | (rw [a_tries, if_neg hok]; simp [-Int32.not_lt, s_try, h6, h16, h27, h51, h66, h89, h103])) (by first | (exact absurd h66 hm2) | (rw [if_neg hok, if_neg hok]; simp [-Int32.not_lt, s_try, h6, h16, h27, h51, h66, h89, h103]))
            · refine vV_aload_n Cx 0 dX3_tries_92 rfl rfl ?_
              refine vU_get Cx hinX3 0 rfl rfl 3 (by decide) u1_157 rfl dX3_tries_93 ?_
              refine vV_callVi Cx (R2_summits hn h12n) (cwV 0 Cx.1.2.2.2.2 (uGV u2_40 u2_41 u2_42 u1_6 u2_43) rfl rfl rfl hdX0_summits ⟨Nat.le_of_ble_eq_true rfl, Nat.le_of_ble_eq_true rfl⟩) 21 rfl rfl rfl rfl (Nat.le_of_ble_eq_true rfl) ⟨Nat.zero_le _, Nat.zero_le _⟩ dX3_tries_96 ?_
              exact vV_iret Cx hr hlk dX3_tries_99 (by first | (exact absurd h66 hm2) | (rw [a_tries, if_neg hok]; simp [-Int32.not_lt, s_try, h6, h16, h27, h51, h66, h89])) (by first | (exact absurd h66 hm2) | (rw [if_neg hok, if_neg hok]; simp [-Int32.not_lt, s_try, h6, h16, h27, h51, h66, h89]))
          · refine vV_aload_n Cx 0 dX3_tries_69 rfl rfl ?_
            refine vU_get Cx hinX3 0 rfl rfl 3 (by decide) u1_157 rfl dX3_tries_70 ?_
            refine vU_get Cx hinX0 21 rfl rfl 2 (by decide) u1_108 rfl dX3_tries_73 ?_
            refine vV_iconst (v := 2) Cx dX3_tries_76 (by decide) ?_
            refine vV_iload Cx dX3_tries_77 rfl ?_
            refine vV_iast Cx 31 0 rfl rfl (by assumption) dX3_tries_79 wk_tstart ?_
            refine vV_aload_n Cx 0 dX3_tries_80 rfl rfl ?_
            refine vU_get Cx hinX3 0 rfl rfl 3 (by decide) u1_157 rfl dX3_tries_81 ?_
            refine vV_callVv Cx (R2_tryOut hn h12n ht hp hp6 hw) (cwV 0 Cx.1.2.2.2.2 (uGV u2_104 u2_105 u2_106 u1_6 u2_107) rfl rfl rfl hdX0_tryOut ⟨Nat.le_of_ble_eq_true rfl, Nat.le_of_ble_eq_true rfl⟩) 21 rfl rfl rfl rfl (Nat.le_of_ble_eq_true rfl) ⟨Nat.zero_le _, Nat.zero_le _⟩ dX3_tries_84 ?_
            refine vV_iload Cx dX3_tries_87 rfl ?_
            refine vV_if_ne (tgt := 100) Cx dX3_tries_89 (by decide) (fun h89 => ?_) (fun h89 => ?_)
            · refine vV_iload Cx dX3_tries_100 rfl ?_
              refine vV_iconst (v := 1) Cx dX3_tries_102 (by decide) ?_
              refine vV_icmp_ne (tgt := 117) Cx dX3_tries_103 (by decide) (fun h103 => ?_) (fun h103 => ?_)
              · refine vV_aload_n Cx 0 dX3_tries_117 rfl rfl ?_
                refine vU_get Cx hinX3 0 rfl rfl 3 (by decide) u1_157 rfl dX3_tries_118 ?_
                refine vV_callVi Cx (R2_allWaits hn h12n) (cwV 0 Cx.1.2.2.2.2 (uGV u2_48 u2_49 u2_50 u1_6 u2_51) rfl rfl rfl hdX0_allWaits ⟨Nat.le_of_ble_eq_true rfl, Nat.le_of_ble_eq_true rfl⟩) 21 rfl rfl rfl rfl (Nat.le_of_ble_eq_true rfl) ⟨Nat.zero_le _, Nat.zero_le _⟩ dX3_tries_121 ?_
                exact vV_iret Cx hr hlk dX3_tries_124 (by first | (exact absurd h66 hm2) | (rw [a_tries, if_neg hok]; simp [-Int32.not_lt, s_try, h6, h16, h27, h51, h66, h89, h103])) (by first | (exact absurd h66 hm2) | (rw [if_neg hok, if_neg hok]; simp [-Int32.not_lt, s_try, h6, h16, h27, h51, h66, h89, h103]))
              · refine vV_aload_n Cx 0 dX3_tries_106 rfl rfl ?_
                refine vU_get Cx hinX3 0 rfl rfl 3 (by decide) u1_157 rfl dX3_tries_107 ?_
                refine vV_iconst (v := 4) Cx dX3_tries_110 (by decide) ?_
                refine vV_callVi Cx (R2_inState hn h12n _) (cwV 1 Cx.1.2.2.2.2 (uGV u2_44 u2_45 u2_46 u1_6 u2_47) rfl rfl rfl hdX0_inState ⟨Nat.le_of_ble_eq_true rfl, Nat.le_of_ble_eq_true rfl⟩) 21 rfl rfl rfl rfl (Nat.le_of_ble_eq_true rfl) ⟨Nat.zero_le _, Nat.zero_le _⟩ dX3_tries_111 ?_
                refine vV_goto (tgt := 124) Cx dX3_tries_114 (by decide) ?_
                exact vV_iret Cx hr hlk dX3_tries_124 (by first | (exact absurd h66 hm2) | (rw [a_tries, if_neg hok]; simp [-Int32.not_lt, s_try, h6, h16, h27, h51, h66, h89, h103])) (by first | (exact absurd h66 hm2) | (rw [if_neg hok, if_neg hok]; simp [-Int32.not_lt, s_try, h6, h16, h27, h51, h66, h89, h103]))
            · refine vV_aload_n Cx 0 dX3_tries_92 rfl rfl ?_
              refine vU_get Cx hinX3 0 rfl rfl 3 (by decide) u1_157 rfl dX3_tries_93 ?_
              refine vV_callVi Cx (R2_summits hn h12n) (cwV 0 Cx.1.2.2.2.2 (uGV u2_40 u2_41 u2_42 u1_6 u2_43) rfl rfl rfl hdX0_summits ⟨Nat.le_of_ble_eq_true rfl, Nat.le_of_ble_eq_true rfl⟩) 21 rfl rfl rfl rfl (Nat.le_of_ble_eq_true rfl) ⟨Nat.zero_le _, Nat.zero_le _⟩ dX3_tries_96 ?_
              exact vV_iret Cx hr hlk dX3_tries_99 (by first | (exact absurd h66 hm2) | (rw [a_tries, if_neg hok]; simp [-Int32.not_lt, s_try, h6, h16, h27, h51, h66, h89])) (by first | (exact absurd h66 hm2) | (rw [if_neg hok, if_neg hok]; simp [-Int32.not_lt, s_try, h6, h16, h27, h51, h66, h89]))
        · refine vV_aload_n Cx 0 dX3_tries_54 rfl rfl ?_
          refine vU_get Cx hinX3 0 rfl rfl 3 (by decide) u1_157 rfl dX3_tries_55 ?_
          refine vU_get Cx hinX0 21 rfl rfl 2 (by decide) u1_108 rfl dX3_tries_58 ?_
          refine vV_iconst (v := 1) Cx dX3_tries_61 (by decide) ?_
          refine vV_iload_n Cx 3 dX3_tries_62 rfl rfl ?_
          refine vV_iast Cx 31 0 rfl rfl (by assumption) dX3_tries_63 wk_tstart ?_
          refine vV_iload_n Cx 1 dX3_tries_64 rfl rfl ?_
          refine vV_iconst (v := 2) Cx dX3_tries_65 (by decide) ?_
          refine vV_icmp_le (tgt := 80) Cx dX3_tries_66 (by decide) (fun h66 => ?_) (fun h66 => ?_)
          · refine vV_aload_n Cx 0 dX3_tries_80 rfl rfl ?_
            refine vU_get Cx hinX3 0 rfl rfl 3 (by decide) u1_157 rfl dX3_tries_81 ?_
            refine vV_callVv Cx (R2_tryOut hn h12n ht hp hp6 hw) (cwV 0 Cx.1.2.2.2.2 (uGV u2_104 u2_105 u2_106 u1_6 u2_107) rfl rfl rfl hdX0_tryOut ⟨Nat.le_of_ble_eq_true rfl, Nat.le_of_ble_eq_true rfl⟩) 21 rfl rfl rfl rfl (Nat.le_of_ble_eq_true rfl) ⟨Nat.zero_le _, Nat.zero_le _⟩ dX3_tries_84 ?_
            refine vV_iload Cx dX3_tries_87 rfl ?_
            refine vV_if_ne (tgt := 100) Cx dX3_tries_89 (by decide) (fun h89 => ?_) (fun h89 => ?_)
            · refine vV_iload Cx dX3_tries_100 rfl ?_
              refine vV_iconst (v := 1) Cx dX3_tries_102 (by decide) ?_
              refine vV_icmp_ne (tgt := 117) Cx dX3_tries_103 (by decide) (fun h103 => ?_) (fun h103 => ?_)
              · refine vV_aload_n Cx 0 dX3_tries_117 rfl rfl ?_
                refine vU_get Cx hinX3 0 rfl rfl 3 (by decide) u1_157 rfl dX3_tries_118 ?_
                refine vV_callVi Cx (R2_allWaits hn h12n) (cwV 0 Cx.1.2.2.2.2 (uGV u2_48 u2_49 u2_50 u1_6 u2_51) rfl rfl rfl hdX0_allWaits ⟨Nat.le_of_ble_eq_true rfl, Nat.le_of_ble_eq_true rfl⟩) 21 rfl rfl rfl rfl (Nat.le_of_ble_eq_true rfl) ⟨Nat.zero_le _, Nat.zero_le _⟩ dX3_tries_121 ?_
                exact vV_iret Cx hr hlk dX3_tries_124 (by first | (exact absurd h66 hm2) | (rw [a_tries, if_neg hok]; simp [-Int32.not_lt, s_try, h6, h16, h27, h51, h66, h89, h103])) (by first | (exact absurd h66 hm2) | (rw [if_neg hok, if_neg hok]; simp [-Int32.not_lt, s_try, h6, h16, h27, h51, h66, h89, h103]))
              · refine vV_aload_n Cx 0 dX3_tries_106 rfl rfl ?_
                refine vU_get Cx hinX3 0 rfl rfl 3 (by decide) u1_157 rfl dX3_tries_107 ?_
                refine vV_iconst (v := 4) Cx dX3_tries_110 (by decide) ?_
                refine vV_callVi Cx (R2_inState hn h12n _) (cwV 1 Cx.1.2.2.2.2 (uGV u2_44 u2_45 u2_46 u1_6 u2_47) rfl rfl rfl hdX0_inState ⟨Nat.le_of_ble_eq_true rfl, Nat.le_of_ble_eq_true rfl⟩) 21 rfl rfl rfl rfl (Nat.le_of_ble_eq_true rfl) ⟨Nat.zero_le _, Nat.zero_le _⟩ dX3_tries_111 ?_
                refine vV_goto (tgt := 124) Cx dX3_tries_114 (by decide) ?_
                exact vV_iret Cx hr hlk dX3_tries_124 (by first | (exact absurd h66 hm2) | (rw [a_tries, if_neg hok]; simp [-Int32.not_lt, s_try, h6, h16, h27, h51, h66, h89, h103])) (by first | (exact absurd h66 hm2) | (rw [if_neg hok, if_neg hok]; simp [-Int32.not_lt, s_try, h6, h16, h27, h51, h66, h89, h103]))
            · refine vV_aload_n Cx 0 dX3_tries_92 rfl rfl ?_
              refine vU_get Cx hinX3 0 rfl rfl 3 (by decide) u1_157 rfl dX3_tries_93 ?_
              refine vV_callVi Cx (R2_summits hn h12n) (cwV 0 Cx.1.2.2.2.2 (uGV u2_40 u2_41 u2_42 u1_6 u2_43) rfl rfl rfl hdX0_summits ⟨Nat.le_of_ble_eq_true rfl, Nat.le_of_ble_eq_true rfl⟩) 21 rfl rfl rfl rfl (Nat.le_of_ble_eq_true rfl) ⟨Nat.zero_le _, Nat.zero_le _⟩ dX3_tries_96 ?_
              exact vV_iret Cx hr hlk dX3_tries_99 (by first | (exact absurd h66 hm2) | (rw [a_tries, if_neg hok]; simp [-Int32.not_lt, s_try, h6, h16, h27, h51, h66, h89])) (by first | (exact absurd h66 hm2) | (rw [if_neg hok, if_neg hok]; simp [-Int32.not_lt, s_try, h6, h16, h27, h51, h66, h89]))
          · refine vV_aload_n Cx 0 dX3_tries_69 rfl rfl ?_
            refine vU_get Cx hinX3 0 rfl rfl 3 (by decide) u1_157 rfl dX3_tries_70 ?_
            refine vU_get Cx hinX0 21 rfl rfl 2 (by decide) u1_108 rfl dX3_tries_73 ?_
            refine vV_iconst (v := 2) Cx dX3_tries_76 (by decide) ?_
            refine vV_iload Cx dX3_tries_77 rfl ?_
            refine vV_iast Cx 31 0 rfl rfl (by assumption) dX3_tries_79 wk_tstart ?_
            refine vV_aload_n Cx 0 dX3_tries_80 rfl rfl ?_
            refine vU_get Cx hinX3 0 rfl rfl 3 (by decide) u1_157 rfl dX3_tries_81 ?_
            refine vV_callVv Cx (R2_tryOut hn h12n ht hp hp6 hw) (cwV 0 Cx.1.2.2.2.2 (uGV u2_104 u2_105 u2_106 u1_6 u2_107) rfl rfl rfl hdX0_tryOut ⟨Nat.le_of_ble_eq_true rfl, Nat.le_of_ble_eq_true rfl⟩) 21 rfl rfl rfl rfl (Nat.le_of_ble_eq_true rfl) ⟨Nat.zero_le _, Nat.zero_le _⟩ dX3_tries_84 ?_
            refine vV_iload Cx dX3_tries_87 rfl ?_
            refine vV_if_ne (tgt := 100) Cx dX3_tries_89 (by decide) (fun h89 => ?_) (fun h89 => ?_)
            · refine vV_iload Cx dX3_tries_100 rfl ?_
              refine vV_iconst (v := 1) Cx dX3_tries_102 (by decide) ?_
              refine vV_icmp_ne (tgt := 117) Cx dX3_tries_103 (by decide) (fun h103 => ?_) (fun h103 => ?_)
              · refine vV_aload_n Cx 0 dX3_tries_117 rfl rfl ?_
                refine vU_get Cx hinX3 0 rfl rfl 3 (by decide) u1_157 rfl dX3_tries_118 ?_
                refine vV_callVi Cx (R2_allWaits hn h12n) (cwV 0 Cx.1.2.2.2.2 (uGV u2_48 u2_49 u2_50 u1_6 u2_51) rfl rfl rfl hdX0_allWaits ⟨Nat.le_of_ble_eq_true rfl, Nat.le_of_ble_eq_true rfl⟩) 21 rfl rfl rfl rfl (Nat.le_of_ble_eq_true rfl) ⟨Nat.zero_le _, Nat.zero_le _⟩ dX3_tries_121 ?_
                exact vV_iret Cx hr hlk dX3_tries_124 (by first | (exact absurd h66 hm2) | (rw [a_tries, if_neg hok]; simp [-Int32.not_lt, s_try, h6, h16, h27, h51, h66, h89, h103])) (by first | (exact absurd h66 hm2) | (rw [if_neg hok, if_neg hok]; simp [-Int32.not_lt, s_try, h6, h16, h27, h51, h66, h89, h103]))
              · refine vV_aload_n Cx 0 dX3_tries_106 rfl rfl ?_
                refine vU_get Cx hinX3 0 rfl rfl 3 (by decide) u1_157 rfl dX3_tries_107 ?_
                refine vV_iconst (v := 4) Cx dX3_tries_110 (by decide) ?_
                refine vV_callVi Cx (R2_inState hn h12n _) (cwV 1 Cx.1.2.2.2.2 (uGV u2_44 u2_45 u2_46 u1_6 u2_47) rfl rfl rfl hdX0_inState ⟨Nat.le_of_ble_eq_true rfl, Nat.le_of_ble_eq_true rfl⟩) 21 rfl rfl rfl rfl (Nat.le_of_ble_eq_true rfl) ⟨Nat.zero_le _, Nat.zero_le _⟩ dX3_tries_111 ?_
                refine vV_goto (tgt := 124) Cx dX3_tries_114 (by decide) ?_
                exact vV_iret Cx hr hlk dX3_tries_124 (by first | (exact absurd h66 hm2) | (rw [a_tries, if_neg hok]; simp [-Int32.not_lt, s_try, h6, h16, h27, h51, h66, h89, h103])) (by first | (exact absurd h66 hm2) | (rw [if_neg hok, if_neg hok]; simp [-Int32.not_lt, s_try, h6, h16, h27, h51, h66, h89, h103]))
            · refine vV_aload_n Cx 0 dX3_tries_92 rfl rfl ?_
              refine vU_get Cx hinX3 0 rfl rfl 3 (by decide) u1_157 rfl dX3_tries_93 ?_
              refine vV_callVi Cx (R2_summits hn h12n) (cwV 0 Cx.1.2.2.2.2 (uGV u2_40 u2_41 u2_42 u1_6 u2_43) rfl rfl rfl hdX0_summits ⟨Nat.le_of_ble_eq_true rfl, Nat.le_of_ble_eq_true rfl⟩) 21 rfl rfl rfl rfl (Nat.le_of_ble_eq_true rfl) ⟨Nat.zero_le _, Nat.zero_le _⟩ dX3_tries_96 ?_
              exact vV_iret Cx hr hlk dX3_tries_99 (by first | (exact absurd h66 hm2) | (rw [a_tries, if_neg hok]; simp [-Int32.not_lt, s_try, h6, h16, h27, h51, h66, h89])) (by first | (exact absurd h66 hm2) | (rw [if_neg hok, if_neg hok]; simp [-Int32.not_lt, s_try, h6, h16, h27, h51, h66, h89]))
      · refine vV_iconst (v := -1) Cx dX3_tries_30 (by decide) ?_
        exact vV_iret Cx hr hlk dX3_tries_31 (by simp [a_tries, r_tries, h6, h16, h27]) (by simp [r_tries, h6, h16, h27])
