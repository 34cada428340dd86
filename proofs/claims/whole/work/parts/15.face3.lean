/-! RopeMountain: the best plan -/
def c_rp (E : mT) (n : Nat) : Nat → Nat → (Nat → Int32) → Int32 → (Nat → Int32) × Int32
  | 0, _, S, w => (S, w)
  | t + 1, r, S, w => c_rp E n t (r / 6) (upd S t (nI (r % 6 * 2))) (if 0 < nI (r % 6 * 2) then (if vany E (nI t) n 0 = 0 then 0 else w) else w)
theorem c_rp_n (E : mT) (n : Nat) : ∀ (t r : Nat) (S : Nat → Int32) (w : Int32), w = 0 ∨ w = 1 → (c_rp E n t r S w).2 = 0 ∨ (c_rp E n t r S w).2 = 1 := by
  intro t
  induction t with
  | zero => intro r S w h; exact h
  | succ t ih =>
    intro r S w h
    rw [c_rp]
    apply ih
    split
    · split
      · exact Or.inl rfl
      · exact h
    · exact h
def c_s2 (E : mT) (n mm p : Nat) (S : Nat → Int32) : Nat → Int32 := (c_rp E n mm p S 1).1
def c_mr (n : Nat) (T : mT) : Int32 := c_mer (c_sum n T) (c_inS n 4 T) (c_wts n T)
def c_bst (E : mT) (n np mm : Nat) (pf : Int32) : Nat → Nat → Int32 → Int32 → mT → (Nat → Int32) → Int32 × mT × (Nat → Int32)
  | 0, _, b, _, T, S => (b, T, S)
  | k + 1, p, b, mo, T, S => if mo < pf then (if (c_rp E n mm p S 1).2 = 0 then c_bst E n np mm pf k (p + 1) b mo T (c_s2 E n mm p S)
      else if mo < c_mr n (c_try E (c_s2 E n mm p S) n np T) then c_bst E n np mm pf k (p + 1) (nI p) (c_mr n (c_try E (c_s2 E n mm p S) n np T)) (c_try E (c_s2 E n mm p S) n np T) (c_s2 E n mm p S)
      else c_bst E n np mm pf k (p + 1) b mo (c_try E (c_s2 E n mm p S) n np T) (c_s2 E n mm p S)) else (b, T, S)
theorem c_bst_ix (E : mT) (n np mm : Nat) (pf : Int32) (K : Nat) : ∀ (k p : Nat) (b mo : Int32) (T : mT) (S : Nat → Int32), p + k ≤ K → (∃ B, B < K ∧ b = nI B) → ∃ B, B < K ∧ (c_bst E n np mm pf k p b mo T S).1 = nI B := by
  intro k
  induction k with
  | zero => intro p b mo T S _ h; exact h
  | succ k ih =>
    intro p b mo T S hk h
    rw [c_bst]
    split
    · split
      · exact ih _ _ _ _ _ (by omega) h
      · split
        · exact ih _ _ _ _ _ (by omega) ⟨p, by omega, rfl⟩
        · exact ih _ _ _ _ _ (by omega) h
    · exact h
def c_best (E : mT) (n np mm : Nat) (T : mT) (S : Nat → Int32) : Int32 × mT × (Nat → Int32) := c_bst E n np mm (c_mer (nI n) 0 0) (6 ^ mm) 0 0 (-1) T S
abbrev rX3_readPlan : Room := { frames := 1, cells := 0, slots := 0, locals := 22 }
set_option maxRecDepth 100000 in
set_option maxHeartbeats 4000000 in
theorem KX3_readPlan {l : Launch} {D : va_G} {cI cZ : ClassId} {ad : Nat → Nat} {A : Nat → Prop} {E C T : mT} {S : Nat → Int32} {n : Nat} (hn : E 8 2 = nI n) (h12n : n ≤ 12) {q k : Nat} (hq : q < 2 ^ 31) (hk : k ≤ 3) : vKi l D (vtys cI cZ) A yX3_readPlan (uT yX3_readPlan cX3_readPlan 7 (some .boolean)) rX3_readPlan (wR cI cZ ad E C T S) [.ref (ad 0), .int (nI q), .int (nI k)] ((c_rp E n k q S 1).2) (wR cI cZ ad (E) (C) (T) ((c_rp E n k q S 1).1)) := by
  refine vKi_of (cc := cX3_readPlan) (maxL := 7) (ret := some .boolean) (by decide) rfl rfl (Nat.le_of_ble_eq_true rfl) ?_
  intro p e s m below meth c Cx hr hlk
  have Lp : ∀ (fuel j r : Nat) (w x : Int32) (Z : Nat → Int32), j ≤ 3 → j < fuel → x = nI j - 1 → r < 2 ^ 31 → (w = 0 ∨ w = 1) → c_rp E n j r Z w = c_rp E n k q S 1 → vV D (vtys cI cZ) A 7 p l e rX3_readPlan s m ([.ref (ad 0), .int (nI q), .int (nI k)] : List Value).toArray below meth c 0 0 (MQ below (vQi D A ((c_rp E n k q S 1).2) (wR cI cZ ad (E) (C) (T) ((c_rp E n k q S 1).1))) ([.ref (ad 0), .int (nI q), .int (nI k)] : List Value).toArray s 0 0 A) (wR cI cZ ad (E) (C) (T) (Z)) [.ref (ad 0), .int (nI q), .int (nI k), .int w, .int (nI r), .int x] 10 [] := by
    intro fuel
    induction fuel with
    | zero => intro j r w x Z _ h2; exact absurd h2 (Nat.not_lt_zero _)
    | succ fuel ih =>
      intro j r w x Z h1 h2 hx hr2 hw h3
      refine vV_iload Cx dX3_readPlan_10 rfl ?_
      refine vV_if_lt (tgt := 68) Cx dX3_readPlan_12 (by decide) (fun h12 => ?_) (fun h12 => ?_)
      · obtain rfl := (vdn hx (by omega)).1 h12
        refine vV_iload_n Cx 3 dX3_readPlan_68 rfl rfl ?_
        exact vV_zret Cx hr hlk dX3_readPlan_69 (by rcases hw with rfl | rfl <;> rfl) (by exact congrArg Prod.snd h3) (by rw [show Z = _ from congrArg Prod.fst h3])
      · obtain ⟨i, rfl, rfl⟩ := (vdn hx (by omega)).2 h12
        have hj : vix (nI i) 4 i := vix_nI (by omega) (by decide)
        rw [c_rp] at h3
        refine vV_iload Cx dX3_readPlan_15 rfl ?_
        refine vV_bipush (v := 6) Cx dX3_readPlan_17 (by decide) ?_
        refine vV_irem Cx dX3_readPlan_19 (by decide) ?_
        rw [vrem6 hr2]
        refine vV_iconst (v := 2) Cx dX3_readPlan_20 (by decide) ?_
        refine vV_imul Cx dX3_readPlan_21 ?_
        rw [vmul2]
        refine vV_istore Cx dX3_readPlan_22 (by decide) ?_
        refine vV_iload Cx dX3_readPlan_24 rfl ?_
        refine vV_bipush (v := 6) Cx dX3_readPlan_26 (by decide) ?_
        refine vV_idiv Cx dX3_readPlan_28 (by decide) ?_
        rw [vdiv6 hr2]
        refine vV_istore Cx dX3_readPlan_29 (by decide) ?_
        refine vV_aload_n Cx 0 dX3_readPlan_31 rfl rfl ?_
        refine vU_get Cx hinX3 0 rfl rfl 3 (by decide) u1_157 rfl dX3_readPlan_32 ?_
        refine vU_get Cx hinX0 21 rfl rfl 2 (by decide) u1_108 rfl dX3_readPlan_35 ?_
        refine vV_iload Cx dX3_readPlan_38 rfl ?_
        refine vV_iload Cx dX3_readPlan_40 rfl ?_
        refine vV_iast Cx 31 0 rfl rfl (by assumption) dX3_readPlan_42 wk_tstart ?_
        refine vV_iload Cx dX3_readPlan_43 rfl ?_
        refine vV_if_le (tgt := 62) Cx dX3_readPlan_45 (by decide) (fun h45 => ?_) (fun h45 => ?_)
        · refine vV_iinc Cx dX3_readPlan_62 rfl rfl (by decide) ?_
          refine vV_goto (tgt := 10) Cx dX3_readPlan_65 (by decide) ?_
          refine vV_take 6 rfl ?_
          exact ih i (r / 6) _ _ _ (by omega) (by omega) (vm1 i) (by omega) (by first | exact hw | exact Or.inl rfl) (by simpa [-Int32.not_lt, h12, h45] using h3)
        · refine vV_aload_n Cx 0 dX3_readPlan_48 rfl rfl ?_
          refine vU_get Cx hinX3 0 rfl rfl 1 (by decide) u1_155 rfl dX3_readPlan_49 ?_
          refine vV_iload Cx dX3_readPlan_52 rfl ?_
          refine vV_callVi Cx (R_hasAnyOf hn h12n (nI i)) (cwV 1 Cx.1.2.2.2.2 (uGV u2_129 u2_130 u2_131 u1_5 u2_132) rfl rfl rfl hdX1_hasAnyOf ⟨Nat.le_of_ble_eq_true rfl, Nat.le_of_ble_eq_true rfl⟩) 5 rfl rfl rfl rfl (Nat.le_of_ble_eq_true rfl) ⟨Nat.zero_le _, Nat.zero_le _⟩ dX3_readPlan_54 ?_
          refine vV_if_ne (tgt := 62) Cx dX3_readPlan_57 (by decide) (fun h57 => ?_) (fun h57 => ?_)
          · refine vV_iinc Cx dX3_readPlan_62 rfl rfl (by decide) ?_
            refine vV_goto (tgt := 10) Cx dX3_readPlan_65 (by decide) ?_
            refine vV_take 6 rfl ?_
            exact ih i (r / 6) _ _ _ (by omega) (by omega) (vm1 i) (by omega) (by first | exact hw | exact Or.inl rfl) (by simpa [-Int32.not_lt, h12, h45, h57] using h3)
          · refine vV_iconst (v := 0) Cx dX3_readPlan_60 (by decide) ?_
            refine vV_istore_n Cx 3 dX3_readPlan_61 rfl (by decide) ?_
            refine vV_iinc Cx dX3_readPlan_62 rfl rfl (by decide) ?_
            refine vV_goto (tgt := 10) Cx dX3_readPlan_65 (by decide) ?_
            refine vV_take 6 rfl ?_
            exact ih i (r / 6) _ _ _ (by omega) (by omega) (vm1 i) (by omega) (by first | exact hw | exact Or.inl rfl) (by simpa [-Int32.not_lt, h12, h45, h57] using h3)
  refine vV_iconst (v := 1) Cx dX3_readPlan_0 (by decide) ?_
  refine vV_istore_n Cx 3 dX3_readPlan_1 rfl (by decide) ?_
  refine vV_iload_n Cx 1 dX3_readPlan_2 rfl rfl ?_
  refine vV_istore Cx dX3_readPlan_3 (by decide) ?_
  refine vV_iload_n Cx 2 dX3_readPlan_5 rfl rfl ?_
  refine vV_iconst (v := 1) Cx dX3_readPlan_6 (by decide) ?_
  refine vV_isub Cx dX3_readPlan_7 ?_
  refine vV_istore Cx dX3_readPlan_8 (by decide) ?_
  exact Lp 4 k q 1 _ S (by omega) (by omega) rfl hq (Or.inr rfl) rfl
abbrev rX3_bestPlan : Room := { frames := 5, cells := 0, slots := 0, locals := 110 }
set_option maxRecDepth 100000 in
set_option maxHeartbeats 4000000 in
theorem KX3_bestPlan {l : Launch} {D : va_G} {cI cZ : ClassId} {ad : Nat → Nat} {A : Nat → Prop} {E C T : mT} {S : Nat → Int32} {n : Nat} (hn : E 8 2 = nI n) (h12n : n ≤ 12) (ht : ∀ i, i < n → vix (E 3 i) 4 (tm E i)) {np : Nat} (hp : E 8 0 = nI np) (hp6 : np ≤ 6) (hw : ∀ s, s < 6 → E 1 s = nI (wd E s) ∧ wd E s ≤ 6) {k : Nat} (hk : k ≤ 3) : vKi l D (vtys cI cZ) A yX3_bestPlan (uT yX3_bestPlan cX3_bestPlan 8 (some .int)) rX3_bestPlan (wR cI cZ ad E C T S) [.ref (ad 0), .int (nI k)] ((c_best E n np k T S).1) (wR cI cZ ad (E) (C) ((c_best E n np k T S).2.1) ((c_best E n np k T S).2.2)) := by
  refine vKi_of (cc := cX3_bestPlan) (maxL := 8) (ret := some .int) (by decide) rfl rfl (Nat.le_of_ble_eq_true rfl) ?_
  intro p e s m below meth c Cx hr hlk
  have h216 : 6 ^ k ≤ 216 := Nat.pow_le_pow_right (n := 6) (by decide) hk
  have L42 : ∀ (fuel i : Nat) (b mo : Int32) (Z : mT) (Y : Nat → Int32), i ≤ 6 ^ k → 6 ^ k - i < fuel → c_bst E n np k (c_mer (nI n) 0 0) (6 ^ k - i) i b mo Z Y = c_best E n np k T S → vV D (vtys cI cZ) A 8 p l e rX3_bestPlan s m ([.ref (ad 0), .int (nI k)] : List Value).toArray below meth c 0 0 (MQ below (vQi D A ((c_best E n np k T S).1) (wR cI cZ ad (E) (C) ((c_best E n np k T S).2.1) ((c_best E n np k T S).2.2))) ([.ref (ad 0), .int (nI k)] : List Value).toArray s 0 0 A) (wR cI cZ ad (E) (C) (Z) (Y)) [.ref (ad 0), .int (nI k), .int (nI (6 ^ k)), .int b, .int mo, .int (c_mer (nI n) 0 0), .int (nI i)] 42 [] := by
    intro fuel
    induction fuel with
    | zero => intro i b mo Z Y h1 h2; exact absurd h2 (Nat.not_lt_zero _)
    | succ fuel ih =>
      intro i b mo Z Y h1 h2 h3
      refine vV_iload Cx dX3_bestPlan_42 rfl ?_
      refine vV_iload_n Cx 2 dX3_bestPlan_44 rfl rfl ?_
      refine vV_icmp_ge (tgt := 122) Cx dX3_bestPlan_45 (by decide) (fun h45 => ?_) (fun h45 => ?_)
      · have hin := vix_ge h45 (by omega) h1
        rw [hin, Nat.sub_self] at h3
        refine vV_iload_n Cx 3 dX3_bestPlan_122 rfl rfl ?_
        exact vV_iret Cx hr hlk dX3_bestPlan_123 (by exact congrArg Prod.fst h3) (by rw [show Z = _ from congrArg (fun z => z.2.1) h3, show Y = _ from congrArg (fun z => z.2.2) h3])
      · have hlt := vix_lt h45 (by omega) h1
        rw [show 6 ^ k - i = (6 ^ k - (i + 1)) + 1 by omega, c_bst] at h3
        refine vV_iload Cx dX3_bestPlan_48 rfl ?_
        refine vV_iload Cx dX3_bestPlan_50 rfl ?_
        refine vV_icmp_ge (tgt := 122) Cx dX3_bestPlan_52 (by decide) (fun h52 => ?_) (fun h52 => ?_)
        · rw [if_neg h52] at h3
          refine vV_iload_n Cx 3 dX3_bestPlan_122 rfl rfl ?_
          exact vV_iret Cx hr hlk dX3_bestPlan_123 (by exact congrArg Prod.fst h3) (by rw [show Z = _ from congrArg (fun z => z.2.1) h3, show Y = _ from congrArg (fun z => z.2.2) h3])
        · rw [if_pos h52] at h3
          refine vV_aload_n Cx 0 dX3_bestPlan_55 rfl rfl ?_
          refine vV_iload Cx dX3_bestPlan_56 rfl ?_
          refine vV_iload_n Cx 1 dX3_bestPlan_58 rfl rfl ?_
          refine vV_callVi Cx (KX3_readPlan hn h12n (by omega) hk) (cwV 2 Cx.1.2.2.2.2 (uGV u2_125 u2_127 us_14 u1_1 u2_128) rfl rfl rfl hdX3_readPlan ⟨Nat.le_of_ble_eq_true rfl, Nat.le_of_ble_eq_true rfl⟩) 0 rfl rfl rfl rfl (Nat.le_of_ble_eq_true rfl) ⟨Nat.zero_le _, Nat.zero_le _⟩ dX3_bestPlan_59 ?_
          refine vV_if_ne (tgt := 68) Cx dX3_bestPlan_62 (by decide) (fun h62 => ?_) (fun h62 => ?_)
          · rw [if_neg h62] at h3
            refine vV_aload_n Cx 0 dX3_bestPlan_68 rfl rfl ?_
            refine vU_get Cx hinX3 0 rfl rfl 3 (by decide) u1_157 rfl dX3_bestPlan_69 ?_
            refine vV_callVv Cx (R2_tryOut hn h12n ht hp hp6 hw) (cwV 0 Cx.1.2.2.2.2 (uGV u2_104 u2_105 u2_106 u1_6 u2_107) rfl rfl rfl hdX0_tryOut ⟨Nat.le_of_ble_eq_true rfl, Nat.le_of_ble_eq_true rfl⟩) 21 rfl rfl rfl rfl (Nat.le_of_ble_eq_true rfl) ⟨Nat.zero_le _, Nat.zero_le _⟩ dX3_bestPlan_72 ?_
            refine vV_aload_n Cx 0 dX3_bestPlan_75 rfl rfl ?_
            refine vU_get Cx hinX3 0 rfl rfl 3 (by decide) u1_157 rfl dX3_bestPlan_76 ?_
            refine vV_callVi Cx (R2_summits hn h12n) (cwV 0 Cx.1.2.2.2.2 (uGV u2_40 u2_41 u2_42 u1_6 u2_43) rfl rfl rfl hdX0_summits ⟨Nat.le_of_ble_eq_true rfl, Nat.le_of_ble_eq_true rfl⟩) 21 rfl rfl rfl rfl (Nat.le_of_ble_eq_true rfl) ⟨Nat.zero_le _, Nat.zero_le _⟩ dX3_bestPlan_79 ?_
            refine vV_aload_n Cx 0 dX3_bestPlan_82 rfl rfl ?_
            refine vU_get Cx hinX3 0 rfl rfl 3 (by decide) u1_157 rfl dX3_bestPlan_83 ?_
            refine vV_iconst (v := 4) Cx dX3_bestPlan_86 (by decide) ?_
            refine vV_callVi Cx (R2_inState hn h12n _) (cwV 1 Cx.1.2.2.2.2 (uGV u2_44 u2_45 u2_46 u1_6 u2_47) rfl rfl rfl hdX0_inState ⟨Nat.le_of_ble_eq_true rfl, Nat.le_of_ble_eq_true rfl⟩) 21 rfl rfl rfl rfl (Nat.le_of_ble_eq_true rfl) ⟨Nat.zero_le _, Nat.zero_le _⟩ dX3_bestPlan_87 ?_
            refine vV_aload_n Cx 0 dX3_bestPlan_90 rfl rfl ?_
            refine vU_get Cx hinX3 0 rfl rfl 3 (by decide) u1_157 rfl dX3_bestPlan_91 ?_
            refine vV_callVi Cx (R2_allWaits hn h12n) (cwV 0 Cx.1.2.2.2.2 (uGV u2_48 u2_49 u2_50 u1_6 u2_51) rfl rfl rfl hdX0_allWaits ⟨Nat.le_of_ble_eq_true rfl, Nat.le_of_ble_eq_true rfl⟩) 21 rfl rfl rfl rfl (Nat.le_of_ble_eq_true rfl) ⟨Nat.zero_le _, Nat.zero_le _⟩ dX3_bestPlan_94 ?_
            refine vV_callSi Cx (KX3_merit (ad := ad) _ _ _ _) (cwS 3 Cx.1.2.2.2.2 (uGS u2_122 u2_123 u1_1 u2_124) rfl rfl rfl hdX3_merit ⟨Nat.le_of_ble_eq_true rfl, Nat.le_of_ble_eq_true rfl⟩) rfl rfl (Nat.le_of_ble_eq_true rfl) ⟨Nat.zero_le _, Nat.zero_le _⟩ dX3_bestPlan_97 ?_
            refine vV_istore Cx dX3_bestPlan_100 (by decide) ?_
            refine vV_iload Cx dX3_bestPlan_102 rfl ?_
            refine vV_iload Cx dX3_bestPlan_104 rfl ?_
            refine vV_icmp_le (tgt := 116) Cx dX3_bestPlan_106 (by decide) (fun h106 => ?_) (fun h106 => ?_)
            · rw [if_neg (show ¬ mo < c_mr n (c_try E (c_s2 E n k i Y) n np Z) from h106)] at h3
              refine vV_iinc Cx dX3_bestPlan_116 rfl (vinc _) (by decide) ?_
              refine vV_goto (tgt := 42) Cx dX3_bestPlan_119 (by decide) ?_
              refine vV_take 7 rfl ?_
              exact ih (i + 1) _ _ _ _ (by omega) (by omega) h3
            · rw [if_pos (show mo < c_mr n (c_try E (c_s2 E n k i Y) n np Z) from h106)] at h3
              refine vV_iload Cx dX3_bestPlan_109 rfl ?_
              refine vV_istore Cx dX3_bestPlan_111 (by decide) ?_
              refine vV_iload Cx dX3_bestPlan_113 rfl ?_
              refine vV_istore_n Cx 3 dX3_bestPlan_115 rfl (by decide) ?_
              refine vV_iinc Cx dX3_bestPlan_116 rfl (vinc _) (by decide) ?_
              refine vV_goto (tgt := 42) Cx dX3_bestPlan_119 (by decide) ?_
              refine vV_take 7 rfl ?_
              exact ih (i + 1) _ _ _ _ (by omega) (by omega) h3
          · rw [if_pos h62] at h3
            refine vV_goto (tgt := 116) Cx dX3_bestPlan_65 (by decide) ?_
            refine vV_iinc Cx dX3_bestPlan_116 rfl (vinc _) (by decide) ?_
            refine vV_goto (tgt := 42) Cx dX3_bestPlan_119 (by decide) ?_
            refine vV_take 7 rfl ?_
            exact ih (i + 1) _ _ _ _ (by omega) (by omega) h3
  have L4 : ∀ (fuel i : Nat), i ≤ k → k - i < fuel → vV D (vtys cI cZ) A 8 p l e rX3_bestPlan s m ([.ref (ad 0), .int (nI k)] : List Value).toArray below meth c 0 0 (MQ below (vQi D A ((c_best E n np k T S).1) (wR cI cZ ad (E) (C) ((c_best E n np k T S).2.1) ((c_best E n np k T S).2.2))) ([.ref (ad 0), .int (nI k)] : List Value).toArray s 0 0 A) (wR cI cZ ad E C T S) [.ref (ad 0), .int (nI k), .int (nI (6 ^ k))] 20 [] → vV D (vtys cI cZ) A 8 p l e rX3_bestPlan s m ([.ref (ad 0), .int (nI k)] : List Value).toArray below meth c 0 0 (MQ below (vQi D A ((c_best E n np k T S).1) (wR cI cZ ad (E) (C) ((c_best E n np k T S).2.1) ((c_best E n np k T S).2.2))) ([.ref (ad 0), .int (nI k)] : List Value).toArray s 0 0 A) (wR cI cZ ad E C T S) [.ref (ad 0), .int (nI k), .int (nI (6 ^ i)), .int (nI i)] 4 [] := by
    intro fuel
    induction fuel with
    | zero => intro i  h1 h2; exact absurd h2 (Nat.not_lt_zero _)
    | succ fuel ih =>
      intro i  h1 h2 h3
      refine vV_iload_n Cx 3 dX3_bestPlan_4 rfl rfl ?_
      refine vV_iload_n Cx 1 dX3_bestPlan_5 rfl rfl ?_
      refine vV_icmp_ge (tgt := 20) Cx dX3_bestPlan_6 (by decide) (fun h6 => ?_) (fun h6 => ?_)
      · have hin := vix_ge h6 (by omega) h1
        refine vV_take 3 rfl ?_
        rw [hin]
        exact h3
      · have hlt := vix_lt h6 (by omega) h1
        refine vV_iload_n Cx 2 dX3_bestPlan_9 rfl rfl ?_
        refine vV_bipush (v := 6) Cx dX3_bestPlan_10 (by decide) ?_
        refine vV_imul Cx dX3_bestPlan_12 ?_
        rw [vmul6]
        refine vV_istore_n Cx 2 dX3_bestPlan_13 rfl (by decide) ?_
        refine vV_iinc Cx dX3_bestPlan_14 rfl (vinc _) (by decide) ?_
        refine vV_goto (tgt := 4) Cx dX3_bestPlan_17 (by decide) ?_
        exact ih (i + 1) (by omega) (by omega) h3
  refine vV_iconst (v := 1) Cx dX3_bestPlan_0 (by decide) ?_
  refine vV_istore_n Cx 2 dX3_bestPlan_1 rfl (by decide) ?_
  refine vV_iconst (v := 0) Cx dX3_bestPlan_2 (by decide) ?_
  refine vV_istore_n Cx 3 dX3_bestPlan_3 rfl (by decide) ?_
  refine L4 (k + 1) 0 (by omega) (by omega) ?_
  refine vV_iconst (v := 0) Cx dX3_bestPlan_20 (by decide) ?_
  refine vV_istore_n Cx 3 dX3_bestPlan_21 rfl (by decide) ?_
  refine vV_iconst (v := -1) Cx dX3_bestPlan_22 (by decide) ?_
  refine vV_istore Cx dX3_bestPlan_23 (by decide) ?_
  refine vV_aload_n Cx 0 dX3_bestPlan_25 rfl rfl ?_
  refine vU_get Cx hinX3 0 rfl rfl 1 (by decide) u1_155 rfl dX3_bestPlan_26 ?_
  refine vU_get Cx hinX1 5 rfl rfl 0 (by decide) u1_73 rfl dX3_bestPlan_29 ?_
  rw [hn]
  refine vV_iconst (v := 0) Cx dX3_bestPlan_32 (by decide) ?_
  refine vV_iconst (v := 0) Cx dX3_bestPlan_33 (by decide) ?_
  refine vV_callSi Cx (KX3_merit (ad := ad) _ _ _ _) (cwS 3 Cx.1.2.2.2.2 (uGS u2_122 u2_123 u1_1 u2_124) rfl rfl rfl hdX3_merit ⟨Nat.le_of_ble_eq_true rfl, Nat.le_of_ble_eq_true rfl⟩) rfl rfl (Nat.le_of_ble_eq_true rfl) ⟨Nat.zero_le _, Nat.zero_le _⟩ dX3_bestPlan_34 ?_
  refine vV_istore Cx dX3_bestPlan_37 (by decide) ?_
  refine vV_iconst (v := 0) Cx dX3_bestPlan_39 (by decide) ?_
  refine vV_istore Cx dX3_bestPlan_40 (by decide) ?_
  exact L42 (6 ^ k + 1) 0 _ _ _ _ (Nat.zero_le _) (by rw [Nat.sub_zero]; exact Nat.lt_succ_self _) rfl
def c_pl (E : mT) (S : Nat → Int32) (T : mT) (n np k : Nat) : (Nat → Int32) × mT := ((c_rp E n k (c_best E n np k T (va_cpy (E 6) S 0 0 4)).1.toNatClampNeg (c_best E n np k T (va_cpy (E 6) S 0 0 4)).2.2 1).1, (c_best E n np k T (va_cpy (E 6) S 0 0 4)).2.1)
def e_plan (E : mT) (S : Nat → Int32) (T : mT) (n np : Nat) (v : Int32) : mT := if isW v 1 3 = 0 then E else sRw E 6 (va_cpy (c_pl E S T n np v.toNatClampNeg).1 (E 6) 0 0 v.toNatClampNeg)
def c_plan (E : mT) (S : Nat → Int32) (T : mT) (n np : Nat) (v : Int32) (C : mT) : mT := if isW v 1 3 = 0 then C else c_reset (e_plan E S T n np v) n C
def t_plan (E : mT) (S : Nat → Int32) (T : mT) (n np : Nat) (v : Int32) : mT := if isW v 1 3 = 0 then T else c_try E (c_pl E S T n np v.toNatClampNeg).1 n np (c_pl E S T n np v.toNatClampNeg).2
def s_plan (E : mT) (S : Nat → Int32) (T : mT) (n np : Nat) (v : Int32) : Nat → Int32 := if isW v 1 3 = 0 then S else (c_pl E S T n np v.toNatClampNeg).1
def a_plan (E : mT) (S : Nat → Int32) (T : mT) (n np : Nat) (v : Int32) : Int32 := if isW v 1 3 = 0 then -1 else c_sum n (t_plan E S T n np v)
abbrev rX3_plan : Room := { frames := 6, cells := 0, slots := 0, locals := 137 }
set_option maxRecDepth 100000 in
set_option maxHeartbeats 4000000 in
theorem KX3_plan {l : Launch} {D : va_G} {cI cZ : ClassId} {ad : Nat → Nat} {A : Nat → Prop} {E C T : mT} {S : Nat → Int32} {n : Nat} (hn : E 8 2 = nI n) (h12n : n ≤ 12) (ht : ∀ i, i < n → vix (E 3 i) 4 (tm E i)) {np : Nat} (hp : E 8 0 = nI np) (hp6 : np ≤ 6) (hw : ∀ s, s < 6 → E 1 s = nI (wd E s) ∧ wd E s ≤ 6) (v : Int32) : vKi l D (vtys cI cZ) A yX3_plan (uT yX3_plan cX3_plan 3 (some .int)) rX3_plan (wR cI cZ ad E C T S) [.ref (ad 0), .int v] (a_plan E S T n np v) (wR cI cZ ad (e_plan E S T n np v) (c_plan E S T n np v C) (t_plan E S T n np v) (s_plan E S T n np v)) := by
  refine vKi_of (cc := cX3_plan) (maxL := 3) (ret := some .int) (by decide) rfl rfl (Nat.le_of_ble_eq_true rfl) ?_
  intro p e s m below meth c Cx hr hlk
  refine vV_iload_n Cx 1 dX3_plan_0 rfl rfl ?_
  refine vV_iconst (v := 1) Cx dX3_plan_1 (by decide) ?_
  refine vV_iconst (v := 3) Cx dX3_plan_2 (by decide) ?_
  refine vV_callSi Cx (KX3_isWithin (ad := ad) _ _ _ _) (cwS 3 Cx.1.2.2.2.2 (uGS u1_171 u1_172 u1_1 u1_173) rfl rfl rfl hdX3_isWithin ⟨Nat.le_of_ble_eq_true rfl, Nat.le_of_ble_eq_true rfl⟩) rfl rfl (Nat.le_of_ble_eq_true rfl) ⟨Nat.zero_le _, Nat.zero_le _⟩ dX3_plan_3 ?_
  refine vV_if_ne (tgt := 11) Cx dX3_plan_6 (by decide) (fun h6 => ?_) (fun h6 => ?_)
  · obtain ⟨k, hk1, hk, rfl⟩ := isW_nI2 (a := 1) (k := 3) (by decide) h6 (by decide)
    have hvk : (nI k).toNatClampNeg = k := nI_clamp (by omega)
    have he : e_plan E S T n np (nI k) = sRw E 6 (va_cpy (c_pl E S T n np k).1 (E 6) 0 0 k) := by rw [e_plan, if_neg h6, hvk]
    have hte : t_plan E S T n np (nI k) = c_try E (c_pl E S T n np k).1 n np (c_pl E S T n np k).2 := by rw [t_plan, if_neg h6, hvk]
    refine vV_aload_n Cx 0 dX3_plan_11 rfl rfl ?_
    refine vU_get Cx hinX3 0 rfl rfl 3 (by decide) u1_157 rfl dX3_plan_12 ?_
    refine vV_callVv Cx (R2_takeStarts) (cwV 0 Cx.1.2.2.2.2 (uGV u2_97 u2_98 u2_99 u1_6 u2_100) rfl rfl rfl hdX0_takeStarts ⟨Nat.le_of_ble_eq_true rfl, Nat.le_of_ble_eq_true rfl⟩) 21 rfl rfl rfl rfl (Nat.le_of_ble_eq_true rfl) ⟨Nat.zero_le _, Nat.zero_le _⟩ dX3_plan_15 ?_
    refine vV_aload_n Cx 0 dX3_plan_18 rfl rfl ?_
    refine vV_iload_n Cx 1 dX3_plan_19 rfl rfl ?_
    refine vV_callVi Cx (KX3_bestPlan hn h12n ht hp hp6 hw hk) (cwV 1 Cx.1.2.2.2.2 (uGV u2_118 u2_120 us_13 u1_1 u2_121) rfl rfl rfl hdX3_bestPlan ⟨Nat.le_of_ble_eq_true rfl, Nat.le_of_ble_eq_true rfl⟩) 0 rfl rfl rfl rfl (Nat.le_of_ble_eq_true rfl) ⟨Nat.zero_le _, Nat.zero_le _⟩ dX3_plan_20 ?_
    obtain ⟨B, hB, hbe⟩ := c_bst_ix E n np k (c_mer (nI n) 0 0) (6 ^ k) (6 ^ k) 0 0 (-1) T (va_cpy (E 6) S 0 0 4) (by omega) ⟨0, Nat.pow_pos (by decide), rfl⟩
    have h216 : 6 ^ k ≤ 216 := Nat.pow_le_pow_right (n := 6) (by decide) hk
    have hbe : (c_best E n np k T (va_cpy (E 6) S 0 0 4)).1 = nI B := hbe
    have hcl : (c_best E n np k T (va_cpy (E 6) S 0 0 4)).1.toNatClampNeg = B := by rw [hbe]; exact nI_clamp (by omega)
    rw [hbe]
    refine vV_istore_n Cx 2 dX3_plan_23 rfl (by decide) ?_
    refine vV_aload_n Cx 0 dX3_plan_24 rfl rfl ?_
    refine vV_iload_n Cx 2 dX3_plan_25 rfl rfl ?_
    refine vV_iload_n Cx 1 dX3_plan_26 rfl rfl ?_
    refine vV_callVi Cx (KX3_readPlan hn h12n (by omega) hk) (cwV 2 Cx.1.2.2.2.2 (uGV u2_125 u2_127 us_14 u1_1 u2_128) rfl rfl rfl hdX3_readPlan ⟨Nat.le_of_ble_eq_true rfl, Nat.le_of_ble_eq_true rfl⟩) 0 rfl rfl rfl rfl (Nat.le_of_ble_eq_true rfl) ⟨Nat.zero_le _, Nat.zero_le _⟩ dX3_plan_27 ?_
    refine vV_pop Cx dX3_plan_30 rfl ?_
    refine vV_aload_n Cx 0 dX3_plan_31 rfl rfl ?_
    refine vU_get Cx hinX3 0 rfl rfl 3 (by decide) u1_157 rfl dX3_plan_32 ?_
    refine vV_callVv Cx (R2_tryOut hn h12n ht hp hp6 hw) (cwV 0 Cx.1.2.2.2.2 (uGV u2_104 u2_105 u2_106 u1_6 u2_107) rfl rfl rfl hdX0_tryOut ⟨Nat.le_of_ble_eq_true rfl, Nat.le_of_ble_eq_true rfl⟩) 21 rfl rfl rfl rfl (Nat.le_of_ble_eq_true rfl) ⟨Nat.zero_le _, Nat.zero_le _⟩ dX3_plan_35 ?_
    refine vV_aload_n Cx 0 dX3_plan_38 rfl rfl ?_
    refine vU_get Cx hinX3 0 rfl rfl 3 (by decide) u1_157 rfl dX3_plan_39 ?_
    refine vU_get Cx hinX0 21 rfl rfl 2 (by decide) u1_108 rfl dX3_plan_42 ?_
    refine vV_iconst (v := 0) Cx dX3_plan_45 (by decide) ?_
    refine vV_aload_n Cx 0 dX3_plan_46 rfl rfl ?_
    refine vU_get Cx hinX3 0 rfl rfl 1 (by decide) u1_155 rfl dX3_plan_47 ?_
    refine vU_get Cx hinX1 5 rfl rfl 4 (by decide) u1_81 rfl dX3_plan_50 ?_
    refine vV_iconst (v := 0) Cx dX3_plan_53 (by decide) ?_
    refine vV_iload_n Cx 1 dX3_plan_54 rfl rfl ?_
    refine vU_copyi (f := (c_rp E n k B (c_best E n np k T (va_cpy (E 6) S 0 0 4)).2.2 1).1) (g := E 6) (n0 := 4) (n1 := 4) Cx u2_133 u1_12 31 9 rfl rfl (by decide) (by decide) (nI_pos (by omega)) (by rw [nI_clamp (by omega)]; show 0 + k ≤ 4; omega) (by rw [nI_clamp (by omega)]; show 0 + k ≤ 4; omega) (Nat.le_of_ble_eq_true rfl) (Nat.le_of_ble_eq_true rfl) dX3_plan_55 (w' := wR cI cZ ad (sRw E 6 (va_cpy (c_rp E n k B (c_best E n np k T (va_cpy (E 6) S 0 0 4)).2.2 1).1 (E 6) 0 0 k)) C (c_try E (c_rp E n k B (c_best E n np k T (va_cpy (E 6) S 0 0 4)).2.2 1).1 n np (c_best E n np k T (va_cpy (E 6) S 0 0 4)).2.1) (c_rp E n k B (c_best E n np k T (va_cpy (E 6) S 0 0 4)).2.2 1).1) (by rw [nI_clamp (by omega)]; rfl) ?_
    rw [show wR cI cZ ad (sRw E 6 (va_cpy (c_rp E n k B (c_best E n np k T (va_cpy (E 6) S 0 0 4)).2.2 1).1 (E 6) 0 0 k)) C (c_try E (c_rp E n k B (c_best E n np k T (va_cpy (E 6) S 0 0 4)).2.2 1).1 n np (c_best E n np k T (va_cpy (E 6) S 0 0 4)).2.1) (c_rp E n k B (c_best E n np k T (va_cpy (E 6) S 0 0 4)).2.2 1).1 = wR cI cZ ad (e_plan E S T n np (nI k)) C (t_plan E S T n np (nI k)) (s_plan E S T n np (nI k)) by rw [he, hte, s_plan, if_neg h6, hvk, c_pl, hcl]]
    have hn2 : e_plan E S T n np (nI k) 8 2 = nI n := by rw [he]; exact hn
    refine vV_aload_n Cx 0 dX3_plan_58 rfl rfl ?_
    refine vU_get Cx hinX3 0 rfl rfl 2 (by decide) u1_156 rfl dX3_plan_59 ?_
    refine vV_callVv Cx (R1_reset hn2 h12n) (cwV 0 Cx.1.2.2.2.2 (uGV u1_175 u1_176 u1_177 u1_6 u1_178) rfl rfl rfl hdX0_reset ⟨Nat.le_of_ble_eq_true rfl, Nat.le_of_ble_eq_true rfl⟩) 11 rfl rfl rfl rfl (Nat.le_of_ble_eq_true rfl) ⟨Nat.zero_le _, Nat.zero_le _⟩ dX3_plan_62 ?_
    refine vV_aload_n Cx 0 dX3_plan_65 rfl rfl ?_
    refine vU_get Cx hinX3 0 rfl rfl 3 (by decide) u1_157 rfl dX3_plan_66 ?_
    refine vV_callVi Cx (R2_summits hn2 h12n) (cwV 0 Cx.1.2.2.2.2 (uGV u2_40 u2_41 u2_42 u1_6 u2_43) rfl rfl rfl hdX0_summits ⟨Nat.le_of_ble_eq_true rfl, Nat.le_of_ble_eq_true rfl⟩) 21 rfl rfl rfl rfl (Nat.le_of_ble_eq_true rfl) ⟨Nat.zero_le _, Nat.zero_le _⟩ dX3_plan_69 ?_
    exact vV_iret Cx hr hlk dX3_plan_72 (by rw [a_plan, if_neg h6]) (by rw [c_plan, if_neg h6])
  · refine vV_iconst (v := -1) Cx dX3_plan_9 (by decide) ?_
    exact vV_iret Cx hr hlk dX3_plan_10 (by simp [a_plan, h6]) (by simp [e_plan, c_plan, t_plan, s_plan, h6])
