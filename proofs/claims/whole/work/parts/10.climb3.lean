/-! Climb: an hour, a trial -/
def wd (E : mT) (s : Nat) : Nat := (E 1 s).toNatClampNeg
def c_lb1 (E : mT) (s f : Nat) (C : mT) : mT := cS (cS (cS C 7 f (-1)) 6 f (-1)) 2 f (if C 3 f = 0 then 2 * c_hf E f s (if C 0 f = 0 then 1 else 0) else c_hf E f s (if C 0 f = 0 then 1 else 0))
def c_lb (E : mT) (n s : Nat) : Nat → mT → mT
  | 0, C => C
  | k + 1, C => if c_fil n (nI s) C = -1 then C else c_lb E n s k (c_lb1 E s (c_fil n (nI s) C).toNatClampNeg C)
theorem c_lb_0 (E : mT) (n s : Nat) (C : mT) : c_lb E n s 0 C = C := rfl
theorem c_lb_s (E : mT) (n s w k : Nat) (C : mT) (h : k < w) : c_lb E n s (w - k) C = if c_fil n (nI s) C = -1 then C else c_lb E n s (w - (k + 1)) (c_lb1 E s (c_fil n (nI s) C).toNatClampNeg C) := by rw [show w - k = (w - (k + 1)) + 1 by omega]; rfl
def c_lbs (E : mT) (n : Nat) : Nat → mT → mT
  | 0, C => C
  | s + 1, C => c_lbs E n s (c_lb E n s (wd E s) C)
def q1 (E : mT) (St : Nat → Int32) (i : Nat) (C : mT) : mT := cS (cS C 7 i (c_pw E St i C)) 8 i (if C 0 i = 2 then C 6 i else C 6 i + 201)
def c_bp (E : mT) (St : Nat → Int32) (n np : Nat) (C : mT) : mT := c_lbs E n np (vlp (q1 E St) n 0 C)
def p1 (i : Nat) (C : mT) : mT := if 0 < C 2 i then c_goOn i C else C
def p2 (E : mT) (St : Nat → Int32) (i : Nat) (C : mT) : mT := if C 2 i = 0 then c_dec E St i C else C
def p3 (E : mT) (St : Nat → Int32) (n np : Nat) (C : mT) : mT := if c_windy E (C 9 0) = 0 then c_bp E St n np C else C
def p5 (i : Nat) (C : mT) : mT := if C 2 i = 0 ∧ 0 < C 1 i ∧ (C 0 i = 0 ∨ C 0 i = 2) then cS C 5 i (C 5 i + 1) else C
def p6 (C : mT) : mT := cS C 9 0 (C 9 0 + 1)
def c_ph (E : mT) (St : Nat → Int32) (n np : Nat) (C : mT) : mT := p6 (vlp p5 n 0 (vlp (c_br E) n 0 (p3 E St n np (vlp (p2 E St) n 0 (vlp p1 n 0 C)))))
def c_to (E : mT) (St : Nat → Int32) (n np : Nat) : Nat → mT → mT
  | 0, C => C
  | k + 1, C => if c_over n C = 0 then c_to E St n np k (c_ph E St n np C) else C
def c_try (E : mT) (St : Nat → Int32) (n np : Nat) (C : mT) : mT := c_to E St n np 100 (c_reset E n C)
theorem vdn {s : Nat} {x : Int32} (hx : x = nI s - 1) (hs : s ≤ 6) : (x < 0 → s = 0) ∧ (¬ x < 0 → ∃ k, s = k + 1 ∧ x = nI k) := by
  cases s with
  | zero => exact ⟨fun _ => rfl, fun h => absurd (by rw [hx]; decide) h⟩
  | succ k =>
    have e : x = nI k := hx.trans (nI_pred k)
    exact ⟨fun h => absurd (e ▸ h) (nI_pos (by omega)), fun _ => ⟨k, rfl, e⟩⟩
abbrev rX0_letBegin : Room := { frames := 1, cells := 0, slots := 0, locals := 23 }
set_option maxRecDepth 100000 in
set_option maxHeartbeats 4000000 in
theorem KX0_letBegin {l : Launch} {D : va_G} {cI cZ : ClassId} {ad : Nat → Nat} {A : Nat → Prop} {b : Nat} (hb : b = 1 ∨ b = 2) {E C X : mT} {S : Nat → Int32} {n : Nat} (hn : E 8 2 = nI n) (h12n : n ≤ 12) {q : Nat} (hq : vix (nI q) 6 q) (hwq : E 1 q = nI (wd E q) ∧ wd E q ≤ 6) : vKv l D (vtys cI cZ) A yX0_letBegin (uT yX0_letBegin cX0_letBegin 5 (none)) rX0_letBegin (wB cI cZ ad b E C X S) [.ref (ad (pb b)), .int (nI q)] (wB cI cZ ad b E (c_lb E n q (wd E q) C) X S) := by
  refine vKv_of (cc := cX0_letBegin) (maxL := 5) (ret := none) (by decide) rfl rfl (Nat.le_of_ble_eq_true rfl) ?_
  intro p e s m below meth c Cx hr hlk
  have Lp : ∀ (fuel i : Nat) (Z : mT), i ≤ wd E q → wd E q - i < fuel → c_lb E n q (wd E q - i) Z = c_lb E n q (wd E q) C → vV D (vtys cI cZ) A 5 p l e rX0_letBegin s m ([.ref (ad (pb b)), .int (nI q)] : List Value).toArray below meth c 0 0 (MQ below (vQv D A (wB cI cZ ad b E (c_lb E n q (wd E q) C) X S)) ([.ref (ad (pb b)), .int (nI q)] : List Value).toArray s 0 0 A) (wB cI cZ ad b E (Z) X S) [.ref (ad (pb b)), .int (nI q), .int (nI i)] 2 [] := by
    intro fuel
    induction fuel with
    | zero => intro i Z h1 h2; exact absurd h2 (Nat.not_lt_zero _)
    | succ fuel ih =>
      intro i Z h1 h2 h3
      refine vV_iload_n Cx 2 dX0_letBegin_2 rfl rfl ?_
      refine vV_aload_n Cx 0 dX0_letBegin_3 rfl rfl ?_
      refine vU_get Cx hinX0 (pb b) (lkO hb) rfl 0 (by decide) u1_105 rfl dX0_letBegin_4 ?_
      refine vU_get Cx hinX2 1 (lkRopes hb) rfl 3 (by decide) u1_48 rfl dX0_letBegin_7 ?_
      refine vV_iload_n Cx 1 dX0_letBegin_10 rfl rfl ?_
      refine vV_iald Cx 3 0 (lk_width hb) rfl (by assumption) dX0_letBegin_11 ?_
      refine vV_icmp_ge (tgt := 93) Cx dX0_letBegin_12 (by decide) (fun h12 => ?_) (fun h12 => ?_)
      · rw [hwq.1] at h12
        have hin := vix_ge h12 (by omega) h1
        exact vV_vret Cx hr hlk dX0_letBegin_93 (by exact congrArg (fun z => wB cI cZ ad b E z X S) (by rw [hin, Nat.sub_self] at h3; exact h3))
      · rw [hwq.1] at h12
        have hlt := vix_lt h12 (by omega) h1
        rw [c_lb_s E n q (wd E q) i Z hlt] at h3
        refine vV_aload_n Cx 0 dX0_letBegin_15 rfl rfl ?_
        refine vV_iload_n Cx 1 dX0_letBegin_16 rfl rfl ?_
        refine vV_callVi Cx (KX0_firstInLine hb hn h12n (nI q)) (cwV 1 Cx.1.2.2.2.2 (uGV u2_17 u2_19 us_6 u1_6 u2_20) rfl rfl rfl hdX0_firstInLine ⟨Nat.le_of_ble_eq_true rfl, Nat.le_of_ble_eq_true rfl⟩) (pb b) (lkO hb) rfl rfl rfl (Nat.le_of_ble_eq_true rfl) ⟨Nat.zero_le _, Nat.zero_le _⟩ dX0_letBegin_17 ?_
        refine vV_istore_n Cx 3 dX0_letBegin_20 rfl (by decide) ?_
        refine vV_iload_n Cx 3 dX0_letBegin_21 rfl rfl ?_
        refine vV_iconst (v := -1) Cx dX0_letBegin_22 (by decide) ?_
        refine vV_icmp_ne (tgt := 27) Cx dX0_letBegin_23 (by decide) (fun h23 => ?_) (fun h23 => ?_)
        · have hf := c_fil_ix h12n h23
          rw [if_neg h23] at h3
          refine vV_aload_n Cx 0 dX0_letBegin_27 rfl rfl ?_
          refine vU_get Cx hinX0 (pb b) (lkO hb) rfl 11 (by decide) u1_125 rfl dX0_letBegin_28 ?_
          refine vV_iload_n Cx 3 dX0_letBegin_31 rfl rfl ?_
          refine vV_iconst (v := -1) Cx dX0_letBegin_32 (by decide) ?_
          refine vV_iast Cx (pb b + 8) 0 (lk_wanted hb) rfl (by assumption) dX0_letBegin_33 (sk_wanted hb) ?_
          refine vV_aload_n Cx 0 dX0_letBegin_34 rfl rfl ?_
          refine vU_get Cx hinX0 (pb b) (lkO hb) rfl 8 (by decide) u1_119 rfl dX0_letBegin_35 ?_
          refine vV_iload_n Cx 3 dX0_letBegin_38 rfl rfl ?_
          refine vV_iconst (v := -1) Cx dX0_letBegin_39 (by decide) ?_
          refine vV_iast Cx (pb b + 5) 0 (lk_since hb) rfl (by assumption) dX0_letBegin_40 (sk_since hb) ?_
          refine vV_aload_n Cx 0 dX0_letBegin_41 rfl rfl ?_
          refine vV_iload_n Cx 3 dX0_letBegin_42 rfl rfl ?_
          refine vV_iload_n Cx 1 dX0_letBegin_43 rfl rfl ?_
          refine vV_aload_n Cx 0 dX0_letBegin_44 rfl rfl ?_
          refine vU_get Cx hinX0 (pb b) (lkO hb) rfl 4 (by decide) u1_111 rfl dX0_letBegin_45 ?_
          refine vV_iload_n Cx 3 dX0_letBegin_48 rfl rfl ?_
          refine vV_iald Cx (pb b + 1) 0 (lk_state hb) rfl (by assumption) dX0_letBegin_49 ?_
          refine vV_if_ne (tgt := 57) Cx dX0_letBegin_50 (by decide) (fun h50 => ?_) (fun h50 => ?_)
          · refine vV_iconst (v := 0) Cx dX0_letBegin_57 (by decide) ?_
            refine vV_callVi Cx (KX0_hoursFor hb hf hq _) (cwV 3 Cx.1.2.2.2.2 (uGV u2_21 u2_23 us_7 u1_6 u2_24) rfl rfl rfl hdX0_hoursFor ⟨Nat.le_of_ble_eq_true rfl, Nat.le_of_ble_eq_true rfl⟩) (pb b) (lkO hb) rfl rfl rfl (Nat.le_of_ble_eq_true rfl) ⟨Nat.zero_le _, Nat.zero_le _⟩ dX0_letBegin_58 ?_
            refine vV_istore Cx dX0_letBegin_61 (by decide) ?_
            refine vV_aload_n Cx 0 dX0_letBegin_63 rfl rfl ?_
            refine vU_get Cx hinX0 (pb b) (lkO hb) rfl 6 (by decide) u1_115 rfl dX0_letBegin_64 ?_
            refine vV_iload_n Cx 3 dX0_letBegin_67 rfl rfl ?_
            refine vV_aload_n Cx 0 dX0_letBegin_68 rfl rfl ?_
            refine vU_get Cx hinX0 (pb b) (lkO hb) rfl 7 (by decide) u1_117 rfl dX0_letBegin_69 ?_
            refine vV_iload_n Cx 3 dX0_letBegin_72 rfl rfl ?_
            refine vV_iald Cx (pb b + 4) 0 (lk_breath hb) rfl (by assumption) dX0_letBegin_73 ?_
            refine vV_if_ne (tgt := 84) Cx dX0_letBegin_74 (by decide) (fun h74 => ?_) (fun h74 => ?_)
            · refine vV_iload Cx dX0_letBegin_84 rfl ?_
              refine vV_iast Cx (pb b + 3) 0 (lk_toGo hb) rfl (by assumption) dX0_letBegin_86 (sk_toGo hb) ?_
              refine vV_iinc Cx dX0_letBegin_87 rfl (vinc _) (by decide) ?_
              refine vV_goto (tgt := 2) Cx dX0_letBegin_90 (by decide) ?_
              refine vV_take 3 rfl ?_
              exact ih (i + 1) _ (by omega) (by omega) ((congrArg (c_lb E n q _) (by first | rfl | (clear Cx hr hlk; simp_all [-Int32.not_lt, -Int32.not_le, c_lb1, cS_ne]))).trans h3)
            · refine vV_iconst (v := 2) Cx dX0_letBegin_77 (by decide) ?_
              refine vV_iload Cx dX0_letBegin_78 rfl ?_
              refine vV_imul Cx dX0_letBegin_80 ?_
              refine vV_goto (tgt := 86) Cx dX0_letBegin_81 (by decide) ?_
              refine vV_iast Cx (pb b + 3) 0 (lk_toGo hb) rfl (by assumption) dX0_letBegin_86 (sk_toGo hb) ?_
              refine vV_iinc Cx dX0_letBegin_87 rfl (vinc _) (by decide) ?_
              refine vV_goto (tgt := 2) Cx dX0_letBegin_90 (by decide) ?_
              refine vV_take 3 rfl ?_
              exact ih (i + 1) _ (by omega) (by omega) ((congrArg (c_lb E n q _) (by first | rfl | (clear Cx hr hlk; simp_all [-Int32.not_lt, -Int32.not_le, c_lb1, cS_ne]))).trans h3)
          · refine vV_iconst (v := 1) Cx dX0_letBegin_53 (by decide) ?_
            refine vV_goto (tgt := 58) Cx dX0_letBegin_54 (by decide) ?_
            refine vV_callVi Cx (KX0_hoursFor hb hf hq _) (cwV 3 Cx.1.2.2.2.2 (uGV u2_21 u2_23 us_7 u1_6 u2_24) rfl rfl rfl hdX0_hoursFor ⟨Nat.le_of_ble_eq_true rfl, Nat.le_of_ble_eq_true rfl⟩) (pb b) (lkO hb) rfl rfl rfl (Nat.le_of_ble_eq_true rfl) ⟨Nat.zero_le _, Nat.zero_le _⟩ dX0_letBegin_58 ?_
            refine vV_istore Cx dX0_letBegin_61 (by decide) ?_
            refine vV_aload_n Cx 0 dX0_letBegin_63 rfl rfl ?_
            refine vU_get Cx hinX0 (pb b) (lkO hb) rfl 6 (by decide) u1_115 rfl dX0_letBegin_64 ?_
            refine vV_iload_n Cx 3 dX0_letBegin_67 rfl rfl ?_
            refine vV_aload_n Cx 0 dX0_letBegin_68 rfl rfl ?_
            refine vU_get Cx hinX0 (pb b) (lkO hb) rfl 7 (by decide) u1_117 rfl dX0_letBegin_69 ?_
            refine vV_iload_n Cx 3 dX0_letBegin_72 rfl rfl ?_
            refine vV_iald Cx (pb b + 4) 0 (lk_breath hb) rfl (by assumption) dX0_letBegin_73 ?_
            refine vV_if_ne (tgt := 84) Cx dX0_letBegin_74 (by decide) (fun h74 => ?_) (fun h74 => ?_)
            · refine vV_iload Cx dX0_letBegin_84 rfl ?_
              refine vV_iast Cx (pb b + 3) 0 (lk_toGo hb) rfl (by assumption) dX0_letBegin_86 (sk_toGo hb) ?_
              refine vV_iinc Cx dX0_letBegin_87 rfl (vinc _) (by decide) ?_
              refine vV_goto (tgt := 2) Cx dX0_letBegin_90 (by decide) ?_
              refine vV_take 3 rfl ?_
              exact ih (i + 1) _ (by omega) (by omega) ((congrArg (c_lb E n q _) (by first | rfl | (clear Cx hr hlk; simp_all [-Int32.not_lt, -Int32.not_le, c_lb1, cS_ne]))).trans h3)
            · refine vV_iconst (v := 2) Cx dX0_letBegin_77 (by decide) ?_
              refine vV_iload Cx dX0_letBegin_78 rfl ?_
              refine vV_imul Cx dX0_letBegin_80 ?_
              refine vV_goto (tgt := 86) Cx dX0_letBegin_81 (by decide) ?_
              refine vV_iast Cx (pb b + 3) 0 (lk_toGo hb) rfl (by assumption) dX0_letBegin_86 (sk_toGo hb) ?_
              refine vV_iinc Cx dX0_letBegin_87 rfl (vinc _) (by decide) ?_
              refine vV_goto (tgt := 2) Cx dX0_letBegin_90 (by decide) ?_
              refine vV_take 3 rfl ?_
              exact ih (i + 1) _ (by omega) (by omega) ((congrArg (c_lb E n q _) (by first | rfl | (clear Cx hr hlk; simp_all [-Int32.not_lt, -Int32.not_le, c_lb1, cS_ne]))).trans h3)
        · exact vV_vret Cx hr hlk dX0_letBegin_26 (by exact congrArg (fun z => wB cI cZ ad b E z X S) (by rw [if_pos h23] at h3; exact h3))
  refine vV_iconst (v := 0) Cx dX0_letBegin_0 (by decide) ?_
  refine vV_istore_n Cx 2 dX0_letBegin_1 rfl (by decide) ?_
  exact Lp (wd E q + 1) 0 _ (by omega) (by omega) rfl
abbrev rX0_beginPitches : Room := { frames := 2, cells := 0, slots := 0, locals := 47 }
set_option maxRecDepth 100000 in
set_option maxHeartbeats 4000000 in
theorem KX0_beginPitches {l : Launch} {D : va_G} {cI cZ : ClassId} {ad : Nat → Nat} {A : Nat → Prop} {b : Nat} (hb : b = 1 ∨ b = 2) {E C X : mT} {S : Nat → Int32} {n : Nat} (hn : E 8 2 = nI n) (h12n : n ≤ 12) (ht : ∀ i, i < n → vix (E 3 i) 4 (tm E i)) {np : Nat} (hp : E 8 0 = nI np) (h6 : np ≤ 6) (hw : ∀ s, s < 6 → E 1 s = nI (wd E s) ∧ wd E s ≤ 6) : vKv l D (vtys cI cZ) A yX0_beginPitches (uT yX0_beginPitches cX0_beginPitches 2 (none)) rX0_beginPitches (wB cI cZ ad b E C X S) [.ref (ad (pb b))] (wB cI cZ ad b E (c_bp E (Sb b E S) n np C) X S) := by
  refine vKv_of (cc := cX0_beginPitches) (maxL := 2) (ret := none) (by decide) rfl rfl (Nat.le_of_ble_eq_true rfl) ?_
  intro p e s m below meth c Cx hr hlk
  have L75 : ∀ (fuel i : Nat) (Z : mT) (x : Int32), i ≤ np → i < fuel → x = nI i - 1 → vV D (vtys cI cZ) A 2 p l e rX0_beginPitches s m ([.ref (ad (pb b))] : List Value).toArray below meth c 0 0 (MQ below (vQv D A (wB cI cZ ad b E (c_bp E (Sb b E S) n np C) X S)) ([.ref (ad (pb b))] : List Value).toArray s 0 0 A) (wB cI cZ ad b E (c_lbs E n i Z) X S) [.ref (ad (pb b))] 90 [] → vV D (vtys cI cZ) A 2 p l e rX0_beginPitches s m ([.ref (ad (pb b))] : List Value).toArray below meth c 0 0 (MQ below (vQv D A (wB cI cZ ad b E (c_bp E (Sb b E S) n np C) X S)) ([.ref (ad (pb b))] : List Value).toArray s 0 0 A) (wB cI cZ ad b E (Z) X S) [.ref (ad (pb b)), .int x] 75 [] := by
    intro fuel
    induction fuel with
    | zero => intro i Z x h1 h2; exact absurd h2 (Nat.not_lt_zero _)
    | succ fuel ih =>
      intro i Z x h1 h2 hx h3
      refine vV_iload_n Cx 1 dX0_beginPitches_75 rfl rfl ?_
      refine vV_if_lt (tgt := 90) Cx dX0_beginPitches_76 (by decide) (fun h76 => ?_) (fun h76 => ?_)
      · obtain rfl := (vdn hx (by omega)).1 h76
        refine vV_take 1 rfl ?_
        exact h3
      · obtain ⟨j, rfl, rfl⟩ := (vdn hx (by omega)).2 h76
        have hj : vix (nI j) 6 j := vix_nI (by omega) (by decide)
        refine vV_aload_n Cx 0 dX0_beginPitches_79 rfl rfl ?_
        refine vV_iload_n Cx 1 dX0_beginPitches_80 rfl rfl ?_
        refine vV_callVv Cx (KX0_letBegin hb hn h12n hj (hw j (by omega))) (cwV 1 Cx.1.2.2.2.2 (uGV u2_13 u2_15 us_5 u1_6 u2_16) rfl rfl rfl hdX0_letBegin ⟨Nat.le_of_ble_eq_true rfl, Nat.le_of_ble_eq_true rfl⟩) (pb b) (lkO hb) rfl rfl rfl (Nat.le_of_ble_eq_true rfl) ⟨Nat.zero_le _, Nat.zero_le _⟩ dX0_beginPitches_81 ?_
        refine vV_iinc Cx dX0_beginPitches_84 rfl rfl (by decide) ?_
        refine vV_goto (tgt := 75) Cx dX0_beginPitches_87 (by decide) ?_
        exact ih j _ _ (by omega) (by omega) (by rw [show Int32.ofInt (-1) = (-1 : Int32) by decide, Int32.sub_eq_add_neg]) h3
  have L2 : ∀ (fuel i : Nat) (Z : mT), i ≤ n → n - i < fuel → vV D (vtys cI cZ) A 2 p l e rX0_beginPitches s m ([.ref (ad (pb b))] : List Value).toArray below meth c 0 0 (MQ below (vQv D A (wB cI cZ ad b E (c_bp E (Sb b E S) n np C) X S)) ([.ref (ad (pb b))] : List Value).toArray s 0 0 A) (wB cI cZ ad b E (vlp (q1 E (Sb b E S)) n i Z) X S) [.ref (ad (pb b))] 65 [] → vV D (vtys cI cZ) A 2 p l e rX0_beginPitches s m ([.ref (ad (pb b))] : List Value).toArray below meth c 0 0 (MQ below (vQv D A (wB cI cZ ad b E (c_bp E (Sb b E S) n np C) X S)) ([.ref (ad (pb b))] : List Value).toArray s 0 0 A) (wB cI cZ ad b E (Z) X S) [.ref (ad (pb b)), .int (nI i)] 2 [] := by
    intro fuel
    induction fuel with
    | zero => intro i Z h1 h2; exact absurd h2 (Nat.not_lt_zero _)
    | succ fuel ih =>
      intro i Z h1 h2 h3
      refine vV_iload_n Cx 1 dX0_beginPitches_2 rfl rfl ?_
      refine vV_aload_n Cx 0 dX0_beginPitches_3 rfl rfl ?_
      refine vU_get Cx hinX0 (pb b) (lkO hb) rfl 1 (by decide) u1_106 rfl dX0_beginPitches_4 ?_
      refine vU_get Cx hinX1 5 (lkParty hb) rfl 0 (by decide) u1_72 rfl dX0_beginPitches_7 ?_
      refine vV_icmp_ge (tgt := 65) Cx dX0_beginPitches_10 (by decide) (fun h10 => ?_) (fun h10 => ?_)
      · rw [hn] at h10
        have hin := vix_ge h10 (by omega) h1
        refine vV_take 1 rfl ?_
        rw [hin, vlp_done (Nat.le_refl _)] at h3
        exact h3
      · rw [hn] at h10
        have hlt := vix_lt h10 (by omega) h1
        have hi : vix (nI i) 12 i := vix_nI (by omega) (by decide)
        refine vV_aload_n Cx 0 dX0_beginPitches_13 rfl rfl ?_
        refine vU_get Cx hinX0 (pb b) (lkO hb) rfl 11 (by decide) u1_125 rfl dX0_beginPitches_14 ?_
        refine vV_iload_n Cx 1 dX0_beginPitches_17 rfl rfl ?_
        refine vV_aload_n Cx 0 dX0_beginPitches_18 rfl rfl ?_
        refine vV_iload_n Cx 1 dX0_beginPitches_19 rfl rfl ?_
        refine vV_callVi Cx (KX0_pitchWanted hb hi (ht i hlt)) (cwV 1 Cx.1.2.2.2.2 (uGV u2_9 u2_11 us_4 u1_6 u2_12) rfl rfl rfl hdX0_pitchWanted ⟨Nat.le_of_ble_eq_true rfl, Nat.le_of_ble_eq_true rfl⟩) (pb b) (lkO hb) rfl rfl rfl (Nat.le_of_ble_eq_true rfl) ⟨Nat.zero_le _, Nat.zero_le _⟩ dX0_beginPitches_20 ?_
        refine vV_iast Cx (pb b + 8) 0 (lk_wanted hb) rfl (by assumption) dX0_beginPitches_23 (sk_wanted hb) ?_
        refine vV_aload_n Cx 0 dX0_beginPitches_24 rfl rfl ?_
        refine vU_get Cx hinX0 (pb b) (lkO hb) rfl 12 (by decide) u1_126 rfl dX0_beginPitches_25 ?_
        refine vV_iload_n Cx 1 dX0_beginPitches_28 rfl rfl ?_
        refine vV_aload_n Cx 0 dX0_beginPitches_29 rfl rfl ?_
        refine vU_get Cx hinX0 (pb b) (lkO hb) rfl 4 (by decide) u1_111 rfl dX0_beginPitches_30 ?_
        refine vV_iload_n Cx 1 dX0_beginPitches_33 rfl rfl ?_
        refine vV_iald Cx (pb b + 1) 0 (lk_state hb) rfl (by assumption) dX0_beginPitches_34 ?_
        refine vV_iconst (v := 2) Cx dX0_beginPitches_35 (by decide) ?_
        refine vV_icmp_ne (tgt := 48) Cx dX0_beginPitches_36 (by decide) (fun h36 => ?_) (fun h36 => ?_)
        · refine vV_aload_n Cx 0 dX0_beginPitches_48 rfl rfl ?_
          refine vU_get Cx hinX0 (pb b) (lkO hb) rfl 8 (by decide) u1_119 rfl dX0_beginPitches_49 ?_
          refine vV_iload_n Cx 1 dX0_beginPitches_52 rfl rfl ?_
          refine vV_iald Cx (pb b + 5) 0 (lk_since hb) rfl (by assumption) dX0_beginPitches_53 ?_
          refine vV_sipush (v := 201) Cx dX0_beginPitches_54 (by decide) ?_
          refine vV_iadd Cx dX0_beginPitches_57 ?_
          refine vV_iast Cx (pb b + 9) 0 (lk_place hb) rfl (by assumption) dX0_beginPitches_58 (sk_place hb) ?_
          refine vV_iinc Cx dX0_beginPitches_59 rfl (vinc _) (by decide) ?_
          refine vV_goto (tgt := 2) Cx dX0_beginPitches_62 (by decide) ?_
          exact ih (i + 1) _ (by omega) (by omega) (vV_wB ((vlp_step hlt).trans (congrArg (vlp _ n (i + 1)) (by first | rfl | (clear Cx hr hlk; simp_all [-Int32.not_lt, -Int32.not_le, q1, cS_ne])))) h3)
        · refine vV_aload_n Cx 0 dX0_beginPitches_39 rfl rfl ?_
          refine vU_get Cx hinX0 (pb b) (lkO hb) rfl 8 (by decide) u1_119 rfl dX0_beginPitches_40 ?_
          refine vV_iload_n Cx 1 dX0_beginPitches_43 rfl rfl ?_
          refine vV_iald Cx (pb b + 5) 0 (lk_since hb) rfl (by assumption) dX0_beginPitches_44 ?_
          refine vV_goto (tgt := 58) Cx dX0_beginPitches_45 (by decide) ?_
          refine vV_iast Cx (pb b + 9) 0 (lk_place hb) rfl (by assumption) dX0_beginPitches_58 (sk_place hb) ?_
          refine vV_iinc Cx dX0_beginPitches_59 rfl (vinc _) (by decide) ?_
          refine vV_goto (tgt := 2) Cx dX0_beginPitches_62 (by decide) ?_
          exact ih (i + 1) _ (by omega) (by omega) (vV_wB ((vlp_step hlt).trans (congrArg (vlp _ n (i + 1)) (by first | rfl | (clear Cx hr hlk; simp_all [-Int32.not_lt, -Int32.not_le, q1, cS_ne])))) h3)
  refine vV_iconst (v := 0) Cx dX0_beginPitches_0 (by decide) ?_
  refine vV_istore_n Cx 1 dX0_beginPitches_1 rfl (by decide) ?_
  refine L2 (n + 1) 0 _ (by omega) (by omega) ?_
  refine vV_aload_n Cx 0 dX0_beginPitches_65 rfl rfl ?_
  refine vU_get Cx hinX0 (pb b) (lkO hb) rfl 0 (by decide) u1_105 rfl dX0_beginPitches_66 ?_
  refine vU_get Cx hinX2 1 (lkRopes hb) rfl 0 (by decide) u1_38 rfl dX0_beginPitches_69 ?_
  refine vV_iconst (v := 1) Cx dX0_beginPitches_72 (by decide) ?_
  refine vV_isub Cx dX0_beginPitches_73 ?_
  refine vV_istore_n Cx 1 dX0_beginPitches_74 rfl (by decide) ?_
  refine L75 (np + 1) np _ _ (by omega) (by omega) (by rw [hp]) ?_
  exact vV_vret Cx hr hlk dX0_beginPitches_90 (by rfl)
abbrev rX0_passHour : Room := { frames := 3, cells := 0, slots := 0, locals := 68 }
set_option maxRecDepth 100000 in
set_option maxHeartbeats 4000000 in
theorem KX0_passHour {l : Launch} {D : va_G} {cI cZ : ClassId} {ad : Nat → Nat} {A : Nat → Prop} {b : Nat} (hb : b = 1 ∨ b = 2) {E C X : mT} {S : Nat → Int32} {n : Nat} (hn : E 8 2 = nI n) (h12n : n ≤ 12) (ht : ∀ i, i < n → vix (E 3 i) 4 (tm E i)) {np : Nat} (hp : E 8 0 = nI np) (h6 : np ≤ 6) (hw : ∀ s, s < 6 → E 1 s = nI (wd E s) ∧ wd E s ≤ 6) : vKv l D (vtys cI cZ) A yX0_passHour (uT yX0_passHour cX0_passHour 2 (none)) rX0_passHour (wB cI cZ ad b E C X S) [.ref (ad (pb b))] (wB cI cZ ad b E (c_ph E (Sb b E S) n np C) X S) := by
  refine vKv_of (cc := cX0_passHour) (maxL := 2) (ret := none) (by decide) rfl rfl (Nat.le_of_ble_eq_true rfl) ?_
  intro p e s m below meth c Cx hr hlk
  have L110 : ∀ (fuel i : Nat) (Z : mT), i ≤ n → n - i < fuel → vV D (vtys cI cZ) A 2 p l e rX0_passHour s m ([.ref (ad (pb b))] : List Value).toArray below meth c 0 0 (MQ below (vQv D A (wB cI cZ ad b E (c_ph E (Sb b E S) n np C) X S)) ([.ref (ad (pb b))] : List Value).toArray s 0 0 A) (wB cI cZ ad b E (vlp (p5) n i Z) X S) [.ref (ad (pb b))] 174 [] → vV D (vtys cI cZ) A 2 p l e rX0_passHour s m ([.ref (ad (pb b))] : List Value).toArray below meth c 0 0 (MQ below (vQv D A (wB cI cZ ad b E (c_ph E (Sb b E S) n np C) X S)) ([.ref (ad (pb b))] : List Value).toArray s 0 0 A) (wB cI cZ ad b E (Z) X S) [.ref (ad (pb b)), .int (nI i)] 110 [] := by
    intro fuel
    induction fuel with
    | zero => intro i Z h1 h2; exact absurd h2 (Nat.not_lt_zero _)
    | succ fuel ih =>
      intro i Z h1 h2 h3
      refine vV_iload_n Cx 1 dX0_passHour_110 rfl rfl ?_
      refine vV_aload_n Cx 0 dX0_passHour_111 rfl rfl ?_
      refine vU_get Cx hinX0 (pb b) (lkO hb) rfl 1 (by decide) u1_106 rfl dX0_passHour_112 ?_
      refine vU_get Cx hinX1 5 (lkParty hb) rfl 0 (by decide) u1_72 rfl dX0_passHour_115 ?_
      refine vV_icmp_ge (tgt := 174) Cx dX0_passHour_118 (by decide) (fun h118 => ?_) (fun h118 => ?_)
      · rw [hn] at h118
        have hin := vix_ge h118 (by omega) h1
        refine vV_take 1 rfl ?_
        rw [hin, vlp_done (Nat.le_refl _)] at h3
        exact h3
      · rw [hn] at h118
        have hlt := vix_lt h118 (by omega) h1
        have hi : vix (nI i) 12 i := vix_nI (by omega) (by decide)
        refine vV_aload_n Cx 0 dX0_passHour_121 rfl rfl ?_
        refine vU_get Cx hinX0 (pb b) (lkO hb) rfl 6 (by decide) u1_115 rfl dX0_passHour_122 ?_
        refine vV_iload_n Cx 1 dX0_passHour_125 rfl rfl ?_
        refine vV_iald Cx (pb b + 3) 0 (lk_toGo hb) rfl (by assumption) dX0_passHour_126 ?_
        refine vV_if_ne (tgt := 168) Cx dX0_passHour_127 (by decide) (fun h127 => ?_) (fun h127 => ?_)
        · refine vV_iinc Cx dX0_passHour_168 rfl (vinc _) (by decide) ?_
          refine vV_goto (tgt := 110) Cx dX0_passHour_171 (by decide) ?_
          exact ih (i + 1) _ (by omega) (by omega) (vV_wB ((vlp_step hlt).trans (congrArg (vlp _ n (i + 1)) (by first | rfl | (clear Cx hr hlk; simp_all [-Int32.not_lt, -Int32.not_le, p5])))) h3)
        · refine vV_aload_n Cx 0 dX0_passHour_130 rfl rfl ?_
          refine vU_get Cx hinX0 (pb b) (lkO hb) rfl 5 (by decide) u1_113 rfl dX0_passHour_131 ?_
          refine vV_iload_n Cx 1 dX0_passHour_134 rfl rfl ?_
          refine vV_iald Cx (pb b + 2) 0 (lk_camp hb) rfl (by assumption) dX0_passHour_135 ?_
          refine vV_if_le (tgt := 168) Cx dX0_passHour_136 (by decide) (fun h136 => ?_) (fun h136 => ?_)
          · refine vV_iinc Cx dX0_passHour_168 rfl (vinc _) (by decide) ?_
            refine vV_goto (tgt := 110) Cx dX0_passHour_171 (by decide) ?_
            exact ih (i + 1) _ (by omega) (by omega) (vV_wB ((vlp_step hlt).trans (congrArg (vlp _ n (i + 1)) (by first | rfl | (clear Cx hr hlk; simp_all [-Int32.not_lt, -Int32.not_le, p5])))) h3)
          · refine vV_aload_n Cx 0 dX0_passHour_139 rfl rfl ?_
            refine vU_get Cx hinX0 (pb b) (lkO hb) rfl 4 (by decide) u1_111 rfl dX0_passHour_140 ?_
            refine vV_iload_n Cx 1 dX0_passHour_143 rfl rfl ?_
            refine vV_iald Cx (pb b + 1) 0 (lk_state hb) rfl (by assumption) dX0_passHour_144 ?_
            refine vV_if_eq (tgt := 158) Cx dX0_passHour_145 (by decide) (fun h145 => ?_) (fun h145 => ?_)
            · refine vV_aload_n Cx 0 dX0_passHour_158 rfl rfl ?_
              refine vU_get Cx hinX0 (pb b) (lkO hb) rfl 10 (by decide) u1_123 rfl dX0_passHour_159 ?_
              refine vV_iload_n Cx 1 dX0_passHour_162 rfl rfl ?_
              refine vV_dup2 Cx dX0_passHour_163 rfl rfl ?_
              refine vV_iald Cx (pb b + 7) 0 (lk_waits hb) rfl (by assumption) dX0_passHour_164 ?_
              refine vV_iconst (v := 1) Cx dX0_passHour_165 (by decide) ?_
              refine vV_iadd Cx dX0_passHour_166 ?_
              refine vV_iast Cx (pb b + 7) 0 (lk_waits hb) rfl (by assumption) dX0_passHour_167 (sk_waits hb) ?_
              refine vV_iinc Cx dX0_passHour_168 rfl (vinc _) (by decide) ?_
              refine vV_goto (tgt := 110) Cx dX0_passHour_171 (by decide) ?_
              exact ih (i + 1) _ (by omega) (by omega) (vV_wB ((vlp_step hlt).trans (congrArg (vlp _ n (i + 1)) (by first | rfl | (clear Cx hr hlk; simp_all [-Int32.not_lt, -Int32.not_le, p5])))) h3)
            · refine vV_aload_n Cx 0 dX0_passHour_148 rfl rfl ?_
              refine vU_get Cx hinX0 (pb b) (lkO hb) rfl 4 (by decide) u1_111 rfl dX0_passHour_149 ?_
              refine vV_iload_n Cx 1 dX0_passHour_152 rfl rfl ?_
              refine vV_iald Cx (pb b + 1) 0 (lk_state hb) rfl (by assumption) dX0_passHour_153 ?_
              refine vV_iconst (v := 2) Cx dX0_passHour_154 (by decide) ?_
              refine vV_icmp_ne (tgt := 168) Cx dX0_passHour_155 (by decide) (fun h155 => ?_) (fun h155 => ?_)
              · refine vV_iinc Cx dX0_passHour_168 rfl (vinc _) (by decide) ?_
                refine vV_goto (tgt := 110) Cx dX0_passHour_171 (by decide) ?_
                exact ih (i + 1) _ (by omega) (by omega) (vV_wB ((vlp_step hlt).trans (congrArg (vlp _ n (i + 1)) (by first | rfl | (clear Cx hr hlk; simp_all [-Int32.not_lt, -Int32.not_le, p5])))) h3)
              · refine vV_aload_n Cx 0 dX0_passHour_158 rfl rfl ?_
                refine vU_get Cx hinX0 (pb b) (lkO hb) rfl 10 (by decide) u1_123 rfl dX0_passHour_159 ?_
                refine vV_iload_n Cx 1 dX0_passHour_162 rfl rfl ?_
                refine vV_dup2 Cx dX0_passHour_163 rfl rfl ?_
                refine vV_iald Cx (pb b + 7) 0 (lk_waits hb) rfl (by assumption) dX0_passHour_164 ?_
                refine vV_iconst (v := 1) Cx dX0_passHour_165 (by decide) ?_
                refine vV_iadd Cx dX0_passHour_166 ?_
                refine vV_iast Cx (pb b + 7) 0 (lk_waits hb) rfl (by assumption) dX0_passHour_167 (sk_waits hb) ?_
                refine vV_iinc Cx dX0_passHour_168 rfl (vinc _) (by decide) ?_
                refine vV_goto (tgt := 110) Cx dX0_passHour_171 (by decide) ?_
                exact ih (i + 1) _ (by omega) (by omega) (vV_wB ((vlp_step hlt).trans (congrArg (vlp _ n (i + 1)) (by first | rfl | (clear Cx hr hlk; simp_all [-Int32.not_lt, -Int32.not_le, p5])))) h3)
  have L86 : ∀ (fuel i : Nat) (Z : mT), i ≤ n → n - i < fuel → vV D (vtys cI cZ) A 2 p l e rX0_passHour s m ([.ref (ad (pb b))] : List Value).toArray below meth c 0 0 (MQ below (vQv D A (wB cI cZ ad b E (c_ph E (Sb b E S) n np C) X S)) ([.ref (ad (pb b))] : List Value).toArray s 0 0 A) (wB cI cZ ad b E (vlp (c_br E) n i Z) X S) [.ref (ad (pb b))] 108 [] → vV D (vtys cI cZ) A 2 p l e rX0_passHour s m ([.ref (ad (pb b))] : List Value).toArray below meth c 0 0 (MQ below (vQv D A (wB cI cZ ad b E (c_ph E (Sb b E S) n np C) X S)) ([.ref (ad (pb b))] : List Value).toArray s 0 0 A) (wB cI cZ ad b E (Z) X S) [.ref (ad (pb b)), .int (nI i)] 86 [] := by
    intro fuel
    induction fuel with
    | zero => intro i Z h1 h2; exact absurd h2 (Nat.not_lt_zero _)
    | succ fuel ih =>
      intro i Z h1 h2 h3
      refine vV_iload_n Cx 1 dX0_passHour_86 rfl rfl ?_
      refine vV_aload_n Cx 0 dX0_passHour_87 rfl rfl ?_
      refine vU_get Cx hinX0 (pb b) (lkO hb) rfl 1 (by decide) u1_106 rfl dX0_passHour_88 ?_
      refine vU_get Cx hinX1 5 (lkParty hb) rfl 0 (by decide) u1_72 rfl dX0_passHour_91 ?_
      refine vV_icmp_ge (tgt := 108) Cx dX0_passHour_94 (by decide) (fun h94 => ?_) (fun h94 => ?_)
      · rw [hn] at h94
        have hin := vix_ge h94 (by omega) h1
        refine vV_take 1 rfl ?_
        rw [hin, vlp_done (Nat.le_refl _)] at h3
        exact h3
      · rw [hn] at h94
        have hlt := vix_lt h94 (by omega) h1
        have hi : vix (nI i) 12 i := vix_nI (by omega) (by decide)
        refine vV_aload_n Cx 0 dX0_passHour_97 rfl rfl ?_
        refine vV_iload_n Cx 1 dX0_passHour_98 rfl rfl ?_
        refine vV_callVv Cx (KX0_breathe hb hi) (cwV 1 Cx.1.2.2.2.2 (uGV u2_25 u2_27 us_8 u1_6 u2_28) rfl rfl rfl hdX0_breathe ⟨Nat.le_of_ble_eq_true rfl, Nat.le_of_ble_eq_true rfl⟩) (pb b) (lkO hb) rfl rfl rfl (Nat.le_of_ble_eq_true rfl) ⟨Nat.zero_le _, Nat.zero_le _⟩ dX0_passHour_99 ?_
        refine vV_iinc Cx dX0_passHour_102 rfl (vinc _) (by decide) ?_
        refine vV_goto (tgt := 86) Cx dX0_passHour_105 (by decide) ?_
        exact ih (i + 1) _ (by omega) (by omega) (vV_wB ((vlp_step hlt).trans (congrArg (vlp _ n (i + 1)) (by first | rfl | (clear Cx hr hlk; simp_all [-Int32.not_lt, -Int32.not_le])))) h3)
  have L35 : ∀ (fuel i : Nat) (Z : mT), i ≤ n → n - i < fuel → vV D (vtys cI cZ) A 2 p l e rX0_passHour s m ([.ref (ad (pb b))] : List Value).toArray below meth c 0 0 (MQ below (vQv D A (wB cI cZ ad b E (c_ph E (Sb b E S) n np C) X S)) ([.ref (ad (pb b))] : List Value).toArray s 0 0 A) (wB cI cZ ad b E (vlp (p2 E (Sb b E S)) n i Z) X S) [.ref (ad (pb b))] 66 [] → vV D (vtys cI cZ) A 2 p l e rX0_passHour s m ([.ref (ad (pb b))] : List Value).toArray below meth c 0 0 (MQ below (vQv D A (wB cI cZ ad b E (c_ph E (Sb b E S) n np C) X S)) ([.ref (ad (pb b))] : List Value).toArray s 0 0 A) (wB cI cZ ad b E (Z) X S) [.ref (ad (pb b)), .int (nI i)] 35 [] := by
    intro fuel
    induction fuel with
    | zero => intro i Z h1 h2; exact absurd h2 (Nat.not_lt_zero _)
    | succ fuel ih =>
      intro i Z h1 h2 h3
      refine vV_iload_n Cx 1 dX0_passHour_35 rfl rfl ?_
      refine vV_aload_n Cx 0 dX0_passHour_36 rfl rfl ?_
      refine vU_get Cx hinX0 (pb b) (lkO hb) rfl 1 (by decide) u1_106 rfl dX0_passHour_37 ?_
      refine vU_get Cx hinX1 5 (lkParty hb) rfl 0 (by decide) u1_72 rfl dX0_passHour_40 ?_
      refine vV_icmp_ge (tgt := 66) Cx dX0_passHour_43 (by decide) (fun h43 => ?_) (fun h43 => ?_)
      · rw [hn] at h43
        have hin := vix_ge h43 (by omega) h1
        refine vV_take 1 rfl ?_
        rw [hin, vlp_done (Nat.le_refl _)] at h3
        exact h3
      · rw [hn] at h43
        have hlt := vix_lt h43 (by omega) h1
        have hi : vix (nI i) 12 i := vix_nI (by omega) (by decide)
        refine vV_aload_n Cx 0 dX0_passHour_46 rfl rfl ?_
        refine vU_get Cx hinX0 (pb b) (lkO hb) rfl 6 (by decide) u1_115 rfl dX0_passHour_47 ?_
        refine vV_iload_n Cx 1 dX0_passHour_50 rfl rfl ?_
        refine vV_iald Cx (pb b + 3) 0 (lk_toGo hb) rfl (by assumption) dX0_passHour_51 ?_
        refine vV_if_ne (tgt := 60) Cx dX0_passHour_52 (by decide) (fun h52 => ?_) (fun h52 => ?_)
        · refine vV_iinc Cx dX0_passHour_60 rfl (vinc _) (by decide) ?_
          refine vV_goto (tgt := 35) Cx dX0_passHour_63 (by decide) ?_
          exact ih (i + 1) _ (by omega) (by omega) (vV_wB ((vlp_step hlt).trans (congrArg (vlp _ n (i + 1)) (by first | rfl | (clear Cx hr hlk; simp_all [-Int32.not_lt, -Int32.not_le, p2])))) h3)
        · refine vV_aload_n Cx 0 dX0_passHour_55 rfl rfl ?_
          refine vV_iload_n Cx 1 dX0_passHour_56 rfl rfl ?_
          refine vV_callVv Cx (KX0_decide hb hi (ht i hlt)) (cwV 1 Cx.1.2.2.2.2 (uGV u1_233 u1_235 us_1 u1_6 u1_236) rfl rfl rfl hdX0_decide ⟨Nat.le_of_ble_eq_true rfl, Nat.le_of_ble_eq_true rfl⟩) (pb b) (lkO hb) rfl rfl rfl (Nat.le_of_ble_eq_true rfl) ⟨Nat.zero_le _, Nat.zero_le _⟩ dX0_passHour_57 ?_
          refine vV_iinc Cx dX0_passHour_60 rfl (vinc _) (by decide) ?_
          refine vV_goto (tgt := 35) Cx dX0_passHour_63 (by decide) ?_
          exact ih (i + 1) _ (by omega) (by omega) (vV_wB ((vlp_step hlt).trans (congrArg (vlp _ n (i + 1)) (by first | rfl | (clear Cx hr hlk; simp_all [-Int32.not_lt, -Int32.not_le, p2])))) h3)
  have L2 : ∀ (fuel i : Nat) (Z : mT), i ≤ n → n - i < fuel → vV D (vtys cI cZ) A 2 p l e rX0_passHour s m ([.ref (ad (pb b))] : List Value).toArray below meth c 0 0 (MQ below (vQv D A (wB cI cZ ad b E (c_ph E (Sb b E S) n np C) X S)) ([.ref (ad (pb b))] : List Value).toArray s 0 0 A) (wB cI cZ ad b E (vlp (p1) n i Z) X S) [.ref (ad (pb b))] 33 [] → vV D (vtys cI cZ) A 2 p l e rX0_passHour s m ([.ref (ad (pb b))] : List Value).toArray below meth c 0 0 (MQ below (vQv D A (wB cI cZ ad b E (c_ph E (Sb b E S) n np C) X S)) ([.ref (ad (pb b))] : List Value).toArray s 0 0 A) (wB cI cZ ad b E (Z) X S) [.ref (ad (pb b)), .int (nI i)] 2 [] := by
    intro fuel
    induction fuel with
    | zero => intro i Z h1 h2; exact absurd h2 (Nat.not_lt_zero _)
    | succ fuel ih =>
      intro i Z h1 h2 h3
      refine vV_iload_n Cx 1 dX0_passHour_2 rfl rfl ?_
      refine vV_aload_n Cx 0 dX0_passHour_3 rfl rfl ?_
      refine vU_get Cx hinX0 (pb b) (lkO hb) rfl 1 (by decide) u1_106 rfl dX0_passHour_4 ?_
      refine vU_get Cx hinX1 5 (lkParty hb) rfl 0 (by decide) u1_72 rfl dX0_passHour_7 ?_
      refine vV_icmp_ge (tgt := 33) Cx dX0_passHour_10 (by decide) (fun h10 => ?_) (fun h10 => ?_)
      · rw [hn] at h10
        have hin := vix_ge h10 (by omega) h1
        refine vV_take 1 rfl ?_
        rw [hin, vlp_done (Nat.le_refl _)] at h3
        exact h3
      · rw [hn] at h10
        have hlt := vix_lt h10 (by omega) h1
        have hi : vix (nI i) 12 i := vix_nI (by omega) (by decide)
        refine vV_aload_n Cx 0 dX0_passHour_13 rfl rfl ?_
        refine vU_get Cx hinX0 (pb b) (lkO hb) rfl 6 (by decide) u1_115 rfl dX0_passHour_14 ?_
        refine vV_iload_n Cx 1 dX0_passHour_17 rfl rfl ?_
        refine vV_iald Cx (pb b + 3) 0 (lk_toGo hb) rfl (by assumption) dX0_passHour_18 ?_
        refine vV_if_le (tgt := 27) Cx dX0_passHour_19 (by decide) (fun h19 => ?_) (fun h19 => ?_)
        · refine vV_iinc Cx dX0_passHour_27 rfl (vinc _) (by decide) ?_
          refine vV_goto (tgt := 2) Cx dX0_passHour_30 (by decide) ?_
          exact ih (i + 1) _ (by omega) (by omega) (vV_wB ((vlp_step hlt).trans (congrArg (vlp _ n (i + 1)) (by first | rfl | (clear Cx hr hlk; simp_all [-Int32.not_lt, -Int32.not_le, p1])))) h3)
        · refine vV_aload_n Cx 0 dX0_passHour_22 rfl rfl ?_
          refine vV_iload_n Cx 1 dX0_passHour_23 rfl rfl ?_
          refine vV_callVv Cx (KX0_goOn hb hi) (cwV 1 Cx.1.2.2.2.2 (uGV u1_229 u1_231 us_0 u1_6 u1_232) rfl rfl rfl hdX0_goOn ⟨Nat.le_of_ble_eq_true rfl, Nat.le_of_ble_eq_true rfl⟩) (pb b) (lkO hb) rfl rfl rfl (Nat.le_of_ble_eq_true rfl) ⟨Nat.zero_le _, Nat.zero_le _⟩ dX0_passHour_24 ?_
          refine vV_iinc Cx dX0_passHour_27 rfl (vinc _) (by decide) ?_
          refine vV_goto (tgt := 2) Cx dX0_passHour_30 (by decide) ?_
          exact ih (i + 1) _ (by omega) (by omega) (vV_wB ((vlp_step hlt).trans (congrArg (vlp _ n (i + 1)) (by first | rfl | (clear Cx hr hlk; simp_all [-Int32.not_lt, -Int32.not_le, p1])))) h3)
  refine vV_iconst (v := 0) Cx dX0_passHour_0 (by decide) ?_
  refine vV_istore_n Cx 1 dX0_passHour_1 rfl (by decide) ?_
  refine L2 (n + 1) 0 _ (by omega) (by omega) ?_
  refine vV_iconst (v := 0) Cx dX0_passHour_33 (by decide) ?_
  refine vV_istore_n Cx 1 dX0_passHour_34 rfl (by decide) ?_
  refine L35 (n + 1) 0 _ (by omega) (by omega) ?_
  refine vV_aload_n Cx 0 dX0_passHour_66 rfl rfl ?_
  refine vU_get Cx hinX0 (pb b) (lkO hb) rfl 0 (by decide) u1_105 rfl dX0_passHour_67 ?_
  refine vV_aload_n Cx 0 dX0_passHour_70 rfl rfl ?_
  refine vU_get Cx hinX0 (pb b) (lkO hb) rfl 3 (by decide) u1_109 rfl dX0_passHour_71 ?_
  refine vV_callVi Cx (KX2_isWindy hb _) (cwV 1 Cx.1.2.2.2.2 (uGV u2_1 u2_2 u2_3 u1_2 u2_4) rfl rfl rfl hdX2_isWindy ⟨Nat.le_of_ble_eq_true rfl, Nat.le_of_ble_eq_true rfl⟩) 1 (lkRopes hb) rfl rfl rfl (Nat.le_of_ble_eq_true rfl) ⟨Nat.zero_le _, Nat.zero_le _⟩ dX0_passHour_74 ?_
  refine vV_if_ne (tgt := 84) Cx dX0_passHour_77 (by decide) (fun h77 => ?_) (fun h77 => ?_)
  · refine vV_iconst (v := 0) Cx dX0_passHour_84 (by decide) ?_
    refine vV_istore_n Cx 1 dX0_passHour_85 rfl (by decide) ?_
    refine L86 (n + 1) 0 _ (by omega) (by omega) ?_
    refine vV_iconst (v := 0) Cx dX0_passHour_108 (by decide) ?_
    refine vV_istore_n Cx 1 dX0_passHour_109 rfl (by decide) ?_
    refine L110 (n + 1) 0 _ (by omega) (by omega) ?_
    refine vV_aload_n Cx 0 dX0_passHour_174 rfl rfl ?_
    refine vV_dup Cx dX0_passHour_175 rfl ?_
    refine vU_get Cx hinX0 (pb b) (lkO hb) rfl 3 (by decide) u1_109 rfl dX0_passHour_176 ?_
    refine vV_iconst (v := 1) Cx dX0_passHour_179 (by decide) ?_
    refine vV_iadd Cx dX0_passHour_180 ?_
    refine vU_put Cx hinX0 tyX0_ok nmX0 (pb b) (lkO hb) rfl 3 (by decide) u1_109 rfl (by decide +kernel) (Nat.le_of_ble_eq_true rfl) dX0_passHour_181 (sp_hour hb) ?_
    exact vV_vret Cx hr hlk dX0_passHour_184 (by exact congrArg (fun z => wB cI cZ ad b E z X S) (by first | rfl | (clear Cx hr hlk; simp_all [-Int32.not_lt, -Int32.not_le, c_ph, p3, p6])))
  · refine vV_aload_n Cx 0 dX0_passHour_80 rfl rfl ?_
    refine vV_callVv Cx (KX0_beginPitches hb hn h12n ht hp h6 hw) (cwV 0 Cx.1.2.2.2.2 (uGV u2_5 u2_7 us_3 u1_6 u2_8) rfl rfl rfl hdX0_beginPitches ⟨Nat.le_of_ble_eq_true rfl, Nat.le_of_ble_eq_true rfl⟩) (pb b) (lkO hb) rfl rfl rfl (Nat.le_of_ble_eq_true rfl) ⟨Nat.zero_le _, Nat.zero_le _⟩ dX0_passHour_81 ?_
    refine vV_iconst (v := 0) Cx dX0_passHour_84 (by decide) ?_
    refine vV_istore_n Cx 1 dX0_passHour_85 rfl (by decide) ?_
    refine L86 (n + 1) 0 _ (by omega) (by omega) ?_
    refine vV_iconst (v := 0) Cx dX0_passHour_108 (by decide) ?_
    refine vV_istore_n Cx 1 dX0_passHour_109 rfl (by decide) ?_
    refine L110 (n + 1) 0 _ (by omega) (by omega) ?_
    refine vV_aload_n Cx 0 dX0_passHour_174 rfl rfl ?_
    refine vV_dup Cx dX0_passHour_175 rfl ?_
    refine vU_get Cx hinX0 (pb b) (lkO hb) rfl 3 (by decide) u1_109 rfl dX0_passHour_176 ?_
    refine vV_iconst (v := 1) Cx dX0_passHour_179 (by decide) ?_
    refine vV_iadd Cx dX0_passHour_180 ?_
    refine vU_put Cx hinX0 tyX0_ok nmX0 (pb b) (lkO hb) rfl 3 (by decide) u1_109 rfl (by decide +kernel) (Nat.le_of_ble_eq_true rfl) dX0_passHour_181 (sp_hour hb) ?_
    exact vV_vret Cx hr hlk dX0_passHour_184 (by exact congrArg (fun z => wB cI cZ ad b E z X S) (by first | rfl | (clear Cx hr hlk; simp_all [-Int32.not_lt, -Int32.not_le, c_ph, p3, p6])))
abbrev rX0_tryOut : Room := { frames := 4, cells := 0, slots := 0, locals := 89 }
set_option maxRecDepth 100000 in
set_option maxHeartbeats 4000000 in
theorem KX0_tryOut {l : Launch} {D : va_G} {cI cZ : ClassId} {ad : Nat → Nat} {A : Nat → Prop} {b : Nat} (hb : b = 1 ∨ b = 2) {E C X : mT} {S : Nat → Int32} {n : Nat} (hn : E 8 2 = nI n) (h12n : n ≤ 12) (ht : ∀ i, i < n → vix (E 3 i) 4 (tm E i)) {np : Nat} (hp : E 8 0 = nI np) (h6 : np ≤ 6) (hw : ∀ s, s < 6 → E 1 s = nI (wd E s) ∧ wd E s ≤ 6) : vKv l D (vtys cI cZ) A yX0_tryOut (uT yX0_tryOut cX0_tryOut 2 (none)) rX0_tryOut (wB cI cZ ad b E C X S) [.ref (ad (pb b))] (wB cI cZ ad b E (c_try E (Sb b E S) n np C) X S) := by
  refine vKv_of (cc := cX0_tryOut) (maxL := 2) (ret := none) (by decide) rfl rfl (Nat.le_of_ble_eq_true rfl) ?_
  intro p e s m below meth c Cx hr hlk
  have Lp : ∀ (fuel i : Nat) (Z : mT), i ≤ 100 → 100 - i < fuel → c_to E (Sb b E S) n np (100 - i) Z = c_try E (Sb b E S) n np C → vV D (vtys cI cZ) A 2 p l e rX0_tryOut s m ([.ref (ad (pb b))] : List Value).toArray below meth c 0 0 (MQ below (vQv D A (wB cI cZ ad b E (c_try E (Sb b E S) n np C) X S)) ([.ref (ad (pb b))] : List Value).toArray s 0 0 A) (wB cI cZ ad b E (Z) X S) [.ref (ad (pb b)), .int (nI i)] 6 [] := by
    intro fuel
    induction fuel with
    | zero => intro i Z h1 h2; exact absurd h2 (Nat.not_lt_zero _)
    | succ fuel ih =>
      intro i Z h1 h2 h3
      refine vV_iload_n Cx 1 dX0_tryOut_6 rfl rfl ?_
      refine vV_bipush (v := 100) Cx dX0_tryOut_7 (by decide) ?_
      refine vV_icmp_ge (tgt := 29) Cx dX0_tryOut_9 (by decide) (fun h9 => ?_) (fun h9 => ?_)
      · have hin : i = 100 := vix_ge (n := 100) h9 (by omega) h1
        exact vV_vret Cx hr hlk dX0_tryOut_29 (by exact congrArg (fun z => wB cI cZ ad b E z X S) (by first | (rw [if_neg h16] at h3; exact h3) | (rw [hin] at h3; exact h3)))
      · have hlt : i < 100 := vix_lt (n := 100) h9 (by omega) h1
        rw [show 100 - i = (100 - (i + 1)) + 1 by omega, c_to] at h3
        refine vV_aload_n Cx 0 dX0_tryOut_12 rfl rfl ?_
        refine vV_callVi Cx (KX0_isOver hb hn h12n) (cwV 0 Cx.1.2.2.2.2 (uGV u2_109 u2_111 us_12 u1_6 u2_112) rfl rfl rfl hdX0_isOver ⟨Nat.le_of_ble_eq_true rfl, Nat.le_of_ble_eq_true rfl⟩) (pb b) (lkO hb) rfl rfl rfl (Nat.le_of_ble_eq_true rfl) ⟨Nat.zero_le _, Nat.zero_le _⟩ dX0_tryOut_13 ?_
        refine vV_if_ne (tgt := 29) Cx dX0_tryOut_16 (by decide) (fun h16 => ?_) (fun h16 => ?_)
        · exact vV_vret Cx hr hlk dX0_tryOut_29 (by exact congrArg (fun z => wB cI cZ ad b E z X S) (by first | (rw [if_neg h16] at h3; exact h3) | (rw [hin] at h3; exact h3)))
        · refine vV_aload_n Cx 0 dX0_tryOut_19 rfl rfl ?_
          refine vV_callVv Cx (KX0_passHour hb hn h12n ht hp h6 hw) (cwV 0 Cx.1.2.2.2.2 (uGV u2_113 u1_226 u1_227 u1_6 u1_228) rfl rfl rfl hdX0_passHour ⟨Nat.le_of_ble_eq_true rfl, Nat.le_of_ble_eq_true rfl⟩) (pb b) (lkO hb) rfl rfl rfl (Nat.le_of_ble_eq_true rfl) ⟨Nat.zero_le _, Nat.zero_le _⟩ dX0_tryOut_20 ?_
          refine vV_iinc Cx dX0_tryOut_23 rfl (vinc _) (by decide) ?_
          refine vV_goto (tgt := 6) Cx dX0_tryOut_26 (by decide) ?_
          exact ih (i + 1) _ (by omega) (by omega) (by rw [if_pos h16] at h3; exact h3)
  refine vV_aload_n Cx 0 dX0_tryOut_0 rfl rfl ?_
  refine vV_callVv Cx (KX0_reset hb hn h12n) (cwV 0 Cx.1.2.2.2.2 (uGV u2_108 u1_176 u1_177 u1_6 u1_178) rfl rfl rfl hdX0_reset ⟨Nat.le_of_ble_eq_true rfl, Nat.le_of_ble_eq_true rfl⟩) (pb b) (lkO hb) rfl rfl rfl (Nat.le_of_ble_eq_true rfl) ⟨Nat.zero_le _, Nat.zero_le _⟩ dX0_tryOut_1 ?_
  refine vV_iconst (v := 0) Cx dX0_tryOut_4 (by decide) ?_
  refine vV_istore_n Cx 1 dX0_tryOut_5 rfl (by decide) ?_
  exact Lp 101 0 _ (by omega) (by omega) rfl
