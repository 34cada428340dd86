/-! Climb: what its methods do to its cells, as functions -/
theorem vV_wB {D : va_G} {tys : List (ClassId × FieldType)} {A : Nat → Prop} {nL : Nat} {p : Program} {l : Launch} {e : Env} {R : Room} {s : State} {m : MethodId} {args : Array Value} {below : List Frame} {meth : Method} {c : Code} {cells slots : Nat} {Q : State → Prop} {L : List Value} {pc : Nat} {st : List Value} {cI cZ : ClassId} {ad : Nat → Nat} {b : Nat} {E C1 C2 X : mT} {S : Nat → Int32} (h : C1 = C2) (k : vV D tys A nL p l e R s m args below meth c cells slots Q (wB cI cZ ad b E C1 X S) L pc st) : vV D tys A nL p l e R s m args below meth c cells slots Q (wB cI cZ ad b E C2 X S) L pc st := by subst h; exact k
def tm (E : mT) (i : Nat) : Nat := (E 3 i).toNatClampNeg
def c_paf (E : mT) (i : Nat) (C : mT) : mT := cS (cS (cS (cS (cS (cS (cS C 0 i 0) 1 i 0) 2 i 0) 3 i (E 5 i)) 6 i (C 9 0)) 4 i (-1)) 5 i 0
def c_goOn (i : Nat) (C : mT) : mT := if C 2 i - 1 = 0 then cS (cS (cS C 2 i (C 2 i - 1)) 1 i (C 1 i + (if C 0 i = 0 then 1 else -1))) 6 i (C 9 0) else cS C 2 i (C 2 i - 1)
def c_tb (E : mT) (St : Nat → Int32) (i : Nat) (C : mT) : Int32 := if C 0 i = 1 then (if C 6 i < C 9 0 then 1 else 0) else if C 0 i = 0 then (if C 3 i = 0 then 1 else if C 9 0 < E 7 (tm E i) then 0 else if C 9 0 < St (tm E i) then 0 else 1) else 0
def c_dec1 (E : mT) (St : Nat → Int32) (i : Nat) (C : mT) : mT := if C 0 i = 0 ∧ C 1 i = E 8 0 then cS (cS C 0 i 1) 4 i (C 9 0) else if c_tb E St i C = 0 then C else cS C 0 i 2
def c_dec2 (i : Nat) (C : mT) : mT := if C 0 i = 2 ∧ C 1 i = 0 then cS C 0 i 3 else C
def c_dec (E : mT) (St : Nat → Int32) (i : Nat) (C : mT) : mT := c_dec2 i (c_dec1 E St i C)
def c_pw (E : mT) (St : Nat → Int32) (i : Nat) (C : mT) : Int32 := if 0 < C 2 i then -1 else if C 0 i = 2 then C 1 i - 1 else if C 0 i = 0 ∧ (0 < C 1 i ∨ ¬ C 9 0 < St (tm E i)) then C 1 i else -1
def c_pu (i : Nat) (C : mT) : Int32 := if C 0 i = 0 then C 1 i else C 1 i - 1
def c_hf (E : mT) (i s : Nat) (up : Int32) : Int32 := if up = 0 then E 0 s else E 0 s + E 4 i
def c_wh (i : Nat) (C : mT) : Int32 := if C 2 i = 0 then C 1 i else c_pu i C
def c_less (x : Int32) : Int32 := if x - 1 < 0 then 0 else x - 1
def c_br (E : mT) (i : Nat) (C : mT) : mT := if C 0 i = 3 ∨ C 0 i = 4 then C else if c_wh i C < E 8 1 then C else if C 2 i = 0 ∧ c_less (C 3 i) = 0 ∧ ¬ C 9 0 - C 6 i < 6 then cS (cS C 3 i (c_less (C 3 i))) 0 i 4 else cS C 3 i (c_less (C 3 i))
abbrev rX0_pitchUnder : Room := { frames := 0, cells := 0, slots := 0, locals := 0 }
set_option maxRecDepth 100000 in
set_option maxHeartbeats 4000000 in
theorem KX0_pitchUnder {l : Launch} {D : va_G} {cI cZ : ClassId} {ad : Nat → Nat} {A : Nat → Prop} {b : Nat} (hb : b = 1 ∨ b = 2) {E C X : mT} {S : Nat → Int32} {x : Int32} {i : Nat} (hi : vix x 12 i) : vKi l D (vtys cI cZ) A yX0_pitchUnder (uT yX0_pitchUnder cX0_pitchUnder 2 (some .int)) rX0_pitchUnder (wB cI cZ ad b E C X S) [.ref (ad (pb b)), .int x] (c_pu i C) (wB cI cZ ad b E C X S) := by
  refine vKi_of (cc := cX0_pitchUnder) (maxL := 2) (ret := some .int) (by decide) rfl rfl (Nat.le_of_ble_eq_true rfl) ?_
  intro p e s m below meth c Cx hr hlk
  refine vV_aload_n Cx 0 dX0_pitchUnder_0 rfl rfl ?_
  refine vU_get Cx hinX0 (pb b) (lkO hb) rfl 4 (by decide) u1_111 rfl dX0_pitchUnder_1 ?_
  refine vV_iload_n Cx 1 dX0_pitchUnder_4 rfl rfl ?_
  refine vV_iald Cx (pb b + 1) 0 (lk_state hb) rfl (by assumption) dX0_pitchUnder_5 ?_
  refine vV_if_ne (tgt := 18) Cx dX0_pitchUnder_6 (by decide) (fun h6 => ?_) (fun h6 => ?_)
  · refine vV_aload_n Cx 0 dX0_pitchUnder_18 rfl rfl ?_
    refine vU_get Cx hinX0 (pb b) (lkO hb) rfl 5 (by decide) u1_113 rfl dX0_pitchUnder_19 ?_
    refine vV_iload_n Cx 1 dX0_pitchUnder_22 rfl rfl ?_
    refine vV_iald Cx (pb b + 2) 0 (lk_camp hb) rfl (by assumption) dX0_pitchUnder_23 ?_
    refine vV_iconst (v := 1) Cx dX0_pitchUnder_24 (by decide) ?_
    refine vV_isub Cx dX0_pitchUnder_25 ?_
    exact vV_iret Cx hr hlk dX0_pitchUnder_26 (by clear Cx hr hlk; simp_all [-Int32.not_lt, -Int32.not_le, c_pu]) (by rfl)
  · refine vV_aload_n Cx 0 dX0_pitchUnder_9 rfl rfl ?_
    refine vU_get Cx hinX0 (pb b) (lkO hb) rfl 5 (by decide) u1_113 rfl dX0_pitchUnder_10 ?_
    refine vV_iload_n Cx 1 dX0_pitchUnder_13 rfl rfl ?_
    refine vV_iald Cx (pb b + 2) 0 (lk_camp hb) rfl (by assumption) dX0_pitchUnder_14 ?_
    refine vV_goto (tgt := 26) Cx dX0_pitchUnder_15 (by decide) ?_
    exact vV_iret Cx hr hlk dX0_pitchUnder_26 (by clear Cx hr hlk; simp_all [-Int32.not_lt, -Int32.not_le, c_pu]) (by rfl)
abbrev rX0_hoursFor : Room := { frames := 0, cells := 0, slots := 0, locals := 0 }
set_option maxRecDepth 100000 in
set_option maxHeartbeats 4000000 in
theorem KX0_hoursFor {l : Launch} {D : va_G} {cI cZ : ClassId} {ad : Nat → Nat} {A : Nat → Prop} {b : Nat} (hb : b = 1 ∨ b = 2) {E C X : mT} {S : Nat → Int32} {x : Int32} {i : Nat} (hi : vix x 12 i) {y : Int32} {q : Nat} (hq : vix y 6 q) (u : Int32) : vKi l D (vtys cI cZ) A yX0_hoursFor (uT yX0_hoursFor cX0_hoursFor 4 (some .int)) rX0_hoursFor (wB cI cZ ad b E C X S) [.ref (ad (pb b)), .int x, .int y, .int u] (c_hf E i q u) (wB cI cZ ad b E C X S) := by
  refine vKi_of (cc := cX0_hoursFor) (maxL := 4) (ret := some .int) (by decide) rfl rfl (Nat.le_of_ble_eq_true rfl) ?_
  intro p e s m below meth c Cx hr hlk
  refine vV_iload_n Cx 3 dX0_hoursFor_0 rfl rfl ?_
  refine vV_if_eq (tgt := 26) Cx dX0_hoursFor_1 (by decide) (fun h1 => ?_) (fun h1 => ?_)
  · refine vV_aload_n Cx 0 dX0_hoursFor_26 rfl rfl ?_
    refine vU_get Cx hinX0 (pb b) (lkO hb) rfl 0 (by decide) u1_105 rfl dX0_hoursFor_27 ?_
    refine vU_get Cx hinX2 1 (lkRopes hb) rfl 2 (by decide) u1_45 rfl dX0_hoursFor_30 ?_
    refine vV_iload_n Cx 2 dX0_hoursFor_33 rfl rfl ?_
    refine vV_iald Cx 2 0 (lk_length hb) rfl (by assumption) dX0_hoursFor_34 ?_
    exact vV_iret Cx hr hlk dX0_hoursFor_35 (by clear Cx hr hlk; simp_all [-Int32.not_lt, -Int32.not_le, c_hf]) (by rfl)
  · refine vV_aload_n Cx 0 dX0_hoursFor_4 rfl rfl ?_
    refine vU_get Cx hinX0 (pb b) (lkO hb) rfl 0 (by decide) u1_105 rfl dX0_hoursFor_5 ?_
    refine vU_get Cx hinX2 1 (lkRopes hb) rfl 2 (by decide) u1_45 rfl dX0_hoursFor_8 ?_
    refine vV_iload_n Cx 2 dX0_hoursFor_11 rfl rfl ?_
    refine vV_iald Cx 2 0 (lk_length hb) rfl (by assumption) dX0_hoursFor_12 ?_
    refine vV_aload_n Cx 0 dX0_hoursFor_13 rfl rfl ?_
    refine vU_get Cx hinX0 (pb b) (lkO hb) rfl 1 (by decide) u1_106 rfl dX0_hoursFor_14 ?_
    refine vU_get Cx hinX1 5 (lkParty hb) rfl 2 (by decide) u1_77 rfl dX0_hoursFor_17 ?_
    refine vV_iload_n Cx 1 dX0_hoursFor_20 rfl rfl ?_
    refine vV_iald Cx 7 0 (lk_pace hb) rfl (by assumption) dX0_hoursFor_21 ?_
    refine vV_iadd Cx dX0_hoursFor_22 ?_
    refine vV_goto (tgt := 35) Cx dX0_hoursFor_23 (by decide) ?_
    exact vV_iret Cx hr hlk dX0_hoursFor_35 (by clear Cx hr hlk; simp_all [-Int32.not_lt, -Int32.not_le, c_hf]) (by rfl)
abbrev rX0_putAtFoot : Room := { frames := 0, cells := 0, slots := 0, locals := 0 }
set_option maxRecDepth 100000 in
set_option maxHeartbeats 4000000 in
theorem KX0_putAtFoot {l : Launch} {D : va_G} {cI cZ : ClassId} {ad : Nat → Nat} {A : Nat → Prop} {b : Nat} (hb : b = 1 ∨ b = 2) {E C X : mT} {S : Nat → Int32} {x : Int32} {i : Nat} (hi : vix x 12 i) : vKv l D (vtys cI cZ) A yX0_putAtFoot (uT yX0_putAtFoot cX0_putAtFoot 2 (none)) rX0_putAtFoot (wB cI cZ ad b E C X S) [.ref (ad (pb b)), .int x] (wB cI cZ ad b E (c_paf E i C) X S) := by
  refine vKv_of (cc := cX0_putAtFoot) (maxL := 2) (ret := none) (by decide) rfl rfl (Nat.le_of_ble_eq_true rfl) ?_
  intro p e s m below meth c Cx hr hlk
  refine vV_aload_n Cx 0 dX0_putAtFoot_0 rfl rfl ?_
  refine vU_get Cx hinX0 (pb b) (lkO hb) rfl 4 (by decide) u1_111 rfl dX0_putAtFoot_1 ?_
  refine vV_iload_n Cx 1 dX0_putAtFoot_4 rfl rfl ?_
  refine vV_iconst (v := 0) Cx dX0_putAtFoot_5 (by decide) ?_
  refine vV_iast Cx (pb b + 1) 0 (lk_state hb) rfl (by assumption) dX0_putAtFoot_6 (sk_state hb) ?_
  refine vV_aload_n Cx 0 dX0_putAtFoot_7 rfl rfl ?_
  refine vU_get Cx hinX0 (pb b) (lkO hb) rfl 5 (by decide) u1_113 rfl dX0_putAtFoot_8 ?_
  refine vV_iload_n Cx 1 dX0_putAtFoot_11 rfl rfl ?_
  refine vV_iconst (v := 0) Cx dX0_putAtFoot_12 (by decide) ?_
  refine vV_iast Cx (pb b + 2) 0 (lk_camp hb) rfl (by assumption) dX0_putAtFoot_13 (sk_camp hb) ?_
  refine vV_aload_n Cx 0 dX0_putAtFoot_14 rfl rfl ?_
  refine vU_get Cx hinX0 (pb b) (lkO hb) rfl 6 (by decide) u1_115 rfl dX0_putAtFoot_15 ?_
  refine vV_iload_n Cx 1 dX0_putAtFoot_18 rfl rfl ?_
  refine vV_iconst (v := 0) Cx dX0_putAtFoot_19 (by decide) ?_
  refine vV_iast Cx (pb b + 3) 0 (lk_toGo hb) rfl (by assumption) dX0_putAtFoot_20 (sk_toGo hb) ?_
  refine vV_aload_n Cx 0 dX0_putAtFoot_21 rfl rfl ?_
  refine vU_get Cx hinX0 (pb b) (lkO hb) rfl 7 (by decide) u1_117 rfl dX0_putAtFoot_22 ?_
  refine vV_iload_n Cx 1 dX0_putAtFoot_25 rfl rfl ?_
  refine vV_aload_n Cx 0 dX0_putAtFoot_26 rfl rfl ?_
  refine vU_get Cx hinX0 (pb b) (lkO hb) rfl 1 (by decide) u1_106 rfl dX0_putAtFoot_27 ?_
  refine vU_get Cx hinX1 5 (lkParty hb) rfl 3 (by decide) u1_79 rfl dX0_putAtFoot_30 ?_
  refine vV_iload_n Cx 1 dX0_putAtFoot_33 rfl rfl ?_
  refine vV_iald Cx 8 0 (lk_pbreath hb) rfl (by assumption) dX0_putAtFoot_34 ?_
  refine vV_iast Cx (pb b + 4) 0 (lk_breath hb) rfl (by assumption) dX0_putAtFoot_35 (sk_breath hb) ?_
  refine vV_aload_n Cx 0 dX0_putAtFoot_36 rfl rfl ?_
  refine vU_get Cx hinX0 (pb b) (lkO hb) rfl 8 (by decide) u1_119 rfl dX0_putAtFoot_37 ?_
  refine vV_iload_n Cx 1 dX0_putAtFoot_40 rfl rfl ?_
  refine vV_aload_n Cx 0 dX0_putAtFoot_41 rfl rfl ?_
  refine vU_get Cx hinX0 (pb b) (lkO hb) rfl 3 (by decide) u1_109 rfl dX0_putAtFoot_42 ?_
  refine vV_iast Cx (pb b + 5) 0 (lk_since hb) rfl (by assumption) dX0_putAtFoot_45 (sk_since hb) ?_
  refine vV_aload_n Cx 0 dX0_putAtFoot_46 rfl rfl ?_
  refine vU_get Cx hinX0 (pb b) (lkO hb) rfl 9 (by decide) u1_121 rfl dX0_putAtFoot_47 ?_
  refine vV_iload_n Cx 1 dX0_putAtFoot_50 rfl rfl ?_
  refine vV_iconst (v := -1) Cx dX0_putAtFoot_51 (by decide) ?_
  refine vV_iast Cx (pb b + 6) 0 (lk_summit hb) rfl (by assumption) dX0_putAtFoot_52 (sk_summit hb) ?_
  refine vV_aload_n Cx 0 dX0_putAtFoot_53 rfl rfl ?_
  refine vU_get Cx hinX0 (pb b) (lkO hb) rfl 10 (by decide) u1_123 rfl dX0_putAtFoot_54 ?_
  refine vV_iload_n Cx 1 dX0_putAtFoot_57 rfl rfl ?_
  refine vV_iconst (v := 0) Cx dX0_putAtFoot_58 (by decide) ?_
  refine vV_iast Cx (pb b + 7) 0 (lk_waits hb) rfl (by assumption) dX0_putAtFoot_59 (sk_waits hb) ?_
  exact vV_vret Cx hr hlk dX0_putAtFoot_60 (by rfl)
abbrev rX0_goOn : Room := { frames := 0, cells := 0, slots := 0, locals := 0 }
set_option maxRecDepth 100000 in
set_option maxHeartbeats 4000000 in
theorem KX0_goOn {l : Launch} {D : va_G} {cI cZ : ClassId} {ad : Nat → Nat} {A : Nat → Prop} {b : Nat} (hb : b = 1 ∨ b = 2) {E C X : mT} {S : Nat → Int32} {x : Int32} {i : Nat} (hi : vix x 12 i) : vKv l D (vtys cI cZ) A yX0_goOn (uT yX0_goOn cX0_goOn 2 (none)) rX0_goOn (wB cI cZ ad b E C X S) [.ref (ad (pb b)), .int x] (wB cI cZ ad b E (c_goOn i C) X S) := by
  refine vKv_of (cc := cX0_goOn) (maxL := 2) (ret := none) (by decide) rfl rfl (Nat.le_of_ble_eq_true rfl) ?_
  intro p e s m below meth c Cx hr hlk
  refine vV_aload_n Cx 0 dX0_goOn_0 rfl rfl ?_
  refine vU_get Cx hinX0 (pb b) (lkO hb) rfl 6 (by decide) u1_115 rfl dX0_goOn_1 ?_
  refine vV_iload_n Cx 1 dX0_goOn_4 rfl rfl ?_
  refine vV_dup2 Cx dX0_goOn_5 rfl rfl ?_
  refine vV_iald Cx (pb b + 3) 0 (lk_toGo hb) rfl (by assumption) dX0_goOn_6 ?_
  refine vV_iconst (v := 1) Cx dX0_goOn_7 (by decide) ?_
  refine vV_isub Cx dX0_goOn_8 ?_
  refine vV_iast Cx (pb b + 3) 0 (lk_toGo hb) rfl (by assumption) dX0_goOn_9 (sk_toGo hb) ?_
  refine vV_aload_n Cx 0 dX0_goOn_10 rfl rfl ?_
  refine vU_get Cx hinX0 (pb b) (lkO hb) rfl 6 (by decide) u1_115 rfl dX0_goOn_11 ?_
  refine vV_iload_n Cx 1 dX0_goOn_14 rfl rfl ?_
  refine vV_iald Cx (pb b + 3) 0 (lk_toGo hb) rfl (by assumption) dX0_goOn_15 ?_
  refine vV_if_ne (tgt := 52) Cx dX0_goOn_16 (by decide) (fun h16 => ?_) (fun h16 => ?_)
  · exact vV_vret Cx hr hlk dX0_goOn_52 (by exact congrArg (fun z => wB cI cZ ad b E z X S) (by clear Cx; simp_all [-Int32.not_lt, -Int32.not_le, c_goOn, cS_same, cS_ne]))
  · refine vV_aload_n Cx 0 dX0_goOn_19 rfl rfl ?_
    refine vU_get Cx hinX0 (pb b) (lkO hb) rfl 5 (by decide) u1_113 rfl dX0_goOn_20 ?_
    refine vV_iload_n Cx 1 dX0_goOn_23 rfl rfl ?_
    refine vV_dup2 Cx dX0_goOn_24 rfl rfl ?_
    refine vV_iald Cx (pb b + 2) 0 (lk_camp hb) rfl (by assumption) dX0_goOn_25 ?_
    refine vV_aload_n Cx 0 dX0_goOn_26 rfl rfl ?_
    refine vU_get Cx hinX0 (pb b) (lkO hb) rfl 4 (by decide) u1_111 rfl dX0_goOn_27 ?_
    refine vV_iload_n Cx 1 dX0_goOn_30 rfl rfl ?_
    refine vV_iald Cx (pb b + 1) 0 (lk_state hb) rfl (by assumption) dX0_goOn_31 ?_
    refine vV_if_ne (tgt := 39) Cx dX0_goOn_32 (by decide) (fun h32 => ?_) (fun h32 => ?_)
    · refine vV_iconst (v := -1) Cx dX0_goOn_39 (by decide) ?_
      refine vV_iadd Cx dX0_goOn_40 ?_
      refine vV_iast Cx (pb b + 2) 0 (lk_camp hb) rfl (by assumption) dX0_goOn_41 (sk_camp hb) ?_
      refine vV_aload_n Cx 0 dX0_goOn_42 rfl rfl ?_
      refine vU_get Cx hinX0 (pb b) (lkO hb) rfl 8 (by decide) u1_119 rfl dX0_goOn_43 ?_
      refine vV_iload_n Cx 1 dX0_goOn_46 rfl rfl ?_
      refine vV_aload_n Cx 0 dX0_goOn_47 rfl rfl ?_
      refine vU_get Cx hinX0 (pb b) (lkO hb) rfl 3 (by decide) u1_109 rfl dX0_goOn_48 ?_
      refine vV_iast Cx (pb b + 5) 0 (lk_since hb) rfl (by assumption) dX0_goOn_51 (sk_since hb) ?_
      exact vV_vret Cx hr hlk dX0_goOn_52 (by exact congrArg (fun z => wB cI cZ ad b E z X S) (by clear Cx; simp_all [-Int32.not_lt, -Int32.not_le, c_goOn, cS_same, cS_ne]))
    · refine vV_iconst (v := 1) Cx dX0_goOn_35 (by decide) ?_
      refine vV_goto (tgt := 40) Cx dX0_goOn_36 (by decide) ?_
      refine vV_iadd Cx dX0_goOn_40 ?_
      refine vV_iast Cx (pb b + 2) 0 (lk_camp hb) rfl (by assumption) dX0_goOn_41 (sk_camp hb) ?_
      refine vV_aload_n Cx 0 dX0_goOn_42 rfl rfl ?_
      refine vU_get Cx hinX0 (pb b) (lkO hb) rfl 8 (by decide) u1_119 rfl dX0_goOn_43 ?_
      refine vV_iload_n Cx 1 dX0_goOn_46 rfl rfl ?_
      refine vV_aload_n Cx 0 dX0_goOn_47 rfl rfl ?_
      refine vU_get Cx hinX0 (pb b) (lkO hb) rfl 3 (by decide) u1_109 rfl dX0_goOn_48 ?_
      refine vV_iast Cx (pb b + 5) 0 (lk_since hb) rfl (by assumption) dX0_goOn_51 (sk_since hb) ?_
      exact vV_vret Cx hr hlk dX0_goOn_52 (by exact congrArg (fun z => wB cI cZ ad b E z X S) (by clear Cx; simp_all [-Int32.not_lt, -Int32.not_le, c_goOn, cS_same, cS_ne]))
abbrev rX0_turnsBack : Room := { frames := 0, cells := 0, slots := 0, locals := 0 }
set_option maxRecDepth 100000 in
set_option maxHeartbeats 4000000 in
theorem KX0_turnsBack {l : Launch} {D : va_G} {cI cZ : ClassId} {ad : Nat → Nat} {A : Nat → Prop} {b : Nat} (hb : b = 1 ∨ b = 2) {E C X : mT} {S : Nat → Int32} {x : Int32} {i : Nat} (hi : vix x 12 i) (ht : vix (E 3 i) 4 (tm E i)) : vKi l D (vtys cI cZ) A yX0_turnsBack (uT yX0_turnsBack cX0_turnsBack 3 (some .boolean)) rX0_turnsBack (wB cI cZ ad b E C X S) [.ref (ad (pb b)), .int x] (c_tb E (Sb b E S) i C) (wB cI cZ ad b E C X S) := by
  refine vKi_of (cc := cX0_turnsBack) (maxL := 3) (ret := some .boolean) (by decide) rfl rfl (Nat.le_of_ble_eq_true rfl) ?_
  intro p e s m below meth c Cx hr hlk
  refine vV_aload_n Cx 0 dX0_turnsBack_0 rfl rfl ?_
  refine vU_get Cx hinX0 (pb b) (lkO hb) rfl 4 (by decide) u1_111 rfl dX0_turnsBack_1 ?_
  refine vV_iload_n Cx 1 dX0_turnsBack_4 rfl rfl ?_
  refine vV_iald Cx (pb b + 1) 0 (lk_state hb) rfl (by assumption) dX0_turnsBack_5 ?_
  refine vV_iconst (v := 1) Cx dX0_turnsBack_6 (by decide) ?_
  refine vV_icmp_ne (tgt := 29) Cx dX0_turnsBack_7 (by decide) (fun h7 => ?_) (fun h7 => ?_)
  · refine vV_aload_n Cx 0 dX0_turnsBack_29 rfl rfl ?_
    refine vU_get Cx hinX0 (pb b) (lkO hb) rfl 4 (by decide) u1_111 rfl dX0_turnsBack_30 ?_
    refine vV_iload_n Cx 1 dX0_turnsBack_33 rfl rfl ?_
    refine vV_iald Cx (pb b + 1) 0 (lk_state hb) rfl (by assumption) dX0_turnsBack_34 ?_
    refine vV_if_eq (tgt := 40) Cx dX0_turnsBack_35 (by decide) (fun h35 => ?_) (fun h35 => ?_)
    · refine vV_aload_n Cx 0 dX0_turnsBack_40 rfl rfl ?_
      refine vU_get Cx hinX0 (pb b) (lkO hb) rfl 1 (by decide) u1_106 rfl dX0_turnsBack_41 ?_
      refine vU_get Cx hinX1 5 (lkParty hb) rfl 1 (by decide) u1_75 rfl dX0_turnsBack_44 ?_
      refine vV_iload_n Cx 1 dX0_turnsBack_47 rfl rfl ?_
      refine vV_iald Cx 6 0 (lk_team hb) rfl (by assumption) dX0_turnsBack_48 ?_
      refine vV_istore_n Cx 2 dX0_turnsBack_49 rfl (by decide) ?_
      refine vV_aload_n Cx 0 dX0_turnsBack_50 rfl rfl ?_
      refine vU_get Cx hinX0 (pb b) (lkO hb) rfl 7 (by decide) u1_117 rfl dX0_turnsBack_51 ?_
      refine vV_iload_n Cx 1 dX0_turnsBack_54 rfl rfl ?_
      refine vV_iald Cx (pb b + 4) 0 (lk_breath hb) rfl (by assumption) dX0_turnsBack_55 ?_
      refine vV_if_eq (tgt := 88) Cx dX0_turnsBack_56 (by decide) (fun h56 => ?_) (fun h56 => ?_)
      · refine vV_iconst (v := 1) Cx dX0_turnsBack_88 (by decide) ?_
        refine vV_goto (tgt := 93) Cx dX0_turnsBack_89 (by decide) ?_
        exact vV_zret Cx hr hlk dX0_turnsBack_93 (by first | rfl | decide) (by clear Cx hr hlk; simp_all [-Int32.not_lt, -Int32.not_le, c_tb]) (by rfl)
      · refine vV_aload_n Cx 0 dX0_turnsBack_59 rfl rfl ?_
        refine vU_get Cx hinX0 (pb b) (lkO hb) rfl 3 (by decide) u1_109 rfl dX0_turnsBack_60 ?_
        refine vV_aload_n Cx 0 dX0_turnsBack_63 rfl rfl ?_
        refine vU_get Cx hinX0 (pb b) (lkO hb) rfl 1 (by decide) u1_106 rfl dX0_turnsBack_64 ?_
        refine vU_get Cx hinX1 5 (lkParty hb) rfl 5 (by decide) u1_85 rfl dX0_turnsBack_67 ?_
        refine vV_iload_n Cx 2 dX0_turnsBack_70 rfl rfl ?_
        refine vV_iald Cx 10 0 (lk_turn hb) rfl (by assumption) dX0_turnsBack_71 ?_
        refine vV_icmp_lt (tgt := 92) Cx dX0_turnsBack_72 (by decide) (fun h72 => ?_) (fun h72 => ?_)
        · refine vV_iconst (v := 0) Cx dX0_turnsBack_92 (by decide) ?_
          exact vV_zret Cx hr hlk dX0_turnsBack_93 (by first | rfl | decide) (by clear Cx hr hlk; simp_all [-Int32.not_lt, -Int32.not_le, c_tb]) (by rfl)
        · refine vV_aload_n Cx 0 dX0_turnsBack_75 rfl rfl ?_
          refine vU_get Cx hinX0 (pb b) (lkO hb) rfl 3 (by decide) u1_109 rfl dX0_turnsBack_76 ?_
          refine vV_aload_n Cx 0 dX0_turnsBack_79 rfl rfl ?_
          refine vU_get Cx hinX0 (pb b) (lkO hb) rfl 2 (by decide) u1_107 rfl dX0_turnsBack_80 ?_
          refine vV_iload_n Cx 2 dX0_turnsBack_83 rfl rfl ?_
          refine vV_iald Cx (ps b) 0 (lkS hb) rfl (by assumption) dX0_turnsBack_84 ?_
          refine vV_icmp_lt (tgt := 92) Cx dX0_turnsBack_85 (by decide) (fun h85 => ?_) (fun h85 => ?_)
          · refine vV_iconst (v := 0) Cx dX0_turnsBack_92 (by decide) ?_
            exact vV_zret Cx hr hlk dX0_turnsBack_93 (by first | rfl | decide) (by clear Cx hr hlk; simp_all [-Int32.not_lt, -Int32.not_le, c_tb]) (by rfl)
          · refine vV_iconst (v := 1) Cx dX0_turnsBack_88 (by decide) ?_
            refine vV_goto (tgt := 93) Cx dX0_turnsBack_89 (by decide) ?_
            exact vV_zret Cx hr hlk dX0_turnsBack_93 (by first | rfl | decide) (by clear Cx hr hlk; simp_all [-Int32.not_lt, -Int32.not_le, c_tb]) (by rfl)
    · refine vV_iconst (v := 0) Cx dX0_turnsBack_38 (by decide) ?_
      exact vV_zret Cx hr hlk dX0_turnsBack_39 (by first | rfl | decide) (by clear Cx hr hlk; simp_all [-Int32.not_lt, -Int32.not_le, c_tb]) (by rfl)
  · refine vV_aload_n Cx 0 dX0_turnsBack_10 rfl rfl ?_
    refine vU_get Cx hinX0 (pb b) (lkO hb) rfl 8 (by decide) u1_119 rfl dX0_turnsBack_11 ?_
    refine vV_iload_n Cx 1 dX0_turnsBack_14 rfl rfl ?_
    refine vV_iald Cx (pb b + 5) 0 (lk_since hb) rfl (by assumption) dX0_turnsBack_15 ?_
    refine vV_aload_n Cx 0 dX0_turnsBack_16 rfl rfl ?_
    refine vU_get Cx hinX0 (pb b) (lkO hb) rfl 3 (by decide) u1_109 rfl dX0_turnsBack_17 ?_
    refine vV_icmp_ge (tgt := 27) Cx dX0_turnsBack_20 (by decide) (fun h20 => ?_) (fun h20 => ?_)
    · refine vV_iconst (v := 0) Cx dX0_turnsBack_27 (by decide) ?_
      exact vV_zret Cx hr hlk dX0_turnsBack_28 (by first | rfl | decide) (by clear Cx hr hlk; simp_all [-Int32.not_lt, -Int32.not_le, c_tb]) (by rfl)
    · refine vV_iconst (v := 1) Cx dX0_turnsBack_23 (by decide) ?_
      refine vV_goto (tgt := 28) Cx dX0_turnsBack_24 (by decide) ?_
      exact vV_zret Cx hr hlk dX0_turnsBack_28 (by first | rfl | decide) (by clear Cx hr hlk; simp_all [-Int32.not_lt, -Int32.not_le, c_tb]) (by rfl)
abbrev rX0_decide : Room := { frames := 1, cells := 0, slots := 0, locals := 22 }
set_option maxRecDepth 100000 in
set_option maxHeartbeats 4000000 in
theorem KX0_decide {l : Launch} {D : va_G} {cI cZ : ClassId} {ad : Nat → Nat} {A : Nat → Prop} {b : Nat} (hb : b = 1 ∨ b = 2) {E C X : mT} {S : Nat → Int32} {x : Int32} {i : Nat} (hi : vix x 12 i) (ht : vix (E 3 i) 4 (tm E i)) : vKv l D (vtys cI cZ) A yX0_decide (uT yX0_decide cX0_decide 2 (none)) rX0_decide (wB cI cZ ad b E C X S) [.ref (ad (pb b)), .int x] (wB cI cZ ad b E (c_dec E (Sb b E S) i C) X S) := by
  refine vKv_of (cc := cX0_decide) (maxL := 2) (ret := none) (by decide) rfl rfl (Nat.le_of_ble_eq_true rfl) ?_
  intro p e s m below meth c Cx hr hlk
  refine vV_aload_n Cx 0 dX0_decide_0 rfl rfl ?_
  refine vU_get Cx hinX0 (pb b) (lkO hb) rfl 4 (by decide) u1_111 rfl dX0_decide_1 ?_
  refine vV_iload_n Cx 1 dX0_decide_4 rfl rfl ?_
  refine vV_iald Cx (pb b + 1) 0 (lk_state hb) rfl (by assumption) dX0_decide_5 ?_
  refine vV_if_ne (tgt := 45) Cx dX0_decide_6 (by decide) (fun h6 => ?_) (fun h6 => ?_)
  · refine vV_aload_n Cx 0 dX0_decide_45 rfl rfl ?_
    refine vV_iload_n Cx 1 dX0_decide_46 rfl rfl ?_
    refine vV_callVi Cx (KX0_turnsBack hb hi ht) (cwV 1 Cx.1.2.2.2.2 (uGV u1_237 u1_239 us_2 u1_6 u2_0) rfl rfl rfl hdX0_turnsBack ⟨Nat.le_of_ble_eq_true rfl, Nat.le_of_ble_eq_true rfl⟩) (pb b) (lkO hb) rfl rfl rfl (Nat.le_of_ble_eq_true rfl) ⟨Nat.zero_le _, Nat.zero_le _⟩ dX0_decide_47 ?_
    refine vV_if_eq (tgt := 60) Cx dX0_decide_50 (by decide) (fun h50 => ?_) (fun h50 => ?_)
    · refine vV_aload_n Cx 0 dX0_decide_60 rfl rfl ?_
      refine vU_get Cx hinX0 (pb b) (lkO hb) rfl 4 (by decide) u1_111 rfl dX0_decide_61 ?_
      refine vV_iload_n Cx 1 dX0_decide_64 rfl rfl ?_
      refine vV_iald Cx (pb b + 1) 0 (lk_state hb) rfl (by assumption) dX0_decide_65 ?_
      refine vV_iconst (v := 2) Cx dX0_decide_66 (by decide) ?_
      refine vV_icmp_ne (tgt := 86) Cx dX0_decide_67 (by decide) (fun h67 => ?_) (fun h67 => ?_)
      · exact vV_vret Cx hr hlk dX0_decide_86 (by exact congrArg (fun z => wB cI cZ ad b E z X S) (by clear Cx; simp_all [-Int32.not_lt, -Int32.not_le, c_dec, c_dec1, c_dec2, cS_same, cS_ne]))
      · refine vV_aload_n Cx 0 dX0_decide_70 rfl rfl ?_
        refine vU_get Cx hinX0 (pb b) (lkO hb) rfl 5 (by decide) u1_113 rfl dX0_decide_71 ?_
        refine vV_iload_n Cx 1 dX0_decide_74 rfl rfl ?_
        refine vV_iald Cx (pb b + 2) 0 (lk_camp hb) rfl (by assumption) dX0_decide_75 ?_
        refine vV_if_ne (tgt := 86) Cx dX0_decide_76 (by decide) (fun h76 => ?_) (fun h76 => ?_)
        · exact vV_vret Cx hr hlk dX0_decide_86 (by exact congrArg (fun z => wB cI cZ ad b E z X S) (by clear Cx; simp_all [-Int32.not_lt, -Int32.not_le, c_dec, c_dec1, c_dec2, cS_same, cS_ne]))
        · refine vV_aload_n Cx 0 dX0_decide_79 rfl rfl ?_
          refine vU_get Cx hinX0 (pb b) (lkO hb) rfl 4 (by decide) u1_111 rfl dX0_decide_80 ?_
          refine vV_iload_n Cx 1 dX0_decide_83 rfl rfl ?_
          refine vV_iconst (v := 3) Cx dX0_decide_84 (by decide) ?_
          refine vV_iast Cx (pb b + 1) 0 (lk_state hb) rfl (by assumption) dX0_decide_85 (sk_state hb) ?_
          exact vV_vret Cx hr hlk dX0_decide_86 (by exact congrArg (fun z => wB cI cZ ad b E z X S) (by clear Cx; simp_all [-Int32.not_lt, -Int32.not_le, c_dec, c_dec1, c_dec2, cS_same, cS_ne]))
    · refine vV_aload_n Cx 0 dX0_decide_53 rfl rfl ?_
      refine vU_get Cx hinX0 (pb b) (lkO hb) rfl 4 (by decide) u1_111 rfl dX0_decide_54 ?_
      refine vV_iload_n Cx 1 dX0_decide_57 rfl rfl ?_
      refine vV_iconst (v := 2) Cx dX0_decide_58 (by decide) ?_
      refine vV_iast Cx (pb b + 1) 0 (lk_state hb) rfl (by assumption) dX0_decide_59 (sk_state hb) ?_
      refine vV_aload_n Cx 0 dX0_decide_60 rfl rfl ?_
      refine vU_get Cx hinX0 (pb b) (lkO hb) rfl 4 (by decide) u1_111 rfl dX0_decide_61 ?_
      refine vV_iload_n Cx 1 dX0_decide_64 rfl rfl ?_
      refine vV_iald Cx (pb b + 1) 0 (lk_state hb) rfl (by assumption) dX0_decide_65 ?_
      refine vV_iconst (v := 2) Cx dX0_decide_66 (by decide) ?_
      refine vV_icmp_ne (tgt := 86) Cx dX0_decide_67 (by decide) (fun h67 => ?_) (fun h67 => ?_)
      · exact vV_vret Cx hr hlk dX0_decide_86 (by exact congrArg (fun z => wB cI cZ ad b E z X S) (by clear Cx; simp_all [-Int32.not_lt, -Int32.not_le, c_dec, c_dec1, c_dec2, cS_same, cS_ne]))
      · refine vV_aload_n Cx 0 dX0_decide_70 rfl rfl ?_
        refine vU_get Cx hinX0 (pb b) (lkO hb) rfl 5 (by decide) u1_113 rfl dX0_decide_71 ?_
        refine vV_iload_n Cx 1 dX0_decide_74 rfl rfl ?_
        refine vV_iald Cx (pb b + 2) 0 (lk_camp hb) rfl (by assumption) dX0_decide_75 ?_
        refine vV_if_ne (tgt := 86) Cx dX0_decide_76 (by decide) (fun h76 => ?_) (fun h76 => ?_)
        · exact vV_vret Cx hr hlk dX0_decide_86 (by exact congrArg (fun z => wB cI cZ ad b E z X S) (by clear Cx; simp_all [-Int32.not_lt, -Int32.not_le, c_dec, c_dec1, c_dec2, cS_same, cS_ne]))
        · refine vV_aload_n Cx 0 dX0_decide_79 rfl rfl ?_
          refine vU_get Cx hinX0 (pb b) (lkO hb) rfl 4 (by decide) u1_111 rfl dX0_decide_80 ?_
          refine vV_iload_n Cx 1 dX0_decide_83 rfl rfl ?_
          refine vV_iconst (v := 3) Cx dX0_decide_84 (by decide) ?_
          refine vV_iast Cx (pb b + 1) 0 (lk_state hb) rfl (by assumption) dX0_decide_85 (sk_state hb) ?_
          exact vV_vret Cx hr hlk dX0_decide_86 (by exact congrArg (fun z => wB cI cZ ad b E z X S) (by clear Cx; simp_all [-Int32.not_lt, -Int32.not_le, c_dec, c_dec1, c_dec2, cS_same, cS_ne]))
  · refine vV_aload_n Cx 0 dX0_decide_9 rfl rfl ?_
    refine vU_get Cx hinX0 (pb b) (lkO hb) rfl 5 (by decide) u1_113 rfl dX0_decide_10 ?_
    refine vV_iload_n Cx 1 dX0_decide_13 rfl rfl ?_
    refine vV_iald Cx (pb b + 2) 0 (lk_camp hb) rfl (by assumption) dX0_decide_14 ?_
    refine vV_aload_n Cx 0 dX0_decide_15 rfl rfl ?_
    refine vU_get Cx hinX0 (pb b) (lkO hb) rfl 0 (by decide) u1_105 rfl dX0_decide_16 ?_
    refine vU_get Cx hinX2 1 (lkRopes hb) rfl 0 (by decide) u1_38 rfl dX0_decide_19 ?_
    refine vV_icmp_ne (tgt := 45) Cx dX0_decide_22 (by decide) (fun h22 => ?_) (fun h22 => ?_)
    · refine vV_aload_n Cx 0 dX0_decide_45 rfl rfl ?_
      refine vV_iload_n Cx 1 dX0_decide_46 rfl rfl ?_
      refine vV_callVi Cx (KX0_turnsBack hb hi ht) (cwV 1 Cx.1.2.2.2.2 (uGV u1_237 u1_239 us_2 u1_6 u2_0) rfl rfl rfl hdX0_turnsBack ⟨Nat.le_of_ble_eq_true rfl, Nat.le_of_ble_eq_true rfl⟩) (pb b) (lkO hb) rfl rfl rfl (Nat.le_of_ble_eq_true rfl) ⟨Nat.zero_le _, Nat.zero_le _⟩ dX0_decide_47 ?_
      refine vV_if_eq (tgt := 60) Cx dX0_decide_50 (by decide) (fun h50 => ?_) (fun h50 => ?_)
      · refine vV_aload_n Cx 0 dX0_decide_60 rfl rfl ?_
        refine vU_get Cx hinX0 (pb b) (lkO hb) rfl 4 (by decide) u1_111 rfl dX0_decide_61 ?_
        refine vV_iload_n Cx 1 dX0_decide_64 rfl rfl ?_
        refine vV_iald Cx (pb b + 1) 0 (lk_state hb) rfl (by assumption) dX0_decide_65 ?_
        refine vV_iconst (v := 2) Cx dX0_decide_66 (by decide) ?_
        refine vV_icmp_ne (tgt := 86) Cx dX0_decide_67 (by decide) (fun h67 => ?_) (fun h67 => ?_)
        · exact vV_vret Cx hr hlk dX0_decide_86 (by exact congrArg (fun z => wB cI cZ ad b E z X S) (by clear Cx; simp_all [-Int32.not_lt, -Int32.not_le, c_dec, c_dec1, c_dec2, cS_same, cS_ne]))
        · refine vV_aload_n Cx 0 dX0_decide_70 rfl rfl ?_
          refine vU_get Cx hinX0 (pb b) (lkO hb) rfl 5 (by decide) u1_113 rfl dX0_decide_71 ?_
          refine vV_iload_n Cx 1 dX0_decide_74 rfl rfl ?_
          refine vV_iald Cx (pb b + 2) 0 (lk_camp hb) rfl (by assumption) dX0_decide_75 ?_
          refine vV_if_ne (tgt := 86) Cx dX0_decide_76 (by decide) (fun h76 => ?_) (fun h76 => ?_)
          · exact vV_vret Cx hr hlk dX0_decide_86 (by exact congrArg (fun z => wB cI cZ ad b E z X S) (by clear Cx; simp_all [-Int32.not_lt, -Int32.not_le, c_dec, c_dec1, c_dec2, cS_same, cS_ne]))
          · refine vV_aload_n Cx 0 dX0_decide_79 rfl rfl ?_
            refine vU_get Cx hinX0 (pb b) (lkO hb) rfl 4 (by decide) u1_111 rfl dX0_decide_80 ?_
            refine vV_iload_n Cx 1 dX0_decide_83 rfl rfl ?_
            refine vV_iconst (v := 3) Cx dX0_decide_84 (by decide) ?_
            refine vV_iast Cx (pb b + 1) 0 (lk_state hb) rfl (by assumption) dX0_decide_85 (sk_state hb) ?_
            exact vV_vret Cx hr hlk dX0_decide_86 (by exact congrArg (fun z => wB cI cZ ad b E z X S) (by clear Cx; simp_all [-Int32.not_lt, -Int32.not_le, c_dec, c_dec1, c_dec2, cS_same, cS_ne]))
      · refine vV_aload_n Cx 0 dX0_decide_53 rfl rfl ?_
        refine vU_get Cx hinX0 (pb b) (lkO hb) rfl 4 (by decide) u1_111 rfl dX0_decide_54 ?_
        refine vV_iload_n Cx 1 dX0_decide_57 rfl rfl ?_
        refine vV_iconst (v := 2) Cx dX0_decide_58 (by decide) ?_
        refine vV_iast Cx (pb b + 1) 0 (lk_state hb) rfl (by assumption) dX0_decide_59 (sk_state hb) ?_
        refine vV_aload_n Cx 0 dX0_decide_60 rfl rfl ?_
        refine vU_get Cx hinX0 (pb b) (lkO hb) rfl 4 (by decide) u1_111 rfl dX0_decide_61 ?_
        refine vV_iload_n Cx 1 dX0_decide_64 rfl rfl ?_
        refine vV_iald Cx (pb b + 1) 0 (lk_state hb) rfl (by assumption) dX0_decide_65 ?_
        refine vV_iconst (v := 2) Cx dX0_decide_66 (by decide) ?_
        refine vV_icmp_ne (tgt := 86) Cx dX0_decide_67 (by decide) (fun h67 => ?_) (fun h67 => ?_)
        · exact vV_vret Cx hr hlk dX0_decide_86 (by exact congrArg (fun z => wB cI cZ ad b E z X S) (by clear Cx; simp_all [-Int32.not_lt, -Int32.not_le, c_dec, c_dec1, c_dec2, cS_same, cS_ne]))
        · refine vV_aload_n Cx 0 dX0_decide_70 rfl rfl ?_
          refine vU_get Cx hinX0 (pb b) (lkO hb) rfl 5 (by decide) u1_113 rfl dX0_decide_71 ?_
          refine vV_iload_n Cx 1 dX0_decide_74 rfl rfl ?_
          refine vV_iald Cx (pb b + 2) 0 (lk_camp hb) rfl (by assumption) dX0_decide_75 ?_
          refine vV_if_ne (tgt := 86) Cx dX0_decide_76 (by decide) (fun h76 => ?_) (fun h76 => ?_)
          · exact vV_vret Cx hr hlk dX0_decide_86 (by exact congrArg (fun z => wB cI cZ ad b E z X S) (by clear Cx; simp_all [-Int32.not_lt, -Int32.not_le, c_dec, c_dec1, c_dec2, cS_same, cS_ne]))
          · refine vV_aload_n Cx 0 dX0_decide_79 rfl rfl ?_
            refine vU_get Cx hinX0 (pb b) (lkO hb) rfl 4 (by decide) u1_111 rfl dX0_decide_80 ?_
            refine vV_iload_n Cx 1 dX0_decide_83 rfl rfl ?_
            refine vV_iconst (v := 3) Cx dX0_decide_84 (by decide) ?_
            refine vV_iast Cx (pb b + 1) 0 (lk_state hb) rfl (by assumption) dX0_decide_85 (sk_state hb) ?_
            exact vV_vret Cx hr hlk dX0_decide_86 (by exact congrArg (fun z => wB cI cZ ad b E z X S) (by clear Cx; simp_all [-Int32.not_lt, -Int32.not_le, c_dec, c_dec1, c_dec2, cS_same, cS_ne]))
    · refine vV_aload_n Cx 0 dX0_decide_25 rfl rfl ?_
      refine vU_get Cx hinX0 (pb b) (lkO hb) rfl 4 (by decide) u1_111 rfl dX0_decide_26 ?_
      refine vV_iload_n Cx 1 dX0_decide_29 rfl rfl ?_
      refine vV_iconst (v := 1) Cx dX0_decide_30 (by decide) ?_
      refine vV_iast Cx (pb b + 1) 0 (lk_state hb) rfl (by assumption) dX0_decide_31 (sk_state hb) ?_
      refine vV_aload_n Cx 0 dX0_decide_32 rfl rfl ?_
      refine vU_get Cx hinX0 (pb b) (lkO hb) rfl 9 (by decide) u1_121 rfl dX0_decide_33 ?_
      refine vV_iload_n Cx 1 dX0_decide_36 rfl rfl ?_
      refine vV_aload_n Cx 0 dX0_decide_37 rfl rfl ?_
      refine vU_get Cx hinX0 (pb b) (lkO hb) rfl 3 (by decide) u1_109 rfl dX0_decide_38 ?_
      refine vV_iast Cx (pb b + 6) 0 (lk_summit hb) rfl (by assumption) dX0_decide_41 (sk_summit hb) ?_
      refine vV_goto (tgt := 60) Cx dX0_decide_42 (by decide) ?_
      refine vV_aload_n Cx 0 dX0_decide_60 rfl rfl ?_
      refine vU_get Cx hinX0 (pb b) (lkO hb) rfl 4 (by decide) u1_111 rfl dX0_decide_61 ?_
      refine vV_iload_n Cx 1 dX0_decide_64 rfl rfl ?_
      refine vV_iald Cx (pb b + 1) 0 (lk_state hb) rfl (by assumption) dX0_decide_65 ?_
      refine vV_iconst (v := 2) Cx dX0_decide_66 (by decide) ?_
      refine vV_icmp_ne (tgt := 86) Cx dX0_decide_67 (by decide) (fun h67 => ?_) (fun h67 => ?_)
      · exact vV_vret Cx hr hlk dX0_decide_86 (by exact congrArg (fun z => wB cI cZ ad b E z X S) (by clear Cx; simp_all [-Int32.not_lt, -Int32.not_le, c_dec, c_dec1, c_dec2, cS_same, cS_ne]))
      · refine vV_aload_n Cx 0 dX0_decide_70 rfl rfl ?_
        refine vU_get Cx hinX0 (pb b) (lkO hb) rfl 5 (by decide) u1_113 rfl dX0_decide_71 ?_
        refine vV_iload_n Cx 1 dX0_decide_74 rfl rfl ?_
        refine vV_iald Cx (pb b + 2) 0 (lk_camp hb) rfl (by assumption) dX0_decide_75 ?_
        refine vV_if_ne (tgt := 86) Cx dX0_decide_76 (by decide) (fun h76 => ?_) (fun h76 => ?_)
        · exact vV_vret Cx hr hlk dX0_decide_86 (by exact congrArg (fun z => wB cI cZ ad b E z X S) (by clear Cx; simp_all [-Int32.not_lt, -Int32.not_le, c_dec, c_dec1, c_dec2, cS_same, cS_ne]))
        · refine vV_aload_n Cx 0 dX0_decide_79 rfl rfl ?_
          refine vU_get Cx hinX0 (pb b) (lkO hb) rfl 4 (by decide) u1_111 rfl dX0_decide_80 ?_
          refine vV_iload_n Cx 1 dX0_decide_83 rfl rfl ?_
          refine vV_iconst (v := 3) Cx dX0_decide_84 (by decide) ?_
          refine vV_iast Cx (pb b + 1) 0 (lk_state hb) rfl (by assumption) dX0_decide_85 (sk_state hb) ?_
          exact vV_vret Cx hr hlk dX0_decide_86 (by exact congrArg (fun z => wB cI cZ ad b E z X S) (by clear Cx; simp_all [-Int32.not_lt, -Int32.not_le, c_dec, c_dec1, c_dec2, cS_same, cS_ne]))
abbrev rX0_pitchWanted : Room := { frames := 0, cells := 0, slots := 0, locals := 0 }
set_option maxRecDepth 100000 in
set_option maxHeartbeats 4000000 in
theorem KX0_pitchWanted {l : Launch} {D : va_G} {cI cZ : ClassId} {ad : Nat → Nat} {A : Nat → Prop} {b : Nat} (hb : b = 1 ∨ b = 2) {E C X : mT} {S : Nat → Int32} {x : Int32} {i : Nat} (hi : vix x 12 i) (ht : vix (E 3 i) 4 (tm E i)) : vKi l D (vtys cI cZ) A yX0_pitchWanted (uT yX0_pitchWanted cX0_pitchWanted 3 (some .int)) rX0_pitchWanted (wB cI cZ ad b E C X S) [.ref (ad (pb b)), .int x] (c_pw E (Sb b E S) i C) (wB cI cZ ad b E C X S) := by
  refine vKi_of (cc := cX0_pitchWanted) (maxL := 3) (ret := some .int) (by decide) rfl rfl (Nat.le_of_ble_eq_true rfl) ?_
  intro p e s m below meth c Cx hr hlk
  refine vV_aload_n Cx 0 dX0_pitchWanted_0 rfl rfl ?_
  refine vU_get Cx hinX0 (pb b) (lkO hb) rfl 6 (by decide) u1_115 rfl dX0_pitchWanted_1 ?_
  refine vV_iload_n Cx 1 dX0_pitchWanted_4 rfl rfl ?_
  refine vV_iald Cx (pb b + 3) 0 (lk_toGo hb) rfl (by assumption) dX0_pitchWanted_5 ?_
  refine vV_if_le (tgt := 11) Cx dX0_pitchWanted_6 (by decide) (fun h6 => ?_) (fun h6 => ?_)
  · refine vV_aload_n Cx 0 dX0_pitchWanted_11 rfl rfl ?_
    refine vU_get Cx hinX0 (pb b) (lkO hb) rfl 4 (by decide) u1_111 rfl dX0_pitchWanted_12 ?_
    refine vV_iload_n Cx 1 dX0_pitchWanted_15 rfl rfl ?_
    refine vV_iald Cx (pb b + 1) 0 (lk_state hb) rfl (by assumption) dX0_pitchWanted_16 ?_
    refine vV_iconst (v := 2) Cx dX0_pitchWanted_17 (by decide) ?_
    refine vV_icmp_ne (tgt := 30) Cx dX0_pitchWanted_18 (by decide) (fun h18 => ?_) (fun h18 => ?_)
    · refine vV_aload_n Cx 0 dX0_pitchWanted_30 rfl rfl ?_
      refine vU_get Cx hinX0 (pb b) (lkO hb) rfl 5 (by decide) u1_113 rfl dX0_pitchWanted_31 ?_
      refine vV_iload_n Cx 1 dX0_pitchWanted_34 rfl rfl ?_
      refine vV_iald Cx (pb b + 2) 0 (lk_camp hb) rfl (by assumption) dX0_pitchWanted_35 ?_
      refine vV_if_gt (tgt := 60) Cx dX0_pitchWanted_36 (by decide) (fun h36 => ?_) (fun h36 => ?_)
      · refine vV_iconst (v := 1) Cx dX0_pitchWanted_60 (by decide) ?_
        refine vV_goto (tgt := 65) Cx dX0_pitchWanted_61 (by decide) ?_
        refine vV_istore_n Cx 2 dX0_pitchWanted_65 rfl (by decide) ?_
        refine vV_aload_n Cx 0 dX0_pitchWanted_66 rfl rfl ?_
        refine vU_get Cx hinX0 (pb b) (lkO hb) rfl 4 (by decide) u1_111 rfl dX0_pitchWanted_67 ?_
        refine vV_iload_n Cx 1 dX0_pitchWanted_70 rfl rfl ?_
        refine vV_iald Cx (pb b + 1) 0 (lk_state hb) rfl (by assumption) dX0_pitchWanted_71 ?_
        refine vV_if_ne (tgt := 88) Cx dX0_pitchWanted_72 (by decide) (fun h72 => ?_) (fun h72 => ?_)
        · refine vV_iconst (v := -1) Cx dX0_pitchWanted_88 (by decide) ?_
          exact vV_iret Cx hr hlk dX0_pitchWanted_89 (by clear Cx hr hlk; simp_all [-Int32.not_lt, -Int32.not_le, c_pw]) (by rfl)
        · refine vV_iload_n Cx 2 dX0_pitchWanted_75 rfl rfl ?_
          refine vV_if_eq (tgt := 88) Cx dX0_pitchWanted_76 (by decide) (fun h76 => ?_) (fun h76 => ?_)
          · refine vV_iconst (v := -1) Cx dX0_pitchWanted_88 (by decide) ?_
            exact vV_iret Cx hr hlk dX0_pitchWanted_89 (by clear Cx hr hlk; simp_all [-Int32.not_lt, -Int32.not_le, c_pw]) (by rfl)
          · refine vV_aload_n Cx 0 dX0_pitchWanted_79 rfl rfl ?_
            refine vU_get Cx hinX0 (pb b) (lkO hb) rfl 5 (by decide) u1_113 rfl dX0_pitchWanted_80 ?_
            refine vV_iload_n Cx 1 dX0_pitchWanted_83 rfl rfl ?_
            refine vV_iald Cx (pb b + 2) 0 (lk_camp hb) rfl (by assumption) dX0_pitchWanted_84 ?_
            refine vV_goto (tgt := 89) Cx dX0_pitchWanted_85 (by decide) ?_
            exact vV_iret Cx hr hlk dX0_pitchWanted_89 (by clear Cx hr hlk; simp_all [-Int32.not_lt, -Int32.not_le, c_pw]) (by rfl)
      · refine vV_aload_n Cx 0 dX0_pitchWanted_39 rfl rfl ?_
        refine vU_get Cx hinX0 (pb b) (lkO hb) rfl 3 (by decide) u1_109 rfl dX0_pitchWanted_40 ?_
        refine vV_aload_n Cx 0 dX0_pitchWanted_43 rfl rfl ?_
        refine vU_get Cx hinX0 (pb b) (lkO hb) rfl 2 (by decide) u1_107 rfl dX0_pitchWanted_44 ?_
        refine vV_aload_n Cx 0 dX0_pitchWanted_47 rfl rfl ?_
        refine vU_get Cx hinX0 (pb b) (lkO hb) rfl 1 (by decide) u1_106 rfl dX0_pitchWanted_48 ?_
        refine vU_get Cx hinX1 5 (lkParty hb) rfl 1 (by decide) u1_75 rfl dX0_pitchWanted_51 ?_
        refine vV_iload_n Cx 1 dX0_pitchWanted_54 rfl rfl ?_
        refine vV_iald Cx 6 0 (lk_team hb) rfl (by assumption) dX0_pitchWanted_55 ?_
        refine vV_iald Cx (ps b) 0 (lkS hb) rfl (by assumption) dX0_pitchWanted_56 ?_
        refine vV_icmp_lt (tgt := 64) Cx dX0_pitchWanted_57 (by decide) (fun h57 => ?_) (fun h57 => ?_)
        · refine vV_iconst (v := 0) Cx dX0_pitchWanted_64 (by decide) ?_
          refine vV_istore_n Cx 2 dX0_pitchWanted_65 rfl (by decide) ?_
          refine vV_aload_n Cx 0 dX0_pitchWanted_66 rfl rfl ?_
          refine vU_get Cx hinX0 (pb b) (lkO hb) rfl 4 (by decide) u1_111 rfl dX0_pitchWanted_67 ?_
          refine vV_iload_n Cx 1 dX0_pitchWanted_70 rfl rfl ?_
          refine vV_iald Cx (pb b + 1) 0 (lk_state hb) rfl (by assumption) dX0_pitchWanted_71 ?_
          refine vV_if_ne (tgt := 88) Cx dX0_pitchWanted_72 (by decide) (fun h72 => ?_) (fun h72 => ?_)
          · refine vV_iconst (v := -1) Cx dX0_pitchWanted_88 (by decide) ?_
            exact vV_iret Cx hr hlk dX0_pitchWanted_89 (by clear Cx hr hlk; simp_all [-Int32.not_lt, -Int32.not_le, c_pw]) (by rfl)
          · refine vV_iload_n Cx 2 dX0_pitchWanted_75 rfl rfl ?_
            refine vV_if_eq (tgt := 88) Cx dX0_pitchWanted_76 (by decide) (fun h76 => ?_) (fun h76 => ?_)
            · refine vV_iconst (v := -1) Cx dX0_pitchWanted_88 (by decide) ?_
              exact vV_iret Cx hr hlk dX0_pitchWanted_89 (by clear Cx hr hlk; simp_all [-Int32.not_lt, -Int32.not_le, c_pw]) (by rfl)
            · refine vV_aload_n Cx 0 dX0_pitchWanted_79 rfl rfl ?_
              refine vU_get Cx hinX0 (pb b) (lkO hb) rfl 5 (by decide) u1_113 rfl dX0_pitchWanted_80 ?_
              refine vV_iload_n Cx 1 dX0_pitchWanted_83 rfl rfl ?_
              refine vV_iald Cx (pb b + 2) 0 (lk_camp hb) rfl (by assumption) dX0_pitchWanted_84 ?_
              refine vV_goto (tgt := 89) Cx dX0_pitchWanted_85 (by decide) ?_
              exact vV_iret Cx hr hlk dX0_pitchWanted_89 (by clear Cx hr hlk; simp_all [-Int32.not_lt, -Int32.not_le, c_pw]) (by rfl)
        · refine vV_iconst (v := 1) Cx dX0_pitchWanted_60 (by decide) ?_
          refine vV_goto (tgt := 65) Cx dX0_pitchWanted_61 (by decide) ?_
          refine vV_istore_n Cx 2 dX0_pitchWanted_65 rfl (by decide) ?_
          refine vV_aload_n Cx 0 dX0_pitchWanted_66 rfl rfl ?_
          refine vU_get Cx hinX0 (pb b) (lkO hb) rfl 4 (by decide) u1_111 rfl dX0_pitchWanted_67 ?_
          refine vV_iload_n Cx 1 dX0_pitchWanted_70 rfl rfl ?_
          refine vV_iald Cx (pb b + 1) 0 (lk_state hb) rfl (by assumption) dX0_pitchWanted_71 ?_
          refine vV_if_ne (tgt := 88) Cx dX0_pitchWanted_72 (by decide) (fun h72 => ?_) (fun h72 => ?_)
          · refine vV_iconst (v := -1) Cx dX0_pitchWanted_88 (by decide) ?_
            exact vV_iret Cx hr hlk dX0_pitchWanted_89 (by clear Cx hr hlk; simp_all [-Int32.not_lt, -Int32.not_le, c_pw]) (by rfl)
          · refine vV_iload_n Cx 2 dX0_pitchWanted_75 rfl rfl ?_
            refine vV_if_eq (tgt := 88) Cx dX0_pitchWanted_76 (by decide) (fun h76 => ?_) (fun h76 => ?_)
            · refine vV_iconst (v := -1) Cx dX0_pitchWanted_88 (by decide) ?_
              exact vV_iret Cx hr hlk dX0_pitchWanted_89 (by clear Cx hr hlk; simp_all [-Int32.not_lt, -Int32.not_le, c_pw]) (by rfl)
            · refine vV_aload_n Cx 0 dX0_pitchWanted_79 rfl rfl ?_
              refine vU_get Cx hinX0 (pb b) (lkO hb) rfl 5 (by decide) u1_113 rfl dX0_pitchWanted_80 ?_
              refine vV_iload_n Cx 1 dX0_pitchWanted_83 rfl rfl ?_
              refine vV_iald Cx (pb b + 2) 0 (lk_camp hb) rfl (by assumption) dX0_pitchWanted_84 ?_
              refine vV_goto (tgt := 89) Cx dX0_pitchWanted_85 (by decide) ?_
              exact vV_iret Cx hr hlk dX0_pitchWanted_89 (by clear Cx hr hlk; simp_all [-Int32.not_lt, -Int32.not_le, c_pw]) (by rfl)
    · refine vV_aload_n Cx 0 dX0_pitchWanted_21 rfl rfl ?_
      refine vU_get Cx hinX0 (pb b) (lkO hb) rfl 5 (by decide) u1_113 rfl dX0_pitchWanted_22 ?_
      refine vV_iload_n Cx 1 dX0_pitchWanted_25 rfl rfl ?_
      refine vV_iald Cx (pb b + 2) 0 (lk_camp hb) rfl (by assumption) dX0_pitchWanted_26 ?_
      refine vV_iconst (v := 1) Cx dX0_pitchWanted_27 (by decide) ?_
      refine vV_isub Cx dX0_pitchWanted_28 ?_
      exact vV_iret Cx hr hlk dX0_pitchWanted_29 (by clear Cx hr hlk; simp_all [-Int32.not_lt, -Int32.not_le, c_pw]) (by rfl)
  · refine vV_iconst (v := -1) Cx dX0_pitchWanted_9 (by decide) ?_
    exact vV_iret Cx hr hlk dX0_pitchWanted_10 (by clear Cx hr hlk; simp_all [-Int32.not_lt, -Int32.not_le, c_pw]) (by rfl)
abbrev rX0_breathe : Room := { frames := 1, cells := 0, slots := 0, locals := 21 }
set_option maxRecDepth 100000 in
set_option maxHeartbeats 4000000 in
theorem KX0_breathe {l : Launch} {D : va_G} {cI cZ : ClassId} {ad : Nat → Nat} {A : Nat → Prop} {b : Nat} (hb : b = 1 ∨ b = 2) {E C X : mT} {S : Nat → Int32} {x : Int32} {i : Nat} (hi : vix x 12 i) : vKv l D (vtys cI cZ) A yX0_breathe (uT yX0_breathe cX0_breathe 4 (none)) rX0_breathe (wB cI cZ ad b E C X S) [.ref (ad (pb b)), .int x] (wB cI cZ ad b E (c_br E i C) X S) := by
  refine vKv_of (cc := cX0_breathe) (maxL := 4) (ret := none) (by decide) rfl rfl (Nat.le_of_ble_eq_true rfl) ?_
  intro p e s m below meth c Cx hr hlk
  refine vV_aload_n Cx 0 dX0_breathe_0 rfl rfl ?_
  refine vU_get Cx hinX0 (pb b) (lkO hb) rfl 4 (by decide) u1_111 rfl dX0_breathe_1 ?_
  refine vV_iload_n Cx 1 dX0_breathe_4 rfl rfl ?_
  refine vV_iald Cx (pb b + 1) 0 (lk_state hb) rfl (by assumption) dX0_breathe_5 ?_
  refine vV_iconst (v := 3) Cx dX0_breathe_6 (by decide) ?_
  refine vV_icmp_eq (tgt := 20) Cx dX0_breathe_7 (by decide) (fun h7 => ?_) (fun h7 => ?_)
  · exact vV_vret Cx hr hlk dX0_breathe_20 (by exact congrArg (fun z => wB cI cZ ad b E z X S) (by clear Cx; simp_all [-Int32.not_lt, -Int32.not_le, c_br, c_wh, c_less, cS_same, cS_ne]))
  · refine vV_aload_n Cx 0 dX0_breathe_10 rfl rfl ?_
    refine vU_get Cx hinX0 (pb b) (lkO hb) rfl 4 (by decide) u1_111 rfl dX0_breathe_11 ?_
    refine vV_iload_n Cx 1 dX0_breathe_14 rfl rfl ?_
    refine vV_iald Cx (pb b + 1) 0 (lk_state hb) rfl (by assumption) dX0_breathe_15 ?_
    refine vV_iconst (v := 4) Cx dX0_breathe_16 (by decide) ?_
    refine vV_icmp_ne (tgt := 21) Cx dX0_breathe_17 (by decide) (fun h17 => ?_) (fun h17 => ?_)
    · refine vV_aload_n Cx 0 dX0_breathe_21 rfl rfl ?_
      refine vU_get Cx hinX0 (pb b) (lkO hb) rfl 6 (by decide) u1_115 rfl dX0_breathe_22 ?_
      refine vV_iload_n Cx 1 dX0_breathe_25 rfl rfl ?_
      refine vV_iald Cx (pb b + 3) 0 (lk_toGo hb) rfl (by assumption) dX0_breathe_26 ?_
      refine vV_if_ne (tgt := 34) Cx dX0_breathe_27 (by decide) (fun h27 => ?_) (fun h27 => ?_)
      · refine vV_iconst (v := 0) Cx dX0_breathe_34 (by decide) ?_
        refine vV_istore_n Cx 2 dX0_breathe_35 rfl (by decide) ?_
        refine vV_iload_n Cx 2 dX0_breathe_36 rfl rfl ?_
        refine vV_if_eq (tgt := 49) Cx dX0_breathe_37 (by decide) (fun h37 => ?_) (fun h37 => ?_)
        · refine vV_aload_n Cx 0 dX0_breathe_49 rfl rfl ?_
          refine vV_iload_n Cx 1 dX0_breathe_50 rfl rfl ?_
          refine vV_callVi Cx (KX0_pitchUnder hb hi) (cwV 1 Cx.1.2.2.2.2 (uGV u2_29 u2_31 us_9 u1_6 u2_32) rfl rfl rfl hdX0_pitchUnder ⟨Nat.le_of_ble_eq_true rfl, Nat.le_of_ble_eq_true rfl⟩) (pb b) (lkO hb) rfl rfl rfl (Nat.le_of_ble_eq_true rfl) ⟨Nat.zero_le _, Nat.zero_le _⟩ dX0_breathe_51 ?_
          refine vV_istore_n Cx 3 dX0_breathe_54 rfl (by decide) ?_
          refine vV_iload_n Cx 3 dX0_breathe_55 rfl rfl ?_
          refine vV_aload_n Cx 0 dX0_breathe_56 rfl rfl ?_
          refine vU_get Cx hinX0 (pb b) (lkO hb) rfl 0 (by decide) u1_105 rfl dX0_breathe_57 ?_
          refine vU_get Cx hinX2 1 (lkRopes hb) rfl 1 (by decide) u1_42 rfl dX0_breathe_60 ?_
          refine vV_icmp_ge (tgt := 67) Cx dX0_breathe_63 (by decide) (fun h63 => ?_) (fun h63 => ?_)
          · refine vV_aload_n Cx 0 dX0_breathe_67 rfl rfl ?_
            refine vU_get Cx hinX0 (pb b) (lkO hb) rfl 7 (by decide) u1_117 rfl dX0_breathe_68 ?_
            refine vV_iload_n Cx 1 dX0_breathe_71 rfl rfl ?_
            refine vV_aload_n Cx 0 dX0_breathe_72 rfl rfl ?_
            refine vU_get Cx hinX0 (pb b) (lkO hb) rfl 7 (by decide) u1_117 rfl dX0_breathe_73 ?_
            refine vV_iload_n Cx 1 dX0_breathe_76 rfl rfl ?_
            refine vV_iald Cx (pb b + 4) 0 (lk_breath hb) rfl (by assumption) dX0_breathe_77 ?_
            refine vV_iconst (v := 1) Cx dX0_breathe_78 (by decide) ?_
            refine vV_isub Cx dX0_breathe_79 ?_
            refine vV_iconst (v := 0) Cx dX0_breathe_80 (by decide) ?_
            refine vU_mmax Cx u2_33 u2_34 u1_3 u2_35 (Nat.le_of_ble_eq_true rfl) (Nat.le_of_ble_eq_true rfl) (Nat.zero_le _) (Nat.zero_le _) dX0_breathe_81 ?_
            refine vV_iast Cx (pb b + 4) 0 (lk_breath hb) rfl (by assumption) dX0_breathe_84 (sk_breath hb) ?_
            refine vV_iload_n Cx 2 dX0_breathe_85 rfl rfl ?_
            refine vV_if_eq (tgt := 121) Cx dX0_breathe_86 (by decide) (fun h86 => ?_) (fun h86 => ?_)
            · exact vV_vret Cx hr hlk dX0_breathe_121 (by exact congrArg (fun z => wB cI cZ ad b E z X S) (by clear Cx; simp_all [-Int32.not_lt, -Int32.not_le, c_br, c_wh, c_less, cS_same, cS_ne]))
            · refine vV_aload_n Cx 0 dX0_breathe_89 rfl rfl ?_
              refine vU_get Cx hinX0 (pb b) (lkO hb) rfl 7 (by decide) u1_117 rfl dX0_breathe_90 ?_
              refine vV_iload_n Cx 1 dX0_breathe_93 rfl rfl ?_
              refine vV_iald Cx (pb b + 4) 0 (lk_breath hb) rfl (by assumption) dX0_breathe_94 ?_
              refine vV_if_ne (tgt := 121) Cx dX0_breathe_95 (by decide) (fun h95 => ?_) (fun h95 => ?_)
              · exact vV_vret Cx hr hlk dX0_breathe_121 (by exact congrArg (fun z => wB cI cZ ad b E z X S) (by clear Cx; simp_all [-Int32.not_lt, -Int32.not_le, c_br, c_wh, c_less, cS_same, cS_ne]))
              · refine vV_aload_n Cx 0 dX0_breathe_98 rfl rfl ?_
                refine vU_get Cx hinX0 (pb b) (lkO hb) rfl 3 (by decide) u1_109 rfl dX0_breathe_99 ?_
                refine vV_aload_n Cx 0 dX0_breathe_102 rfl rfl ?_
                refine vU_get Cx hinX0 (pb b) (lkO hb) rfl 8 (by decide) u1_119 rfl dX0_breathe_103 ?_
                refine vV_iload_n Cx 1 dX0_breathe_106 rfl rfl ?_
                refine vV_iald Cx (pb b + 5) 0 (lk_since hb) rfl (by assumption) dX0_breathe_107 ?_
                refine vV_isub Cx dX0_breathe_108 ?_
                refine vV_bipush (v := 6) Cx dX0_breathe_109 (by decide) ?_
                refine vV_icmp_lt (tgt := 121) Cx dX0_breathe_111 (by decide) (fun h111 => ?_) (fun h111 => ?_)
                · exact vV_vret Cx hr hlk dX0_breathe_121 (by exact congrArg (fun z => wB cI cZ ad b E z X S) (by clear Cx; simp_all [-Int32.not_lt, -Int32.not_le, c_br, c_wh, c_less, cS_same, cS_ne]))
                · refine vV_aload_n Cx 0 dX0_breathe_114 rfl rfl ?_
                  refine vU_get Cx hinX0 (pb b) (lkO hb) rfl 4 (by decide) u1_111 rfl dX0_breathe_115 ?_
                  refine vV_iload_n Cx 1 dX0_breathe_118 rfl rfl ?_
                  refine vV_iconst (v := 4) Cx dX0_breathe_119 (by decide) ?_
                  refine vV_iast Cx (pb b + 1) 0 (lk_state hb) rfl (by assumption) dX0_breathe_120 (sk_state hb) ?_
                  exact vV_vret Cx hr hlk dX0_breathe_121 (by exact congrArg (fun z => wB cI cZ ad b E z X S) (by clear Cx; simp_all [-Int32.not_lt, -Int32.not_le, c_br, c_wh, c_less, cS_same, cS_ne]))
          · exact vV_vret Cx hr hlk dX0_breathe_66 (by exact congrArg (fun z => wB cI cZ ad b E z X S) (by clear Cx; simp_all [-Int32.not_lt, -Int32.not_le, c_br, c_wh, c_less, cS_same, cS_ne]))
        · refine vV_aload_n Cx 0 dX0_breathe_40 rfl rfl ?_
          refine vU_get Cx hinX0 (pb b) (lkO hb) rfl 5 (by decide) u1_113 rfl dX0_breathe_41 ?_
          refine vV_iload_n Cx 1 dX0_breathe_44 rfl rfl ?_
          refine vV_iald Cx (pb b + 2) 0 (lk_camp hb) rfl (by assumption) dX0_breathe_45 ?_
          refine vV_goto (tgt := 54) Cx dX0_breathe_46 (by decide) ?_
          refine vV_istore_n Cx 3 dX0_breathe_54 rfl (by decide) ?_
          refine vV_iload_n Cx 3 dX0_breathe_55 rfl rfl ?_
          refine vV_aload_n Cx 0 dX0_breathe_56 rfl rfl ?_
          refine vU_get Cx hinX0 (pb b) (lkO hb) rfl 0 (by decide) u1_105 rfl dX0_breathe_57 ?_
          refine vU_get Cx hinX2 1 (lkRopes hb) rfl 1 (by decide) u1_42 rfl dX0_breathe_60 ?_
          refine vV_icmp_ge (tgt := 67) Cx dX0_breathe_63 (by decide) (fun h63 => ?_) (fun h63 => ?_)
          · refine vV_aload_n Cx 0 dX0_breathe_67 rfl rfl ?_
            refine vU_get Cx hinX0 (pb b) (lkO hb) rfl 7 (by decide) u1_117 rfl dX0_breathe_68 ?_
            refine vV_iload_n Cx 1 dX0_breathe_71 rfl rfl ?_
            refine vV_aload_n Cx 0 dX0_breathe_72 rfl rfl ?_
            refine vU_get Cx hinX0 (pb b) (lkO hb) rfl 7 (by decide) u1_117 rfl dX0_breathe_73 ?_
            refine vV_iload_n Cx 1 dX0_breathe_76 rfl rfl ?_
            refine vV_iald Cx (pb b + 4) 0 (lk_breath hb) rfl (by assumption) dX0_breathe_77 ?_
            refine vV_iconst (v := 1) Cx dX0_breathe_78 (by decide) ?_
            refine vV_isub Cx dX0_breathe_79 ?_
            refine vV_iconst (v := 0) Cx dX0_breathe_80 (by decide) ?_
            refine vU_mmax Cx u2_33 u2_34 u1_3 u2_35 (Nat.le_of_ble_eq_true rfl) (Nat.le_of_ble_eq_true rfl) (Nat.zero_le _) (Nat.zero_le _) dX0_breathe_81 ?_
            refine vV_iast Cx (pb b + 4) 0 (lk_breath hb) rfl (by assumption) dX0_breathe_84 (sk_breath hb) ?_
            refine vV_iload_n Cx 2 dX0_breathe_85 rfl rfl ?_
            refine vV_if_eq (tgt := 121) Cx dX0_breathe_86 (by decide) (fun h86 => ?_) (fun h86 => ?_)
            · exact vV_vret Cx hr hlk dX0_breathe_121 (by exact congrArg (fun z => wB cI cZ ad b E z X S) (by clear Cx; simp_all [-Int32.not_lt, -Int32.not_le, c_br, c_wh, c_less, cS_same, cS_ne]))
            · refine vV_aload_n Cx 0 dX0_breathe_89 rfl rfl ?_
              refine vU_get Cx hinX0 (pb b) (lkO hb) rfl 7 (by decide) u1_117 rfl dX0_breathe_90 ?_
              refine vV_iload_n Cx 1 dX0_breathe_93 rfl rfl ?_
              refine vV_iald Cx (pb b + 4) 0 (lk_breath hb) rfl (by assumption) dX0_breathe_94 ?_
              refine vV_if_ne (tgt := 121) Cx dX0_breathe_95 (by decide) (fun h95 => ?_) (fun h95 => ?_)
              · exact vV_vret Cx hr hlk dX0_breathe_121 (by exact congrArg (fun z => wB cI cZ ad b E z X S) (by clear Cx; simp_all [-Int32.not_lt, -Int32.not_le, c_br, c_wh, c_less, cS_same, cS_ne]))
              · refine vV_aload_n Cx 0 dX0_breathe_98 rfl rfl ?_
                refine vU_get Cx hinX0 (pb b) (lkO hb) rfl 3 (by decide) u1_109 rfl dX0_breathe_99 ?_
                refine vV_aload_n Cx 0 dX0_breathe_102 rfl rfl ?_
                refine vU_get Cx hinX0 (pb b) (lkO hb) rfl 8 (by decide) u1_119 rfl dX0_breathe_103 ?_
                refine vV_iload_n Cx 1 dX0_breathe_106 rfl rfl ?_
                refine vV_iald Cx (pb b + 5) 0 (lk_since hb) rfl (by assumption) dX0_breathe_107 ?_
                refine vV_isub Cx dX0_breathe_108 ?_
                refine vV_bipush (v := 6) Cx dX0_breathe_109 (by decide) ?_
                refine vV_icmp_lt (tgt := 121) Cx dX0_breathe_111 (by decide) (fun h111 => ?_) (fun h111 => ?_)
                · exact vV_vret Cx hr hlk dX0_breathe_121 (by exact congrArg (fun z => wB cI cZ ad b E z X S) (by clear Cx; simp_all [-Int32.not_lt, -Int32.not_le, c_br, c_wh, c_less, cS_same, cS_ne]))
                · refine vV_aload_n Cx 0 dX0_breathe_114 rfl rfl ?_
                  refine vU_get Cx hinX0 (pb b) (lkO hb) rfl 4 (by decide) u1_111 rfl dX0_breathe_115 ?_
                  refine vV_iload_n Cx 1 dX0_breathe_118 rfl rfl ?_
                  refine vV_iconst (v := 4) Cx dX0_breathe_119 (by decide) ?_
                  refine vV_iast Cx (pb b + 1) 0 (lk_state hb) rfl (by assumption) dX0_breathe_120 (sk_state hb) ?_
                  exact vV_vret Cx hr hlk dX0_breathe_121 (by exact congrArg (fun z => wB cI cZ ad b E z X S) (by clear Cx; simp_all [-Int32.not_lt, -Int32.not_le, c_br, c_wh, c_less, cS_same, cS_ne]))
          · exact vV_vret Cx hr hlk dX0_breathe_66 (by exact congrArg (fun z => wB cI cZ ad b E z X S) (by clear Cx; simp_all [-Int32.not_lt, -Int32.not_le, c_br, c_wh, c_less, cS_same, cS_ne]))
      · refine vV_iconst (v := 1) Cx dX0_breathe_30 (by decide) ?_
        refine vV_goto (tgt := 35) Cx dX0_breathe_31 (by decide) ?_
        refine vV_istore_n Cx 2 dX0_breathe_35 rfl (by decide) ?_
        refine vV_iload_n Cx 2 dX0_breathe_36 rfl rfl ?_
        refine vV_if_eq (tgt := 49) Cx dX0_breathe_37 (by decide) (fun h37 => ?_) (fun h37 => ?_)
        · refine vV_aload_n Cx 0 dX0_breathe_49 rfl rfl ?_
          refine vV_iload_n Cx 1 dX0_breathe_50 rfl rfl ?_
          refine vV_callVi Cx (KX0_pitchUnder hb hi) (cwV 1 Cx.1.2.2.2.2 (uGV u2_29 u2_31 us_9 u1_6 u2_32) rfl rfl rfl hdX0_pitchUnder ⟨Nat.le_of_ble_eq_true rfl, Nat.le_of_ble_eq_true rfl⟩) (pb b) (lkO hb) rfl rfl rfl (Nat.le_of_ble_eq_true rfl) ⟨Nat.zero_le _, Nat.zero_le _⟩ dX0_breathe_51 ?_
          refine vV_istore_n Cx 3 dX0_breathe_54 rfl (by decide) ?_
          refine vV_iload_n Cx 3 dX0_breathe_55 rfl rfl ?_
          refine vV_aload_n Cx 0 dX0_breathe_56 rfl rfl ?_
          refine vU_get Cx hinX0 (pb b) (lkO hb) rfl 0 (by decide) u1_105 rfl dX0_breathe_57 ?_
          refine vU_get Cx hinX2 1 (lkRopes hb) rfl 1 (by decide) u1_42 rfl dX0_breathe_60 ?_
          refine vV_icmp_ge (tgt := 67) Cx dX0_breathe_63 (by decide) (fun h63 => ?_) (fun h63 => ?_)
          · refine vV_aload_n Cx 0 dX0_breathe_67 rfl rfl ?_
            refine vU_get Cx hinX0 (pb b) (lkO hb) rfl 7 (by decide) u1_117 rfl dX0_breathe_68 ?_
            refine vV_iload_n Cx 1 dX0_breathe_71 rfl rfl ?_
            refine vV_aload_n Cx 0 dX0_breathe_72 rfl rfl ?_
            refine vU_get Cx hinX0 (pb b) (lkO hb) rfl 7 (by decide) u1_117 rfl dX0_breathe_73 ?_
            refine vV_iload_n Cx 1 dX0_breathe_76 rfl rfl ?_
            refine vV_iald Cx (pb b + 4) 0 (lk_breath hb) rfl (by assumption) dX0_breathe_77 ?_
            refine vV_iconst (v := 1) Cx dX0_breathe_78 (by decide) ?_
            refine vV_isub Cx dX0_breathe_79 ?_
            refine vV_iconst (v := 0) Cx dX0_breathe_80 (by decide) ?_
            refine vU_mmax Cx u2_33 u2_34 u1_3 u2_35 (Nat.le_of_ble_eq_true rfl) (Nat.le_of_ble_eq_true rfl) (Nat.zero_le _) (Nat.zero_le _) dX0_breathe_81 ?_
            refine vV_iast Cx (pb b + 4) 0 (lk_breath hb) rfl (by assumption) dX0_breathe_84 (sk_breath hb) ?_
            refine vV_iload_n Cx 2 dX0_breathe_85 rfl rfl ?_
            refine vV_if_eq (tgt := 121) Cx dX0_breathe_86 (by decide) (fun h86 => ?_) (fun h86 => ?_)
            · exact vV_vret Cx hr hlk dX0_breathe_121 (by exact congrArg (fun z => wB cI cZ ad b E z X S) (by clear Cx; simp_all [-Int32.not_lt, -Int32.not_le, c_br, c_wh, c_less, cS_same, cS_ne]))
            · refine vV_aload_n Cx 0 dX0_breathe_89 rfl rfl ?_
              refine vU_get Cx hinX0 (pb b) (lkO hb) rfl 7 (by decide) u1_117 rfl dX0_breathe_90 ?_
              refine vV_iload_n Cx 1 dX0_breathe_93 rfl rfl ?_
              refine vV_iald Cx (pb b + 4) 0 (lk_breath hb) rfl (by assumption) dX0_breathe_94 ?_
              refine vV_if_ne (tgt := 121) Cx dX0_breathe_95 (by decide) (fun h95 => ?_) (fun h95 => ?_)
              · exact vV_vret Cx hr hlk dX0_breathe_121 (by exact congrArg (fun z => wB cI cZ ad b E z X S) (by clear Cx; simp_all [-Int32.not_lt, -Int32.not_le, c_br, c_wh, c_less, cS_same, cS_ne]))
              · refine vV_aload_n Cx 0 dX0_breathe_98 rfl rfl ?_
                refine vU_get Cx hinX0 (pb b) (lkO hb) rfl 3 (by decide) u1_109 rfl dX0_breathe_99 ?_
                refine vV_aload_n Cx 0 dX0_breathe_102 rfl rfl ?_
                refine vU_get Cx hinX0 (pb b) (lkO hb) rfl 8 (by decide) u1_119 rfl dX0_breathe_103 ?_
                refine vV_iload_n Cx 1 dX0_breathe_106 rfl rfl ?_
                refine vV_iald Cx (pb b + 5) 0 (lk_since hb) rfl (by assumption) dX0_breathe_107 ?_
                refine vV_isub Cx dX0_breathe_108 ?_
                refine vV_bipush (v := 6) Cx dX0_breathe_109 (by decide) ?_
                refine vV_icmp_lt (tgt := 121) Cx dX0_breathe_111 (by decide) (fun h111 => ?_) (fun h111 => ?_)
                · exact vV_vret Cx hr hlk dX0_breathe_121 (by exact congrArg (fun z => wB cI cZ ad b E z X S) (by clear Cx; simp_all [-Int32.not_lt, -Int32.not_le, c_br, c_wh, c_less, cS_same, cS_ne]))
                · refine vV_aload_n Cx 0 dX0_breathe_114 rfl rfl ?_
                  refine vU_get Cx hinX0 (pb b) (lkO hb) rfl 4 (by decide) u1_111 rfl dX0_breathe_115 ?_
                  refine vV_iload_n Cx 1 dX0_breathe_118 rfl rfl ?_
                  refine vV_iconst (v := 4) Cx dX0_breathe_119 (by decide) ?_
                  refine vV_iast Cx (pb b + 1) 0 (lk_state hb) rfl (by assumption) dX0_breathe_120 (sk_state hb) ?_
                  exact vV_vret Cx hr hlk dX0_breathe_121 (by exact congrArg (fun z => wB cI cZ ad b E z X S) (by clear Cx; simp_all [-Int32.not_lt, -Int32.not_le, c_br, c_wh, c_less, cS_same, cS_ne]))
          · exact vV_vret Cx hr hlk dX0_breathe_66 (by exact congrArg (fun z => wB cI cZ ad b E z X S) (by clear Cx; simp_all [-Int32.not_lt, -Int32.not_le, c_br, c_wh, c_less, cS_same, cS_ne]))
        · refine vV_aload_n Cx 0 dX0_breathe_40 rfl rfl ?_
          refine vU_get Cx hinX0 (pb b) (lkO hb) rfl 5 (by decide) u1_113 rfl dX0_breathe_41 ?_
          refine vV_iload_n Cx 1 dX0_breathe_44 rfl rfl ?_
          refine vV_iald Cx (pb b + 2) 0 (lk_camp hb) rfl (by assumption) dX0_breathe_45 ?_
          refine vV_goto (tgt := 54) Cx dX0_breathe_46 (by decide) ?_
          refine vV_istore_n Cx 3 dX0_breathe_54 rfl (by decide) ?_
          refine vV_iload_n Cx 3 dX0_breathe_55 rfl rfl ?_
          refine vV_aload_n Cx 0 dX0_breathe_56 rfl rfl ?_
          refine vU_get Cx hinX0 (pb b) (lkO hb) rfl 0 (by decide) u1_105 rfl dX0_breathe_57 ?_
          refine vU_get Cx hinX2 1 (lkRopes hb) rfl 1 (by decide) u1_42 rfl dX0_breathe_60 ?_
          refine vV_icmp_ge (tgt := 67) Cx dX0_breathe_63 (by decide) (fun h63 => ?_) (fun h63 => ?_)
          · refine vV_aload_n Cx 0 dX0_breathe_67 rfl rfl ?_
            refine vU_get Cx hinX0 (pb b) (lkO hb) rfl 7 (by decide) u1_117 rfl dX0_breathe_68 ?_
            refine vV_iload_n Cx 1 dX0_breathe_71 rfl rfl ?_
            refine vV_aload_n Cx 0 dX0_breathe_72 rfl rfl ?_
            refine vU_get Cx hinX0 (pb b) (lkO hb) rfl 7 (by decide) u1_117 rfl dX0_breathe_73 ?_
            refine vV_iload_n Cx 1 dX0_breathe_76 rfl rfl ?_
            refine vV_iald Cx (pb b + 4) 0 (lk_breath hb) rfl (by assumption) dX0_breathe_77 ?_
            refine vV_iconst (v := 1) Cx dX0_breathe_78 (by decide) ?_
            refine vV_isub Cx dX0_breathe_79 ?_
            refine vV_iconst (v := 0) Cx dX0_breathe_80 (by decide) ?_
            refine vU_mmax Cx u2_33 u2_34 u1_3 u2_35 (Nat.le_of_ble_eq_true rfl) (Nat.le_of_ble_eq_true rfl) (Nat.zero_le _) (Nat.zero_le _) dX0_breathe_81 ?_
            refine vV_iast Cx (pb b + 4) 0 (lk_breath hb) rfl (by assumption) dX0_breathe_84 (sk_breath hb) ?_
            refine vV_iload_n Cx 2 dX0_breathe_85 rfl rfl ?_
            refine vV_if_eq (tgt := 121) Cx dX0_breathe_86 (by decide) (fun h86 => ?_) (fun h86 => ?_)
            · exact vV_vret Cx hr hlk dX0_breathe_121 (by exact congrArg (fun z => wB cI cZ ad b E z X S) (by clear Cx; simp_all [-Int32.not_lt, -Int32.not_le, c_br, c_wh, c_less, cS_same, cS_ne]))
            · refine vV_aload_n Cx 0 dX0_breathe_89 rfl rfl ?_
              refine vU_get Cx hinX0 (pb b) (lkO hb) rfl 7 (by decide) u1_117 rfl dX0_breathe_90 ?_
              refine vV_iload_n Cx 1 dX0_breathe_93 rfl rfl ?_
              refine vV_iald Cx (pb b + 4) 0 (lk_breath hb) rfl (by assumption) dX0_breathe_94 ?_
              refine vV_if_ne (tgt := 121) Cx dX0_breathe_95 (by decide) (fun h95 => ?_) (fun h95 => ?_)
              · exact vV_vret Cx hr hlk dX0_breathe_121 (by exact congrArg (fun z => wB cI cZ ad b E z X S) (by clear Cx; simp_all [-Int32.not_lt, -Int32.not_le, c_br, c_wh, c_less, cS_same, cS_ne]))
              · refine vV_aload_n Cx 0 dX0_breathe_98 rfl rfl ?_
                refine vU_get Cx hinX0 (pb b) (lkO hb) rfl 3 (by decide) u1_109 rfl dX0_breathe_99 ?_
                refine vV_aload_n Cx 0 dX0_breathe_102 rfl rfl ?_
                refine vU_get Cx hinX0 (pb b) (lkO hb) rfl 8 (by decide) u1_119 rfl dX0_breathe_103 ?_
                refine vV_iload_n Cx 1 dX0_breathe_106 rfl rfl ?_
                refine vV_iald Cx (pb b + 5) 0 (lk_since hb) rfl (by assumption) dX0_breathe_107 ?_
                refine vV_isub Cx dX0_breathe_108 ?_
                refine vV_bipush (v := 6) Cx dX0_breathe_109 (by decide) ?_
                refine vV_icmp_lt (tgt := 121) Cx dX0_breathe_111 (by decide) (fun h111 => ?_) (fun h111 => ?_)
                · exact vV_vret Cx hr hlk dX0_breathe_121 (by exact congrArg (fun z => wB cI cZ ad b E z X S) (by clear Cx; simp_all [-Int32.not_lt, -Int32.not_le, c_br, c_wh, c_less, cS_same, cS_ne]))
                · refine vV_aload_n Cx 0 dX0_breathe_114 rfl rfl ?_
                  refine vU_get Cx hinX0 (pb b) (lkO hb) rfl 4 (by decide) u1_111 rfl dX0_breathe_115 ?_
                  refine vV_iload_n Cx 1 dX0_breathe_118 rfl rfl ?_
                  refine vV_iconst (v := 4) Cx dX0_breathe_119 (by decide) ?_
                  refine vV_iast Cx (pb b + 1) 0 (lk_state hb) rfl (by assumption) dX0_breathe_120 (sk_state hb) ?_
                  exact vV_vret Cx hr hlk dX0_breathe_121 (by exact congrArg (fun z => wB cI cZ ad b E z X S) (by clear Cx; simp_all [-Int32.not_lt, -Int32.not_le, c_br, c_wh, c_less, cS_same, cS_ne]))
          · exact vV_vret Cx hr hlk dX0_breathe_66 (by exact congrArg (fun z => wB cI cZ ad b E z X S) (by clear Cx; simp_all [-Int32.not_lt, -Int32.not_le, c_br, c_wh, c_less, cS_same, cS_ne]))
    · exact vV_vret Cx hr hlk dX0_breathe_20 (by exact congrArg (fun z => wB cI cZ ad b E z X S) (by clear Cx; simp_all [-Int32.not_lt, -Int32.not_le, c_br, c_wh, c_less, cS_same, cS_ne]))
