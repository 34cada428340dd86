/-! Climb: loops -/
theorem vlp_inv {α : Type} {P : α → Prop} {f : Nat → α → α} {n : Nat} (hs : ∀ i a, i < n → P a → P (f i a)) : ∀ (k i : Nat) (a : α), n - i = k → P a → P (vlp f n i a) := by
  intro k
  induction k with
  | zero => intro i a h h0; rw [vlp_done (by omega)]; exact h0
  | succ k ih => intro i a h h0; rw [vlp_step (by omega)]; exact ih (i + 1) _ (by omega) (hs i a (by omega) h0)
def c_sum (n : Nat) (C : mT) : Int32 := vlp (fun i a => if C 4 i = -1 then a else a + 1) n 0 0
def c_inS (n : Nat) (q : Int32) (C : mT) : Int32 := vlp (fun i a => if C 0 i = q then a + 1 else a) n 0 0
def c_wts (n : Nat) (C : mT) : Int32 := vlp (fun i a => a + C 5 i) n 0 0
def c_on (n : Nat) (q : Int32) (C : mT) : Int32 := vlp (fun i a => if 0 < C 2 i then (if c_pu i C = q then a + 1 else a) else a) n 0 0
def c_atC (n : Nat) (q : Int32) (C : mT) : Int32 := vlp (fun i a => if C 2 i = 0 then (if C 1 i = q then a + 1 else a) else a) n 0 0
def f_fil (C : mT) (q : Int32) (i : Nat) (a : Int32) : Int32 := if C 7 i = q then (if a = -1 then nI i else if C 8 i < C 8 a.toNatClampNeg then nI i else a) else a
def c_fil (n : Nat) (q : Int32) (C : mT) : Int32 := vlp (f_fil C q) n 0 (-1)
theorem f_fil_ix {C : mT} {q : Int32} {n : Nat} (h12 : n ≤ 12) {i : Nat} {a : Int32} (hi : i < n) (ha : a = -1 ∨ vix a 12 a.toNatClampNeg) : f_fil C q i a = -1 ∨ vix (f_fil C q i a) 12 (f_fil C q i a).toNatClampNeg := by
  have hv : vix (nI i) 12 (nI i).toNatClampNeg := ⟨(vix_nI (n := 12) (by omega) (by decide)).1, rfl⟩
  unfold f_fil
  split
  · split
    · exact Or.inr hv
    · split
      · exact Or.inr hv
      · exact ha
  · exact ha
theorem c_fil_ix {C : mT} {q : Int32} {n : Nat} (h12 : n ≤ 12) (h : ¬ c_fil n q C = -1) : vix (c_fil n q C) 12 (c_fil n q C).toNatClampNeg := by
  have := vlp_inv (P := fun a : Int32 => a = -1 ∨ vix a 12 a.toNatClampNeg) (f := f_fil C q) (n := n) (fun i a hi ha => f_fil_ix h12 hi ha) (n - 0) 0 (-1) rfl (Or.inl rfl)
  exact this.resolve_left h
def c_reset (E : mT) (n : Nat) (C : mT) : mT := vlp (c_paf E) n 0 (cS C 9 0 0)
def vov (C : mT) : Nat → Nat → Int32
  | 0, _ => 1
  | k + 1, i => if C 0 i = 3 then vov C k (i + 1) else if C 0 i = 4 then vov C k (i + 1) else 0
def c_over (n : Nat) (C : mT) : Int32 := vov C n 0
theorem vov_n (C : mT) : ∀ (k i : Nat), narrow .boolean (.int (vov C k i)) = .int (vov C k i) := by
  intro k
  induction k with
  | zero => intro i; unfold vov; rfl
  | succ k ih => intro i; unfold vov; split; exact ih _; split; exact ih _; rfl
abbrev rX0_summits : Room := { frames := 0, cells := 0, slots := 0, locals := 0 }
set_option maxRecDepth 100000 in
set_option maxHeartbeats 4000000 in
theorem KX0_summits {l : Launch} {D : va_G} {cI cZ : ClassId} {ad : Nat → Nat} {A : Nat → Prop} {b : Nat} (hb : b = 1 ∨ b = 2) {E C X : mT} {S : Nat → Int32} {n : Nat} (hn : E 8 2 = nI n) (h12 : n ≤ 12) : vKi l D (vtys cI cZ) A yX0_summits (uT yX0_summits cX0_summits 3 (some .int)) rX0_summits (wB cI cZ ad b E C X S) [.ref (ad (pb b))] (c_sum n C) (wB cI cZ ad b E C X S) := by
  refine vKi_of (cc := cX0_summits) (maxL := 3) (ret := some .int) (by decide) rfl rfl (Nat.le_of_ble_eq_true rfl) ?_
  intro p e s m below meth c Cx hr hlk
  have Lp : ∀ (fuel i : Nat) (a : Int32), i ≤ n → n - i < fuel → vlp (fun i a => if C 4 i = -1 then a else a + 1) n i a = c_sum n C → vV D (vtys cI cZ) A 3 p l e rX0_summits s m ([.ref (ad (pb b))] : List Value).toArray below meth c 0 0 (MQ below (vQi D A (c_sum n C) (wB cI cZ ad b E C X S)) ([.ref (ad (pb b))] : List Value).toArray s 0 0 A) (wB cI cZ ad b E C X S) [.ref (ad (pb b)), .int a, .int (nI i)] 4 [] := by
    intro fuel
    induction fuel with
    | zero => intro i a h1 h2; exact absurd h2 (Nat.not_lt_zero _)
    | succ fuel ih =>
      intro i a h1 h2 h3
      refine vV_iload_n Cx 2 dX0_summits_4 rfl rfl ?_
      refine vV_aload_n Cx 0 dX0_summits_5 rfl rfl ?_
      refine vU_get Cx hinX0 (pb b) (lkO hb) rfl 1 (by decide) u1_106 rfl dX0_summits_6 ?_
      refine vU_get Cx hinX1 5 (lkParty hb) rfl 0 (by decide) u1_72 rfl dX0_summits_9 ?_
      refine vV_icmp_ge (tgt := 34) Cx dX0_summits_12 (by decide) (fun h12 => ?_) (fun h12 => ?_)
      · rw [hn] at h12
        have hin := vix_ge h12 (by omega) h1
        refine vV_iload_n Cx 1 dX0_summits_34 rfl rfl ?_
        exact vV_iret Cx hr hlk dX0_summits_35 (by rw [hin, vlp_done (Nat.le_refl _)] at h3; exact h3) (by rfl)
      · rw [hn] at h12
        have hlt := vix_lt h12 (by omega) h1
        have hi : vix (nI i) 12 i := vix_nI (by omega) (by decide)
        refine vV_aload_n Cx 0 dX0_summits_15 rfl rfl ?_
        refine vU_get Cx hinX0 (pb b) (lkO hb) rfl 9 (by decide) u1_121 rfl dX0_summits_16 ?_
        refine vV_iload_n Cx 2 dX0_summits_19 rfl rfl ?_
        refine vV_iald Cx (pb b + 6) 0 (lk_summit hb) rfl (by assumption) dX0_summits_20 ?_
        refine vV_iconst (v := -1) Cx dX0_summits_21 (by decide) ?_
        refine vV_icmp_eq (tgt := 28) Cx dX0_summits_22 (by decide) (fun h22 => ?_) (fun h22 => ?_)
        · refine vV_iinc Cx dX0_summits_28 rfl (vinc _) (by decide) ?_
          refine vV_goto (tgt := 4) Cx dX0_summits_31 (by decide) ?_
          exact ih (i + 1) _ (by omega) (by omega) (by rw [← h3, vlp_step hlt]; try exact congrArg (vlp _ n (i + 1)) (by first | rfl | (clear Cx hr hlk; simp_all [-Int32.not_lt, -Int32.not_le])))
        · refine vV_iinc Cx dX0_summits_25 rfl (vinc1 _) (by decide) ?_
          refine vV_iinc Cx dX0_summits_28 rfl (vinc _) (by decide) ?_
          refine vV_goto (tgt := 4) Cx dX0_summits_31 (by decide) ?_
          exact ih (i + 1) _ (by omega) (by omega) (by rw [← h3, vlp_step hlt]; try exact congrArg (vlp _ n (i + 1)) (by first | rfl | (clear Cx hr hlk; simp_all [-Int32.not_lt, -Int32.not_le])))
  refine vV_iconst (v := 0) Cx dX0_summits_0 (by decide) ?_
  refine vV_istore_n Cx 1 dX0_summits_1 rfl (by decide) ?_
  refine vV_iconst (v := 0) Cx dX0_summits_2 (by decide) ?_
  refine vV_istore_n Cx 2 dX0_summits_3 rfl (by decide) ?_
  exact Lp (n + 1) 0 _ (by omega) (by omega) rfl
abbrev rX0_inState : Room := { frames := 0, cells := 0, slots := 0, locals := 0 }
set_option maxRecDepth 100000 in
set_option maxHeartbeats 4000000 in
theorem KX0_inState {l : Launch} {D : va_G} {cI cZ : ClassId} {ad : Nat → Nat} {A : Nat → Prop} {b : Nat} (hb : b = 1 ∨ b = 2) {E C X : mT} {S : Nat → Int32} {n : Nat} (hn : E 8 2 = nI n) (h12 : n ≤ 12) (q : Int32) : vKi l D (vtys cI cZ) A yX0_inState (uT yX0_inState cX0_inState 4 (some .int)) rX0_inState (wB cI cZ ad b E C X S) [.ref (ad (pb b)), .int q] (c_inS n q C) (wB cI cZ ad b E C X S) := by
  refine vKi_of (cc := cX0_inState) (maxL := 4) (ret := some .int) (by decide) rfl rfl (Nat.le_of_ble_eq_true rfl) ?_
  intro p e s m below meth c Cx hr hlk
  have Lp : ∀ (fuel i : Nat) (a : Int32), i ≤ n → n - i < fuel → vlp (fun i a => if C 0 i = q then a + 1 else a) n i a = c_inS n q C → vV D (vtys cI cZ) A 4 p l e rX0_inState s m ([.ref (ad (pb b)), .int q] : List Value).toArray below meth c 0 0 (MQ below (vQi D A (c_inS n q C) (wB cI cZ ad b E C X S)) ([.ref (ad (pb b)), .int q] : List Value).toArray s 0 0 A) (wB cI cZ ad b E C X S) [.ref (ad (pb b)), .int q, .int a, .int (nI i)] 4 [] := by
    intro fuel
    induction fuel with
    | zero => intro i a h1 h2; exact absurd h2 (Nat.not_lt_zero _)
    | succ fuel ih =>
      intro i a h1 h2 h3
      refine vV_iload_n Cx 3 dX0_inState_4 rfl rfl ?_
      refine vV_aload_n Cx 0 dX0_inState_5 rfl rfl ?_
      refine vU_get Cx hinX0 (pb b) (lkO hb) rfl 1 (by decide) u1_106 rfl dX0_inState_6 ?_
      refine vU_get Cx hinX1 5 (lkParty hb) rfl 0 (by decide) u1_72 rfl dX0_inState_9 ?_
      refine vV_icmp_ge (tgt := 34) Cx dX0_inState_12 (by decide) (fun h12 => ?_) (fun h12 => ?_)
      · rw [hn] at h12
        have hin := vix_ge h12 (by omega) h1
        refine vV_iload_n Cx 2 dX0_inState_34 rfl rfl ?_
        exact vV_iret Cx hr hlk dX0_inState_35 (by rw [hin, vlp_done (Nat.le_refl _)] at h3; exact h3) (by rfl)
      · rw [hn] at h12
        have hlt := vix_lt h12 (by omega) h1
        have hi : vix (nI i) 12 i := vix_nI (by omega) (by decide)
        refine vV_aload_n Cx 0 dX0_inState_15 rfl rfl ?_
        refine vU_get Cx hinX0 (pb b) (lkO hb) rfl 4 (by decide) u1_111 rfl dX0_inState_16 ?_
        refine vV_iload_n Cx 3 dX0_inState_19 rfl rfl ?_
        refine vV_iald Cx (pb b + 1) 0 (lk_state hb) rfl (by assumption) dX0_inState_20 ?_
        refine vV_iload_n Cx 1 dX0_inState_21 rfl rfl ?_
        refine vV_icmp_ne (tgt := 28) Cx dX0_inState_22 (by decide) (fun h22 => ?_) (fun h22 => ?_)
        · refine vV_iinc Cx dX0_inState_28 rfl (vinc _) (by decide) ?_
          refine vV_goto (tgt := 4) Cx dX0_inState_31 (by decide) ?_
          exact ih (i + 1) _ (by omega) (by omega) (by rw [← h3, vlp_step hlt]; try exact congrArg (vlp _ n (i + 1)) (by first | rfl | (clear Cx hr hlk; simp_all [-Int32.not_lt, -Int32.not_le])))
        · refine vV_iinc Cx dX0_inState_25 rfl (vinc1 _) (by decide) ?_
          refine vV_iinc Cx dX0_inState_28 rfl (vinc _) (by decide) ?_
          refine vV_goto (tgt := 4) Cx dX0_inState_31 (by decide) ?_
          exact ih (i + 1) _ (by omega) (by omega) (by rw [← h3, vlp_step hlt]; try exact congrArg (vlp _ n (i + 1)) (by first | rfl | (clear Cx hr hlk; simp_all [-Int32.not_lt, -Int32.not_le])))
  refine vV_iconst (v := 0) Cx dX0_inState_0 (by decide) ?_
  refine vV_istore_n Cx 2 dX0_inState_1 rfl (by decide) ?_
  refine vV_iconst (v := 0) Cx dX0_inState_2 (by decide) ?_
  refine vV_istore_n Cx 3 dX0_inState_3 rfl (by decide) ?_
  exact Lp (n + 1) 0 _ (by omega) (by omega) rfl
abbrev rX0_allWaits : Room := { frames := 0, cells := 0, slots := 0, locals := 0 }
set_option maxRecDepth 100000 in
set_option maxHeartbeats 4000000 in
theorem KX0_allWaits {l : Launch} {D : va_G} {cI cZ : ClassId} {ad : Nat → Nat} {A : Nat → Prop} {b : Nat} (hb : b = 1 ∨ b = 2) {E C X : mT} {S : Nat → Int32} {n : Nat} (hn : E 8 2 = nI n) (h12 : n ≤ 12) : vKi l D (vtys cI cZ) A yX0_allWaits (uT yX0_allWaits cX0_allWaits 3 (some .int)) rX0_allWaits (wB cI cZ ad b E C X S) [.ref (ad (pb b))] (c_wts n C) (wB cI cZ ad b E C X S) := by
  refine vKi_of (cc := cX0_allWaits) (maxL := 3) (ret := some .int) (by decide) rfl rfl (Nat.le_of_ble_eq_true rfl) ?_
  intro p e s m below meth c Cx hr hlk
  have Lp : ∀ (fuel i : Nat) (a : Int32), i ≤ n → n - i < fuel → vlp (fun i a => a + C 5 i) n i a = c_wts n C → vV D (vtys cI cZ) A 3 p l e rX0_allWaits s m ([.ref (ad (pb b))] : List Value).toArray below meth c 0 0 (MQ below (vQi D A (c_wts n C) (wB cI cZ ad b E C X S)) ([.ref (ad (pb b))] : List Value).toArray s 0 0 A) (wB cI cZ ad b E C X S) [.ref (ad (pb b)), .int a, .int (nI i)] 4 [] := by
    intro fuel
    induction fuel with
    | zero => intro i a h1 h2; exact absurd h2 (Nat.not_lt_zero _)
    | succ fuel ih =>
      intro i a h1 h2 h3
      refine vV_iload_n Cx 2 dX0_allWaits_4 rfl rfl ?_
      refine vV_aload_n Cx 0 dX0_allWaits_5 rfl rfl ?_
      refine vU_get Cx hinX0 (pb b) (lkO hb) rfl 1 (by decide) u1_106 rfl dX0_allWaits_6 ?_
      refine vU_get Cx hinX1 5 (lkParty hb) rfl 0 (by decide) u1_72 rfl dX0_allWaits_9 ?_
      refine vV_icmp_ge (tgt := 30) Cx dX0_allWaits_12 (by decide) (fun h12 => ?_) (fun h12 => ?_)
      · rw [hn] at h12
        have hin := vix_ge h12 (by omega) h1
        refine vV_iload_n Cx 1 dX0_allWaits_30 rfl rfl ?_
        exact vV_iret Cx hr hlk dX0_allWaits_31 (by rw [hin, vlp_done (Nat.le_refl _)] at h3; exact h3) (by rfl)
      · rw [hn] at h12
        have hlt := vix_lt h12 (by omega) h1
        have hi : vix (nI i) 12 i := vix_nI (by omega) (by decide)
        refine vV_iload_n Cx 1 dX0_allWaits_15 rfl rfl ?_
        refine vV_aload_n Cx 0 dX0_allWaits_16 rfl rfl ?_
        refine vU_get Cx hinX0 (pb b) (lkO hb) rfl 10 (by decide) u1_123 rfl dX0_allWaits_17 ?_
        refine vV_iload_n Cx 2 dX0_allWaits_20 rfl rfl ?_
        refine vV_iald Cx (pb b + 7) 0 (lk_waits hb) rfl (by assumption) dX0_allWaits_21 ?_
        refine vV_iadd Cx dX0_allWaits_22 ?_
        refine vV_istore_n Cx 1 dX0_allWaits_23 rfl (by decide) ?_
        refine vV_iinc Cx dX0_allWaits_24 rfl (vinc _) (by decide) ?_
        refine vV_goto (tgt := 4) Cx dX0_allWaits_27 (by decide) ?_
        exact ih (i + 1) _ (by omega) (by omega) (by rw [← h3, vlp_step hlt]; try exact congrArg (vlp _ n (i + 1)) (by first | rfl | (clear Cx hr hlk; simp_all [-Int32.not_lt, -Int32.not_le])))
  refine vV_iconst (v := 0) Cx dX0_allWaits_0 (by decide) ?_
  refine vV_istore_n Cx 1 dX0_allWaits_1 rfl (by decide) ?_
  refine vV_iconst (v := 0) Cx dX0_allWaits_2 (by decide) ?_
  refine vV_istore_n Cx 2 dX0_allWaits_3 rfl (by decide) ?_
  exact Lp (n + 1) 0 _ (by omega) (by omega) rfl
abbrev rX0_howManyOn : Room := { frames := 1, cells := 0, slots := 0, locals := 21 }
set_option maxRecDepth 100000 in
set_option maxHeartbeats 4000000 in
theorem KX0_howManyOn {l : Launch} {D : va_G} {cI cZ : ClassId} {ad : Nat → Nat} {A : Nat → Prop} {b : Nat} (hb : b = 1 ∨ b = 2) {E C X : mT} {S : Nat → Int32} {n : Nat} (hn : E 8 2 = nI n) (h12 : n ≤ 12) (q : Int32) : vKi l D (vtys cI cZ) A yX0_howManyOn (uT yX0_howManyOn cX0_howManyOn 4 (some .int)) rX0_howManyOn (wB cI cZ ad b E C X S) [.ref (ad (pb b)), .int q] (c_on n q C) (wB cI cZ ad b E C X S) := by
  refine vKi_of (cc := cX0_howManyOn) (maxL := 4) (ret := some .int) (by decide) rfl rfl (Nat.le_of_ble_eq_true rfl) ?_
  intro p e s m below meth c Cx hr hlk
  have Lp : ∀ (fuel i : Nat) (a : Int32), i ≤ n → n - i < fuel → vlp (fun i a => if 0 < C 2 i then (if c_pu i C = q then a + 1 else a) else a) n i a = c_on n q C → vV D (vtys cI cZ) A 4 p l e rX0_howManyOn s m ([.ref (ad (pb b)), .int q] : List Value).toArray below meth c 0 0 (MQ below (vQi D A (c_on n q C) (wB cI cZ ad b E C X S)) ([.ref (ad (pb b)), .int q] : List Value).toArray s 0 0 A) (wB cI cZ ad b E C X S) [.ref (ad (pb b)), .int q, .int a, .int (nI i)] 4 [] := by
    intro fuel
    induction fuel with
    | zero => intro i a h1 h2; exact absurd h2 (Nat.not_lt_zero _)
    | succ fuel ih =>
      intro i a h1 h2 h3
      refine vV_iload_n Cx 3 dX0_howManyOn_4 rfl rfl ?_
      refine vV_aload_n Cx 0 dX0_howManyOn_5 rfl rfl ?_
      refine vU_get Cx hinX0 (pb b) (lkO hb) rfl 1 (by decide) u1_106 rfl dX0_howManyOn_6 ?_
      refine vU_get Cx hinX1 5 (lkParty hb) rfl 0 (by decide) u1_72 rfl dX0_howManyOn_9 ?_
      refine vV_icmp_ge (tgt := 42) Cx dX0_howManyOn_12 (by decide) (fun h12 => ?_) (fun h12 => ?_)
      · rw [hn] at h12
        have hin := vix_ge h12 (by omega) h1
        refine vV_iload_n Cx 2 dX0_howManyOn_42 rfl rfl ?_
        exact vV_iret Cx hr hlk dX0_howManyOn_43 (by rw [hin, vlp_done (Nat.le_refl _)] at h3; exact h3) (by rfl)
      · rw [hn] at h12
        have hlt := vix_lt h12 (by omega) h1
        have hi : vix (nI i) 12 i := vix_nI (by omega) (by decide)
        refine vV_aload_n Cx 0 dX0_howManyOn_15 rfl rfl ?_
        refine vU_get Cx hinX0 (pb b) (lkO hb) rfl 6 (by decide) u1_115 rfl dX0_howManyOn_16 ?_
        refine vV_iload_n Cx 3 dX0_howManyOn_19 rfl rfl ?_
        refine vV_iald Cx (pb b + 3) 0 (lk_toGo hb) rfl (by assumption) dX0_howManyOn_20 ?_
        refine vV_if_le (tgt := 36) Cx dX0_howManyOn_21 (by decide) (fun h21 => ?_) (fun h21 => ?_)
        · refine vV_iinc Cx dX0_howManyOn_36 rfl (vinc _) (by decide) ?_
          refine vV_goto (tgt := 4) Cx dX0_howManyOn_39 (by decide) ?_
          exact ih (i + 1) _ (by omega) (by omega) (by rw [← h3, vlp_step hlt]; try exact congrArg (vlp _ n (i + 1)) (by first | rfl | (clear Cx hr hlk; simp_all [-Int32.not_lt, -Int32.not_le])))
        · refine vV_aload_n Cx 0 dX0_howManyOn_24 rfl rfl ?_
          refine vV_iload_n Cx 3 dX0_howManyOn_25 rfl rfl ?_
          refine vV_callVi Cx (KX0_pitchUnder hb hi) (cwV 1 Cx.1.2.2.2.2 (uGV u2_29 u2_31 us_9 u1_6 u2_32) rfl rfl rfl hdX0_pitchUnder ⟨Nat.le_of_ble_eq_true rfl, Nat.le_of_ble_eq_true rfl⟩) (pb b) (lkO hb) rfl rfl rfl (Nat.le_of_ble_eq_true rfl) ⟨Nat.zero_le _, Nat.zero_le _⟩ dX0_howManyOn_26 ?_
          refine vV_iload_n Cx 1 dX0_howManyOn_29 rfl rfl ?_
          refine vV_icmp_ne (tgt := 36) Cx dX0_howManyOn_30 (by decide) (fun h30 => ?_) (fun h30 => ?_)
          · refine vV_iinc Cx dX0_howManyOn_36 rfl (vinc _) (by decide) ?_
            refine vV_goto (tgt := 4) Cx dX0_howManyOn_39 (by decide) ?_
            exact ih (i + 1) _ (by omega) (by omega) (by rw [← h3, vlp_step hlt]; try exact congrArg (vlp _ n (i + 1)) (by first | rfl | (clear Cx hr hlk; simp_all [-Int32.not_lt, -Int32.not_le])))
          · refine vV_iinc Cx dX0_howManyOn_33 rfl (vinc1 _) (by decide) ?_
            refine vV_iinc Cx dX0_howManyOn_36 rfl (vinc _) (by decide) ?_
            refine vV_goto (tgt := 4) Cx dX0_howManyOn_39 (by decide) ?_
            exact ih (i + 1) _ (by omega) (by omega) (by rw [← h3, vlp_step hlt]; try exact congrArg (vlp _ n (i + 1)) (by first | rfl | (clear Cx hr hlk; simp_all [-Int32.not_lt, -Int32.not_le])))
  refine vV_iconst (v := 0) Cx dX0_howManyOn_0 (by decide) ?_
  refine vV_istore_n Cx 2 dX0_howManyOn_1 rfl (by decide) ?_
  refine vV_iconst (v := 0) Cx dX0_howManyOn_2 (by decide) ?_
  refine vV_istore_n Cx 3 dX0_howManyOn_3 rfl (by decide) ?_
  exact Lp (n + 1) 0 _ (by omega) (by omega) rfl
abbrev rX0_howManyAt : Room := { frames := 0, cells := 0, slots := 0, locals := 0 }
set_option maxRecDepth 100000 in
set_option maxHeartbeats 4000000 in
theorem KX0_howManyAt {l : Launch} {D : va_G} {cI cZ : ClassId} {ad : Nat → Nat} {A : Nat → Prop} {b : Nat} (hb : b = 1 ∨ b = 2) {E C X : mT} {S : Nat → Int32} {n : Nat} (hn : E 8 2 = nI n) (h12 : n ≤ 12) (q : Int32) : vKi l D (vtys cI cZ) A yX0_howManyAt (uT yX0_howManyAt cX0_howManyAt 4 (some .int)) rX0_howManyAt (wB cI cZ ad b E C X S) [.ref (ad (pb b)), .int q] (c_atC n q C) (wB cI cZ ad b E C X S) := by
  refine vKi_of (cc := cX0_howManyAt) (maxL := 4) (ret := some .int) (by decide) rfl rfl (Nat.le_of_ble_eq_true rfl) ?_
  intro p e s m below meth c Cx hr hlk
  have Lp : ∀ (fuel i : Nat) (a : Int32), i ≤ n → n - i < fuel → vlp (fun i a => if C 2 i = 0 then (if C 1 i = q then a + 1 else a) else a) n i a = c_atC n q C → vV D (vtys cI cZ) A 4 p l e rX0_howManyAt s m ([.ref (ad (pb b)), .int q] : List Value).toArray below meth c 0 0 (MQ below (vQi D A (c_atC n q C) (wB cI cZ ad b E C X S)) ([.ref (ad (pb b)), .int q] : List Value).toArray s 0 0 A) (wB cI cZ ad b E C X S) [.ref (ad (pb b)), .int q, .int a, .int (nI i)] 4 [] := by
    intro fuel
    induction fuel with
    | zero => intro i a h1 h2; exact absurd h2 (Nat.not_lt_zero _)
    | succ fuel ih =>
      intro i a h1 h2 h3
      refine vV_iload_n Cx 3 dX0_howManyAt_4 rfl rfl ?_
      refine vV_aload_n Cx 0 dX0_howManyAt_5 rfl rfl ?_
      refine vU_get Cx hinX0 (pb b) (lkO hb) rfl 1 (by decide) u1_106 rfl dX0_howManyAt_6 ?_
      refine vU_get Cx hinX1 5 (lkParty hb) rfl 0 (by decide) u1_72 rfl dX0_howManyAt_9 ?_
      refine vV_icmp_ge (tgt := 43) Cx dX0_howManyAt_12 (by decide) (fun h12 => ?_) (fun h12 => ?_)
      · rw [hn] at h12
        have hin := vix_ge h12 (by omega) h1
        refine vV_iload_n Cx 2 dX0_howManyAt_43 rfl rfl ?_
        exact vV_iret Cx hr hlk dX0_howManyAt_44 (by rw [hin, vlp_done (Nat.le_refl _)] at h3; exact h3) (by rfl)
      · rw [hn] at h12
        have hlt := vix_lt h12 (by omega) h1
        have hi : vix (nI i) 12 i := vix_nI (by omega) (by decide)
        refine vV_aload_n Cx 0 dX0_howManyAt_15 rfl rfl ?_
        refine vU_get Cx hinX0 (pb b) (lkO hb) rfl 6 (by decide) u1_115 rfl dX0_howManyAt_16 ?_
        refine vV_iload_n Cx 3 dX0_howManyAt_19 rfl rfl ?_
        refine vV_iald Cx (pb b + 3) 0 (lk_toGo hb) rfl (by assumption) dX0_howManyAt_20 ?_
        refine vV_if_ne (tgt := 37) Cx dX0_howManyAt_21 (by decide) (fun h21 => ?_) (fun h21 => ?_)
        · refine vV_iinc Cx dX0_howManyAt_37 rfl (vinc _) (by decide) ?_
          refine vV_goto (tgt := 4) Cx dX0_howManyAt_40 (by decide) ?_
          exact ih (i + 1) _ (by omega) (by omega) (by rw [← h3, vlp_step hlt]; try exact congrArg (vlp _ n (i + 1)) (by first | rfl | (clear Cx hr hlk; simp_all [-Int32.not_lt, -Int32.not_le])))
        · refine vV_aload_n Cx 0 dX0_howManyAt_24 rfl rfl ?_
          refine vU_get Cx hinX0 (pb b) (lkO hb) rfl 5 (by decide) u1_113 rfl dX0_howManyAt_25 ?_
          refine vV_iload_n Cx 3 dX0_howManyAt_28 rfl rfl ?_
          refine vV_iald Cx (pb b + 2) 0 (lk_camp hb) rfl (by assumption) dX0_howManyAt_29 ?_
          refine vV_iload_n Cx 1 dX0_howManyAt_30 rfl rfl ?_
          refine vV_icmp_ne (tgt := 37) Cx dX0_howManyAt_31 (by decide) (fun h31 => ?_) (fun h31 => ?_)
          · refine vV_iinc Cx dX0_howManyAt_37 rfl (vinc _) (by decide) ?_
            refine vV_goto (tgt := 4) Cx dX0_howManyAt_40 (by decide) ?_
            exact ih (i + 1) _ (by omega) (by omega) (by rw [← h3, vlp_step hlt]; try exact congrArg (vlp _ n (i + 1)) (by first | rfl | (clear Cx hr hlk; simp_all [-Int32.not_lt, -Int32.not_le])))
          · refine vV_iinc Cx dX0_howManyAt_34 rfl (vinc1 _) (by decide) ?_
            refine vV_iinc Cx dX0_howManyAt_37 rfl (vinc _) (by decide) ?_
            refine vV_goto (tgt := 4) Cx dX0_howManyAt_40 (by decide) ?_
            exact ih (i + 1) _ (by omega) (by omega) (by rw [← h3, vlp_step hlt]; try exact congrArg (vlp _ n (i + 1)) (by first | rfl | (clear Cx hr hlk; simp_all [-Int32.not_lt, -Int32.not_le])))
  refine vV_iconst (v := 0) Cx dX0_howManyAt_0 (by decide) ?_
  refine vV_istore_n Cx 2 dX0_howManyAt_1 rfl (by decide) ?_
  refine vV_iconst (v := 0) Cx dX0_howManyAt_2 (by decide) ?_
  refine vV_istore_n Cx 3 dX0_howManyAt_3 rfl (by decide) ?_
  exact Lp (n + 1) 0 _ (by omega) (by omega) rfl
abbrev rX0_firstInLine : Room := { frames := 0, cells := 0, slots := 0, locals := 0 }
set_option maxRecDepth 100000 in
set_option maxHeartbeats 4000000 in
theorem KX0_firstInLine {l : Launch} {D : va_G} {cI cZ : ClassId} {ad : Nat → Nat} {A : Nat → Prop} {b : Nat} (hb : b = 1 ∨ b = 2) {E C X : mT} {S : Nat → Int32} {n : Nat} (hn : E 8 2 = nI n) (h12 : n ≤ 12) (q : Int32) : vKi l D (vtys cI cZ) A yX0_firstInLine (uT yX0_firstInLine cX0_firstInLine 4 (some .int)) rX0_firstInLine (wB cI cZ ad b E C X S) [.ref (ad (pb b)), .int q] (c_fil n q C) (wB cI cZ ad b E C X S) := by
  refine vKi_of (cc := cX0_firstInLine) (maxL := 4) (ret := some .int) (by decide) rfl rfl (Nat.le_of_ble_eq_true rfl) ?_
  intro p e s m below meth c Cx hr hlk
  have Lp : ∀ (fuel i : Nat) (a : Int32), i ≤ n → n - i < fuel → (a = -1 ∨ vix a 12 a.toNatClampNeg) → vlp (f_fil C q) n i a = c_fil n q C → vV D (vtys cI cZ) A 4 p l e rX0_firstInLine s m ([.ref (ad (pb b)), .int q] : List Value).toArray below meth c 0 0 (MQ below (vQi D A (c_fil n q C) (wB cI cZ ad b E C X S)) ([.ref (ad (pb b)), .int q] : List Value).toArray s 0 0 A) (wB cI cZ ad b E C X S) [.ref (ad (pb b)), .int q, .int a, .int (nI i)] 4 [] := by
    intro fuel
    induction fuel with
    | zero => intro i a h1 h2; exact absurd h2 (Nat.not_lt_zero _)
    | succ fuel ih =>
      intro i a h1 h2 ha h3
      refine vV_iload_n Cx 3 dX0_firstInLine_4 rfl rfl ?_
      refine vV_aload_n Cx 0 dX0_firstInLine_5 rfl rfl ?_
      refine vU_get Cx hinX0 (pb b) (lkO hb) rfl 1 (by decide) u1_106 rfl dX0_firstInLine_6 ?_
      refine vU_get Cx hinX1 5 (lkParty hb) rfl 0 (by decide) u1_72 rfl dX0_firstInLine_9 ?_
      refine vV_icmp_ge (tgt := 53) Cx dX0_firstInLine_12 (by decide) (fun h12 => ?_) (fun h12 => ?_)
      · rw [hn] at h12
        have hin := vix_ge h12 (by omega) h1
        refine vV_iload_n Cx 2 dX0_firstInLine_53 rfl rfl ?_
        exact vV_iret Cx hr hlk dX0_firstInLine_54 (by rw [hin, vlp_done (Nat.le_refl _)] at h3; exact h3) (by rfl)
      · rw [hn] at h12
        have hlt := vix_lt h12 (by omega) h1
        have hi : vix (nI i) 12 i := vix_nI (by omega) (by decide)
        refine vV_aload_n Cx 0 dX0_firstInLine_15 rfl rfl ?_
        refine vU_get Cx hinX0 (pb b) (lkO hb) rfl 11 (by decide) u1_125 rfl dX0_firstInLine_16 ?_
        refine vV_iload_n Cx 3 dX0_firstInLine_19 rfl rfl ?_
        refine vV_iald Cx (pb b + 8) 0 (lk_wanted hb) rfl (by assumption) dX0_firstInLine_20 ?_
        refine vV_iload_n Cx 1 dX0_firstInLine_21 rfl rfl ?_
        refine vV_icmp_ne (tgt := 47) Cx dX0_firstInLine_22 (by decide) (fun h22 => ?_) (fun h22 => ?_)
        · refine vV_iinc Cx dX0_firstInLine_47 rfl (vinc _) (by decide) ?_
          refine vV_goto (tgt := 4) Cx dX0_firstInLine_50 (by decide) ?_
          refine ih (i + 1) _ (by omega) (by omega) ?_ (by rw [← h3, vlp_step hlt]; exact congrArg (vlp _ n (i + 1)) (by first | rfl | (clear Cx hr hlk; simp_all [-Int32.not_lt, -Int32.not_le, f_fil])))
          first | exact ha | exact Or.inr ⟨hi.1, rfl⟩
        · refine vV_iload_n Cx 2 dX0_firstInLine_25 rfl rfl ?_
          refine vV_iconst (v := -1) Cx dX0_firstInLine_26 (by decide) ?_
          refine vV_icmp_eq (tgt := 45) Cx dX0_firstInLine_27 (by decide) (fun h27 => ?_) (fun h27 => ?_)
          · refine vV_iload_n Cx 3 dX0_firstInLine_45 rfl rfl ?_
            refine vV_istore_n Cx 2 dX0_firstInLine_46 rfl (by decide) ?_
            refine vV_iinc Cx dX0_firstInLine_47 rfl (vinc _) (by decide) ?_
            refine vV_goto (tgt := 4) Cx dX0_firstInLine_50 (by decide) ?_
            refine ih (i + 1) _ (by omega) (by omega) ?_ (by rw [← h3, vlp_step hlt]; exact congrArg (vlp _ n (i + 1)) (by first | rfl | (clear Cx hr hlk; simp_all [-Int32.not_lt, -Int32.not_le, f_fil])))
            first | exact ha | exact Or.inr ⟨hi.1, rfl⟩
          · have ha2 := ha.resolve_left h27
            refine vV_aload_n Cx 0 dX0_firstInLine_30 rfl rfl ?_
            refine vU_get Cx hinX0 (pb b) (lkO hb) rfl 12 (by decide) u1_126 rfl dX0_firstInLine_31 ?_
            refine vV_iload_n Cx 3 dX0_firstInLine_34 rfl rfl ?_
            refine vV_iald Cx (pb b + 9) 0 (lk_place hb) rfl (by assumption) dX0_firstInLine_35 ?_
            refine vV_aload_n Cx 0 dX0_firstInLine_36 rfl rfl ?_
            refine vU_get Cx hinX0 (pb b) (lkO hb) rfl 12 (by decide) u1_126 rfl dX0_firstInLine_37 ?_
            refine vV_iload_n Cx 2 dX0_firstInLine_40 rfl rfl ?_
            refine vV_iald Cx (pb b + 9) 0 (lk_place hb) rfl (by assumption) dX0_firstInLine_41 ?_
            refine vV_icmp_ge (tgt := 47) Cx dX0_firstInLine_42 (by decide) (fun h42 => ?_) (fun h42 => ?_)
            · refine vV_iinc Cx dX0_firstInLine_47 rfl (vinc _) (by decide) ?_
              refine vV_goto (tgt := 4) Cx dX0_firstInLine_50 (by decide) ?_
              refine ih (i + 1) _ (by omega) (by omega) ?_ (by rw [← h3, vlp_step hlt]; exact congrArg (vlp _ n (i + 1)) (by first | rfl | (clear Cx hr hlk; simp_all [-Int32.not_lt, -Int32.not_le, f_fil])))
              first | exact ha | exact Or.inr ⟨hi.1, rfl⟩
            · refine vV_iload_n Cx 3 dX0_firstInLine_45 rfl rfl ?_
              refine vV_istore_n Cx 2 dX0_firstInLine_46 rfl (by decide) ?_
              refine vV_iinc Cx dX0_firstInLine_47 rfl (vinc _) (by decide) ?_
              refine vV_goto (tgt := 4) Cx dX0_firstInLine_50 (by decide) ?_
              refine ih (i + 1) _ (by omega) (by omega) ?_ (by rw [← h3, vlp_step hlt]; exact congrArg (vlp _ n (i + 1)) (by first | rfl | (clear Cx hr hlk; simp_all [-Int32.not_lt, -Int32.not_le, f_fil])))
              first | exact ha | exact Or.inr ⟨hi.1, rfl⟩
  refine vV_iconst (v := -1) Cx dX0_firstInLine_0 (by decide) ?_
  refine vV_istore_n Cx 2 dX0_firstInLine_1 rfl (by decide) ?_
  refine vV_iconst (v := 0) Cx dX0_firstInLine_2 (by decide) ?_
  refine vV_istore_n Cx 3 dX0_firstInLine_3 rfl (by decide) ?_
  exact Lp (n + 1) 0 _ (by omega) (by omega) (Or.inl rfl) rfl
abbrev rX0_reset : Room := { frames := 1, cells := 0, slots := 0, locals := 21 }
set_option maxRecDepth 100000 in
set_option maxHeartbeats 4000000 in
theorem KX0_reset {l : Launch} {D : va_G} {cI cZ : ClassId} {ad : Nat → Nat} {A : Nat → Prop} {b : Nat} (hb : b = 1 ∨ b = 2) {E C X : mT} {S : Nat → Int32} {n : Nat} (hn : E 8 2 = nI n) (h12 : n ≤ 12) : vKv l D (vtys cI cZ) A yX0_reset (uT yX0_reset cX0_reset 2 (none)) rX0_reset (wB cI cZ ad b E C X S) [.ref (ad (pb b))] (wB cI cZ ad b E (c_reset E n C) X S) := by
  refine vKv_of (cc := cX0_reset) (maxL := 2) (ret := none) (by decide) rfl rfl (Nat.le_of_ble_eq_true rfl) ?_
  intro p e s m below meth c Cx hr hlk
  have Lp : ∀ (fuel i : Nat) (Z : mT), i ≤ n → n - i < fuel → vV D (vtys cI cZ) A 2 p l e rX0_reset s m ([.ref (ad (pb b))] : List Value).toArray below meth c 0 0 (MQ below (vQv D A (wB cI cZ ad b E (c_reset E n C) X S)) ([.ref (ad (pb b))] : List Value).toArray s 0 0 A) (wB cI cZ ad b E (vlp (c_paf E) n i Z) X S) [.ref (ad (pb b))] 29 [] → vV D (vtys cI cZ) A 2 p l e rX0_reset s m ([.ref (ad (pb b))] : List Value).toArray below meth c 0 0 (MQ below (vQv D A (wB cI cZ ad b E (c_reset E n C) X S)) ([.ref (ad (pb b))] : List Value).toArray s 0 0 A) (wB cI cZ ad b E (Z) X S) [.ref (ad (pb b)), .int (nI i)] 7 [] := by
    intro fuel
    induction fuel with
    | zero => intro i Z h1 h2; exact absurd h2 (Nat.not_lt_zero _)
    | succ fuel ih =>
      intro i Z h1 h2 h3
      refine vV_iload_n Cx 1 dX0_reset_7 rfl rfl ?_
      refine vV_aload_n Cx 0 dX0_reset_8 rfl rfl ?_
      refine vU_get Cx hinX0 (pb b) (lkO hb) rfl 1 (by decide) u1_106 rfl dX0_reset_9 ?_
      refine vU_get Cx hinX1 5 (lkParty hb) rfl 0 (by decide) u1_72 rfl dX0_reset_12 ?_
      refine vV_icmp_ge (tgt := 29) Cx dX0_reset_15 (by decide) (fun h15 => ?_) (fun h15 => ?_)
      · rw [hn] at h15
        have hin := vix_ge h15 (by omega) h1
        refine vV_take 1 rfl ?_
        rw [hin, vlp_done (Nat.le_refl _)] at h3
        exact h3
      · rw [hn] at h15
        have hlt := vix_lt h15 (by omega) h1
        have hi : vix (nI i) 12 i := vix_nI (by omega) (by decide)
        refine vV_aload_n Cx 0 dX0_reset_18 rfl rfl ?_
        refine vV_iload_n Cx 1 dX0_reset_19 rfl rfl ?_
        refine vV_callVv Cx (KX0_putAtFoot hb hi) (cwV 1 Cx.1.2.2.2.2 (uGV u1_179 u1_180 u1_181 u1_6 u1_182) rfl rfl rfl hdX0_putAtFoot ⟨Nat.le_of_ble_eq_true rfl, Nat.le_of_ble_eq_true rfl⟩) (pb b) (lkO hb) rfl rfl rfl (Nat.le_of_ble_eq_true rfl) ⟨Nat.zero_le _, Nat.zero_le _⟩ dX0_reset_20 ?_
        refine vV_iinc Cx dX0_reset_23 rfl (vinc _) (by decide) ?_
        refine vV_goto (tgt := 7) Cx dX0_reset_26 (by decide) ?_
        exact ih (i + 1) _ (by omega) (by omega) (vV_wB ((vlp_step hlt).trans (congrArg (vlp _ n (i + 1)) (by first | rfl | (clear Cx hr hlk; simp_all [-Int32.not_lt, -Int32.not_le])))) h3)
  refine vV_aload_n Cx 0 dX0_reset_0 rfl rfl ?_
  refine vV_iconst (v := 0) Cx dX0_reset_1 (by decide) ?_
  refine vU_put Cx hinX0 tyX0_ok nmX0 (pb b) (lkO hb) rfl 3 (by decide) u1_109 rfl (by decide +kernel) (Nat.le_of_ble_eq_true rfl) dX0_reset_2 (sp_hour hb) ?_
  refine vV_iconst (v := 0) Cx dX0_reset_5 (by decide) ?_
  refine vV_istore_n Cx 1 dX0_reset_6 rfl (by decide) ?_
  refine Lp (n + 1) 0 _ (by omega) (by omega) ?_
  exact vV_vret Cx hr hlk dX0_reset_29 (by rfl)
abbrev rX0_isOver : Room := { frames := 0, cells := 0, slots := 0, locals := 0 }
set_option maxRecDepth 100000 in
set_option maxHeartbeats 4000000 in
theorem KX0_isOver {l : Launch} {D : va_G} {cI cZ : ClassId} {ad : Nat → Nat} {A : Nat → Prop} {b : Nat} (hb : b = 1 ∨ b = 2) {E C X : mT} {S : Nat → Int32} {n : Nat} (hn : E 8 2 = nI n) (h12 : n ≤ 12) : vKi l D (vtys cI cZ) A yX0_isOver (uT yX0_isOver cX0_isOver 2 (some .boolean)) rX0_isOver (wB cI cZ ad b E C X S) [.ref (ad (pb b))] (c_over n C) (wB cI cZ ad b E C X S) := by
  refine vKi_of (cc := cX0_isOver) (maxL := 2) (ret := some .boolean) (by decide) rfl rfl (Nat.le_of_ble_eq_true rfl) ?_
  intro p e s m below meth c Cx hr hlk
  have Lp : ∀ (fuel i : Nat) (a : Int32), i ≤ n → n - i < fuel → vov C (n - i) i = c_over n C → vV D (vtys cI cZ) A 2 p l e rX0_isOver s m ([.ref (ad (pb b))] : List Value).toArray below meth c 0 0 (MQ below (vQi D A (c_over n C) (wB cI cZ ad b E C X S)) ([.ref (ad (pb b))] : List Value).toArray s 0 0 A) (wB cI cZ ad b E C X S) [.ref (ad (pb b)), .int (nI i)] 2 [] := by
    intro fuel
    induction fuel with
    | zero => intro i a h1 h2; exact absurd h2 (Nat.not_lt_zero _)
    | succ fuel ih =>
      intro i a h1 h2 h3
      refine vV_iload_n Cx 1 dX0_isOver_2 rfl rfl ?_
      refine vV_aload_n Cx 0 dX0_isOver_3 rfl rfl ?_
      refine vU_get Cx hinX0 (pb b) (lkO hb) rfl 1 (by decide) u1_106 rfl dX0_isOver_4 ?_
      refine vU_get Cx hinX1 5 (lkParty hb) rfl 0 (by decide) u1_72 rfl dX0_isOver_7 ?_
      refine vV_icmp_ge (tgt := 41) Cx dX0_isOver_10 (by decide) (fun h10 => ?_) (fun h10 => ?_)
      · rw [hn] at h10
        have hin := vix_ge h10 (by omega) h1
        refine vV_iconst (v := 1) Cx dX0_isOver_41 (by decide) ?_
        exact vV_zret Cx hr hlk dX0_isOver_42 (by first | rfl | decide) (by rw [show n - i = 0 by omega] at h3; exact h3) (by rfl)
      · rw [hn] at h10
        have hlt := vix_lt h10 (by omega) h1
        have hi : vix (nI i) 12 i := vix_nI (by omega) (by decide)
        rw [show n - i = (n - (i + 1)) + 1 by omega, vov] at h3
        refine vV_aload_n Cx 0 dX0_isOver_13 rfl rfl ?_
        refine vU_get Cx hinX0 (pb b) (lkO hb) rfl 4 (by decide) u1_111 rfl dX0_isOver_14 ?_
        refine vV_iload_n Cx 1 dX0_isOver_17 rfl rfl ?_
        refine vV_iald Cx (pb b + 1) 0 (lk_state hb) rfl (by assumption) dX0_isOver_18 ?_
        refine vV_iconst (v := 3) Cx dX0_isOver_19 (by decide) ?_
        refine vV_icmp_eq (tgt := 35) Cx dX0_isOver_20 (by decide) (fun h20 => ?_) (fun h20 => ?_)
        · refine vV_iinc Cx dX0_isOver_35 rfl (vinc _) (by decide) ?_
          refine vV_goto (tgt := 2) Cx dX0_isOver_38 (by decide) ?_
          exact ih (i + 1) a (by omega) (by omega) (by first | rfl | (clear Cx hr hlk; simp_all [-Int32.not_lt, -Int32.not_le]))
        · refine vV_aload_n Cx 0 dX0_isOver_23 rfl rfl ?_
          refine vU_get Cx hinX0 (pb b) (lkO hb) rfl 4 (by decide) u1_111 rfl dX0_isOver_24 ?_
          refine vV_iload_n Cx 1 dX0_isOver_27 rfl rfl ?_
          refine vV_iald Cx (pb b + 1) 0 (lk_state hb) rfl (by assumption) dX0_isOver_28 ?_
          refine vV_iconst (v := 4) Cx dX0_isOver_29 (by decide) ?_
          refine vV_icmp_eq (tgt := 35) Cx dX0_isOver_30 (by decide) (fun h30 => ?_) (fun h30 => ?_)
          · refine vV_iinc Cx dX0_isOver_35 rfl (vinc _) (by decide) ?_
            refine vV_goto (tgt := 2) Cx dX0_isOver_38 (by decide) ?_
            exact ih (i + 1) a (by omega) (by omega) (by first | rfl | (clear Cx hr hlk; simp_all [-Int32.not_lt, -Int32.not_le]))
          · refine vV_iconst (v := 0) Cx dX0_isOver_33 (by decide) ?_
            exact vV_zret Cx hr hlk dX0_isOver_34 (by first | rfl | decide) (by first | rfl | (clear Cx hr hlk; simp_all [-Int32.not_lt, -Int32.not_le])) (by rfl)
  refine vV_iconst (v := 0) Cx dX0_isOver_0 (by decide) ?_
  refine vV_istore_n Cx 1 dX0_isOver_1 rfl (by decide) ?_
  exact Lp (n + 1) 0 0 (by omega) (by omega) rfl
