/-! the reference: tries, plan -/
def mr_tries (u a b d w : Int32) : Int32 := if isW u 1 3 = 0 then 0 else if isW w 0 2 = 0 then 0 else if isW a 0 10 = 0 then 0 else if 1 < u ∧ isW b 0 10 = 0 then 0 else if 2 < u ∧ isW d 0 10 = 0 then 0 else 1
def me_st (E : mT) (u a b d : Int32) : mT := if 2 < u then cS (cS (cS E 6 0 a) 6 1 b) 6 2 d else if 1 < u then cS (cS E 6 0 a) 6 1 b else cS E 6 0 a
theorem me_st_q (E : mT) (u a b d : Int32) {q : Nat} (h : q ≠ 6) : me_st E u a b d q = E q := by unfold me_st; split; simp [cS_ne h]; split <;> simp [cS_ne h]
def m_sv (E N : mT) : mT := vlp (fun j N => cS N 1 j (E 6 j)) 4 0 N
def mn_tries (E : mT) (n np : Nat) (C N : mT) (u a b d : Int32) : mT := m_as (me_st E u a b d) n np C (m_sv E (cS N 2 0 0))
theorem mn_1 (E : mT) (n np : Nat) (C N : mT) (u a b d : Int32) {j : Nat} (h : j < 4) : mn_tries E n np C N u a b d 1 j = E 6 j := by
  rw [mn_tries, m_as, cS_ne (by decide), cS_ne (by decide), cS_ne (by decide), m_cp_q _ _ (by decide), m_sv, (vlp_row 1 (E 6) 4 4 0 _ rfl).1 j, if_pos (by omega)]
theorem mn_21 (E : mT) (n np : Nat) (C N : mT) : m_as E n np C N 2 1 = c_sum n (m_tr E n np C) := by
  rw [m_as, cS_at]; unfold upd; rw [if_neg (by decide), cS_at]; unfold upd; rw [if_neg (by decide), cS_at]; unfold upd; rw [if_pos rfl]
theorem mn_22 (E : mT) (n np : Nat) (C N : mT) : m_as E n np C N 2 2 = c_inS n 4 (m_tr E n np C) := by
  rw [m_as, cS_at]; unfold upd; rw [if_neg (by decide), cS_at]; unfold upd; rw [if_pos rfl]
theorem mn_23 (E : mT) (n np : Nat) (C N : mT) : m_as E n np C N 2 3 = c_wts n (m_tr E n np C) := by
  rw [m_as, cS_at]; unfold upd; rw [if_pos rfl]
theorem m_rst (E : mT) (n np : Nat) (C N : mT) (u a b d : Int32) : vlp (fun j Y => cS Y 6 j (mn_tries E n np C N u a b d 1 j)) 4 0 (me_st E u a b d) = E := by
  have h := vlp_row 6 (mn_tries E n np C N u a b d 1) 4 4 0 (me_st E u a b d) rfl
  funext q j
  by_cases hq : q = 6
  · subst hq
    rw [h.1 j]
    by_cases hj : j < 4
    · rw [if_pos (by omega), mn_1 E n np C N u a b d hj]
    · rw [if_neg (by omega)]
      have e0 : j ≠ 0 := by omega
      have e1 : j ≠ 1 := by omega
      have e2 : j ≠ 2 := by omega
      unfold me_st
      split
      · simp [cS_at, upd, e0, e1, e2]
      · split <;> simp [cS_at, upd, e0, e1, e2]
  · rw [h.2 q hq, me_st_q E u a b d hq]
def ma_tries (E : mT) (n np : Nat) (C : mT) (u a b d w : Int32) : Int32 := if mr_tries u a b d w = 0 then -1 else if w = 0 then c_sum n (m_tr (me_st E u a b d) n np C) else if w = 1 then c_inS n 4 (m_tr (me_st E u a b d) n np C) else c_wts n (m_tr (me_st E u a b d) n np C)
abbrev rX4_tries : Room := { frames := 6, cells := 0, slots := 0, locals := 135 }
set_option maxRecDepth 100000 in
set_option maxHeartbeats 600000 in
theorem KX4_tries {l : Launch} {D : va_G} {cI cZ : ClassId} {ad : Nat → Nat} {A : Nat → Prop} {E C N : mT} {n np : Nat} (ok : okE E n np) (u a b d w : Int32) : vKi l D (vtys cI cZ) A yX4_tries (uT yX4_tries cX4_tries 7 (some .int)) rX4_tries (wN cI cZ ad E (C) (N)) [.ref (ad 0), .int u, .int a, .int b, .int d, .int w] (ma_tries E n np C u a b d w) (wN cI cZ ad E (C) (if mr_tries u a b d w = 0 then cS N 2 0 0 else mn_tries E n np C N u a b d)) := by
  refine vKi_of (cc := cX4_tries) (maxL := 7) (ret := some .int) (by decide) rfl rfl (Nat.le_of_ble_eq_true rfl) ?_
  intro p e s m below meth c Cx hr hlk
  have hi0 : vix (0 : Int32) 4 0 := vix_nI (j := 0) (n := 4) (by decide) (by decide)
  have hi1 : vix (1 : Int32) 4 1 := vix_nI (j := 1) (n := 4) (by decide) (by decide)
  have hi2 : vix (2 : Int32) 4 2 := vix_nI (j := 2) (n := 4) (by decide) (by decide)
  have L135 : ∀ (fuel i : Nat) (Y : mT), i ≤ 4 → 4 - i < fuel → vV D (vtys cI cZ) A 7 p l e rX4_tries s m ([.ref (ad 0), .int u, .int a, .int b, .int d, .int w] : List Value).toArray below meth c 0 0 (MQ below (vQi D A (ma_tries E n np C u a b d w) (wN cI cZ ad E (C) (if mr_tries u a b d w = 0 then cS N 2 0 0 else mn_tries E n np C N u a b d))) ([.ref (ad 0), .int u, .int a, .int b, .int d, .int w] : List Value).toArray s 0 0 A) (wN cI cZ ad (vlp (fun j Y => cS Y 6 j (mn_tries E n np C N u a b d 1 j)) 4 i Y) C (mn_tries E n np C N u a b d)) [.ref (ad 0), .int u, .int a, .int b, .int d, .int w] 161 [] → vV D (vtys cI cZ) A 7 p l e rX4_tries s m ([.ref (ad 0), .int u, .int a, .int b, .int d, .int w] : List Value).toArray below meth c 0 0 (MQ below (vQi D A (ma_tries E n np C u a b d w) (wN cI cZ ad E (C) (if mr_tries u a b d w = 0 then cS N 2 0 0 else mn_tries E n np C N u a b d))) ([.ref (ad 0), .int u, .int a, .int b, .int d, .int w] : List Value).toArray s 0 0 A) (wN cI cZ ad Y C (mn_tries E n np C N u a b d)) [.ref (ad 0), .int u, .int a, .int b, .int d, .int w, .int (nI i)] 135 [] := by
    intro fuel
    induction fuel with
    | zero => intro i Y h1 h2; exact absurd h2 (Nat.not_lt_zero _)
    | succ fuel ih =>
      intro i Y h1 h2 h3
      refine vV_iload Cx dX4_tries_135 rfl ?_
      refine vV_iconst (v := 4) Cx dX4_tries_137 (by decide) ?_
      refine vV_icmp_ge (tgt := 161) Cx dX4_tries_138 (by decide) (fun h138 => ?_) (fun h138 => ?_)
      · have hin : i = 4 := vix_ge (n := 4) h138 (by decide) h1
        refine vV_take 6 rfl ?_
        rw [hin, vlp_done (Nat.le_refl _)] at h3
        exact h3
      · have hlt : i < 4 := vix_lt (n := 4) h138 (by decide) h1
        have hi : vix (nI i) 4 i := vix_nI (by omega) (by decide)
        refine vV_aload_n Cx 0 dX4_tries_141 rfl rfl ?_
        refine vU_get Cx hinX4 0 rfl rfl 6 (by decide) u2_233 rfl dX4_tries_142 ?_
        refine vV_iload Cx dX4_tries_145 rfl ?_
        refine vV_aload_n Cx 0 dX4_tries_147 rfl rfl ?_
        refine vU_get Cx hinX4 0 rfl rfl 14 (by decide) u3_1 rfl dX4_tries_148 ?_
        refine vV_iload Cx dX4_tries_151 rfl ?_
        refine vV_iald Cx 11 0 rfl rfl (by assumption) dX4_tries_153 ?_
        refine vV_iast Cx 4 0 rfl rfl (by assumption) dX4_tries_154 nk_start ?_
        refine vV_iinc Cx dX4_tries_155 rfl (vinc _) (by decide) ?_
        refine vV_goto (tgt := 135) Cx dX4_tries_158 (by decide) ?_
        exact ih (i + 1) _ (by omega) (by omega) (by rw [vlp_step hlt] at h3; exact h3)
  have L70 : ∀ (fuel i : Nat) (Y : mT), i ≤ 4 → 4 - i < fuel → vV D (vtys cI cZ) A 7 p l e rX4_tries s m ([.ref (ad 0), .int u, .int a, .int b, .int d, .int w] : List Value).toArray below meth c 0 0 (MQ below (vQi D A (ma_tries E n np C u a b d w) (wN cI cZ ad E (C) (if mr_tries u a b d w = 0 then cS N 2 0 0 else mn_tries E n np C N u a b d))) ([.ref (ad 0), .int u, .int a, .int b, .int d, .int w] : List Value).toArray s 0 0 A) (wN cI cZ ad E (C) (vlp (fun j N => cS N 1 j (E 6 j)) 4 i Y)) [.ref (ad 0), .int u, .int a, .int b, .int d, .int w] 96 [] → vV D (vtys cI cZ) A 7 p l e rX4_tries s m ([.ref (ad 0), .int u, .int a, .int b, .int d, .int w] : List Value).toArray below meth c 0 0 (MQ below (vQi D A (ma_tries E n np C u a b d w) (wN cI cZ ad E (C) (if mr_tries u a b d w = 0 then cS N 2 0 0 else mn_tries E n np C N u a b d))) ([.ref (ad 0), .int u, .int a, .int b, .int d, .int w] : List Value).toArray s 0 0 A) (wN cI cZ ad E (C) (Y)) [.ref (ad 0), .int u, .int a, .int b, .int d, .int w, .int (nI i)] 70 [] := by
    intro fuel
    induction fuel with
    | zero => intro i Y h1 h2; exact absurd h2 (Nat.not_lt_zero _)
    | succ fuel ih =>
      intro i Y h1 h2 h3
      refine vV_iload Cx dX4_tries_70 rfl ?_
      refine vV_iconst (v := 4) Cx dX4_tries_72 (by decide) ?_
      refine vV_icmp_ge (tgt := 96) Cx dX4_tries_73 (by decide) (fun h73 => ?_) (fun h73 => ?_)
      · have hin : i = 4 := vix_ge (n := 4) h73 (by decide) h1
        refine vV_take 6 rfl ?_
        rw [hin, vlp_done (Nat.le_refl _)] at h3
        exact h3
      · have hlt : i < 4 := vix_lt (n := 4) h73 (by decide) h1
        have hi : vix (nI i) 4 i := vix_nI (by omega) (by decide)
        refine vV_aload_n Cx 0 dX4_tries_76 rfl rfl ?_
        refine vU_get Cx hinX4 0 rfl rfl 14 (by decide) u3_1 rfl dX4_tries_77 ?_
        refine vV_iload Cx dX4_tries_80 rfl ?_
        refine vV_aload_n Cx 0 dX4_tries_82 rfl rfl ?_
        refine vU_get Cx hinX4 0 rfl rfl 6 (by decide) u2_233 rfl dX4_tries_83 ?_
        refine vV_iload Cx dX4_tries_86 rfl ?_
        refine vV_iald Cx 4 0 rfl rfl (by assumption) dX4_tries_88 ?_
        refine vV_iast Cx 11 0 rfl rfl (by assumption) dX4_tries_89 nk_starts ?_
        refine vV_iinc Cx dX4_tries_90 rfl (vinc _) (by decide) ?_
        refine vV_goto (tgt := 70) Cx dX4_tries_93 (by decide) ?_
        exact ih (i + 1) _ (by omega) (by omega) (by rw [vlp_step hlt] at h3; exact h3)
  have S67 : ¬ mr_tries u a b d w = 0 → vV D (vtys cI cZ) A 7 p l e rX4_tries s m ([.ref (ad 0), .int u, .int a, .int b, .int d, .int w] : List Value).toArray below meth c 0 0 (MQ below (vQi D A (ma_tries E n np C u a b d w) (wN cI cZ ad E (C) (if mr_tries u a b d w = 0 then cS N 2 0 0 else mn_tries E n np C N u a b d))) ([.ref (ad 0), .int u, .int a, .int b, .int d, .int w] : List Value).toArray s 0 0 A) (wN cI cZ ad E (C) (cS N 2 0 0)) [.ref (ad 0), .int u, .int a, .int b, .int d, .int w] 67 [] := by
    intro hok
    refine vV_iconst (v := 0) Cx dX4_tries_67 (by decide) ?_
    refine vV_istore Cx dX4_tries_68 (by decide) ?_
    refine L70 5 0 _ (by omega) (by omega) ?_
    refine vV_aload_n Cx 0 dX4_tries_96 rfl rfl ?_
    refine vU_get Cx hinX4 0 rfl rfl 6 (by decide) u2_233 rfl dX4_tries_97 ?_
    refine vV_iconst (v := 0) Cx dX4_tries_100 (by decide) ?_
    refine vV_iload_n Cx 2 dX4_tries_101 rfl rfl ?_
    refine vV_iast Cx 4 0 rfl rfl (by assumption) dX4_tries_102 nk_start ?_
    refine vV_iload_n Cx 1 dX4_tries_103 rfl rfl ?_
    refine vV_iconst (v := 1) Cx dX4_tries_104 (by decide) ?_
    refine vV_icmp_le (tgt := 115) Cx dX4_tries_105 (by decide) (fun h105 => ?_) (fun h105 => ?_)
    · have hm2 : ¬ 2 < u := fun hh => h105 (Int32.lt_trans (by decide) hh)
      refine vV_iload_n Cx 1 dX4_tries_115 rfl rfl ?_
      refine vV_iconst (v := 2) Cx dX4_tries_116 (by decide) ?_
      refine vV_icmp_le (tgt := 128) Cx dX4_tries_117 (by decide) (fun h117 => ?_) (fun h117 => ?_)
      · refine vV_ws (w1 := wN cI cZ ad (me_st E u a b d) C (m_sv E (cS N 2 0 0))) (by simp [-Int32.not_lt, me_st, h105, h117]; rfl) ?_
        refine vV_aload_n Cx 0 dX4_tries_128 rfl rfl ?_
        refine vV_callVv Cx (KX4_runAside (okE_6 (fun q hq => me_st_q E u a b d hq) ok)) (cwV 0 Cx.1.2.2.2.2 (uGV u3_182 u3_184 us_35 u1_7 u3_185) rfl rfl rfl hdX4_runAside ⟨Nat.le_of_ble_eq_true rfl, Nat.le_of_ble_eq_true rfl⟩) 0 rfl rfl rfl rfl (Nat.le_of_ble_eq_true rfl) ⟨Nat.zero_le _, Nat.zero_le _⟩ dX4_tries_129 ?_
        refine vV_iconst (v := 0) Cx dX4_tries_132 (by decide) ?_
        refine vV_istore Cx dX4_tries_133 (by decide) ?_
        refine L135 5 0 _ (by omega) (by omega) ?_
        refine vV_ws (w1 := wN cI cZ ad E C (mn_tries E n np C N u a b d)) (by rw [m_rst]) ?_
        refine vV_iload Cx dX4_tries_161 rfl ?_
        refine vV_if_ne (tgt := 173) Cx dX4_tries_163 (by decide) (fun h163 => ?_) (fun h163 => ?_)
        · refine vV_iload Cx dX4_tries_173 rfl ?_
          refine vV_iconst (v := 1) Cx dX4_tries_175 (by decide) ?_
          refine vV_icmp_ne (tgt := 186) Cx dX4_tries_176 (by decide) (fun h176 => ?_) (fun h176 => ?_)
          · refine vV_aload_n Cx 0 dX4_tries_186 rfl rfl ?_
            refine vU_get Cx hinX4 0 rfl rfl 18 (by decide) u3_5 rfl dX4_tries_187 ?_
            exact vV_iret Cx hr hlk dX4_tries_190 (by rw [ma_tries, if_neg hok]; simp [mn_tries, mn_21, mn_22, mn_23, h105, h117, h163, h176]) (by rw [if_neg hok])
          · refine vV_aload_n Cx 0 dX4_tries_179 rfl rfl ?_
            refine vU_get Cx hinX4 0 rfl rfl 17 (by decide) u3_4 rfl dX4_tries_180 ?_
            refine vV_goto (tgt := 190) Cx dX4_tries_183 (by decide) ?_
            exact vV_iret Cx hr hlk dX4_tries_190 (by rw [ma_tries, if_neg hok]; simp [mn_tries, mn_21, mn_22, mn_23, h105, h117, h163, h176]) (by rw [if_neg hok])
        · refine vV_aload_n Cx 0 dX4_tries_166 rfl rfl ?_
          refine vU_get Cx hinX4 0 rfl rfl 16 (by decide) u3_3 rfl dX4_tries_167 ?_
          refine vV_goto (tgt := 190) Cx dX4_tries_170 (by decide) ?_
          exact vV_iret Cx hr hlk dX4_tries_190 (by rw [ma_tries, if_neg hok]; simp [mn_tries, mn_21, mn_22, mn_23, h105, h117, h163]) (by rw [if_neg hok])
      · exact absurd h117 hm2
    · refine vV_aload_n Cx 0 dX4_tries_108 rfl rfl ?_
      refine vU_get Cx hinX4 0 rfl rfl 6 (by decide) u2_233 rfl dX4_tries_109 ?_
      refine vV_iconst (v := 1) Cx dX4_tries_112 (by decide) ?_
      refine vV_iload_n Cx 3 dX4_tries_113 rfl rfl ?_
      refine vV_iast Cx 4 0 rfl rfl (by assumption) dX4_tries_114 nk_start ?_
      refine vV_iload_n Cx 1 dX4_tries_115 rfl rfl ?_
      refine vV_iconst (v := 2) Cx dX4_tries_116 (by decide) ?_
      refine vV_icmp_le (tgt := 128) Cx dX4_tries_117 (by decide) (fun h117 => ?_) (fun h117 => ?_)
      · refine vV_ws (w1 := wN cI cZ ad (me_st E u a b d) C (m_sv E (cS N 2 0 0))) (by simp [-Int32.not_lt, me_st, h105, h117]; rfl) ?_
        refine vV_aload_n Cx 0 dX4_tries_128 rfl rfl ?_
        refine vV_callVv Cx (KX4_runAside (okE_6 (fun q hq => me_st_q E u a b d hq) ok)) (cwV 0 Cx.1.2.2.2.2 (uGV u3_182 u3_184 us_35 u1_7 u3_185) rfl rfl rfl hdX4_runAside ⟨Nat.le_of_ble_eq_true rfl, Nat.le_of_ble_eq_true rfl⟩) 0 rfl rfl rfl rfl (Nat.le_of_ble_eq_true rfl) ⟨Nat.zero_le _, Nat.zero_le _⟩ dX4_tries_129 ?_
        refine vV_iconst (v := 0) Cx dX4_tries_132 (by decide) ?_
        refine vV_istore Cx dX4_tries_133 (by decide) ?_
        refine L135 5 0 _ (by omega) (by omega) ?_
        refine vV_ws (w1 := wN cI cZ ad E C (mn_tries E n np C N u a b d)) (by rw [m_rst]) ?_
        refine vV_iload Cx dX4_tries_161 rfl ?_
        refine vV_if_ne (tgt := 173) Cx dX4_tries_163 (by decide) (fun h163 => ?_) (fun h163 => ?_)
        · refine vV_iload Cx dX4_tries_173 rfl ?_
          refine vV_iconst (v := 1) Cx dX4_tries_175 (by decide) ?_
          refine vV_icmp_ne (tgt := 186) Cx dX4_tries_176 (by decide) (fun h176 => ?_) (fun h176 => ?_)
          · refine vV_aload_n Cx 0 dX4_tries_186 rfl rfl ?_
            refine vU_get Cx hinX4 0 rfl rfl 18 (by decide) u3_5 rfl dX4_tries_187 ?_
            exact vV_iret Cx hr hlk dX4_tries_190 (by rw [ma_tries, if_neg hok]; simp [mn_tries, mn_21, mn_22, mn_23, h105, h117, h163, h176]) (by rw [if_neg hok])
          · refine vV_aload_n Cx 0 dX4_tries_179 rfl rfl ?_
            refine vU_get Cx hinX4 0 rfl rfl 17 (by decide) u3_4 rfl dX4_tries_180 ?_
            refine vV_goto (tgt := 190) Cx dX4_tries_183 (by decide) ?_
            exact vV_iret Cx hr hlk dX4_tries_190 (by rw [ma_tries, if_neg hok]; simp [mn_tries, mn_21, mn_22, mn_23, h105, h117, h163, h176]) (by rw [if_neg hok])
        · refine vV_aload_n Cx 0 dX4_tries_166 rfl rfl ?_
          refine vU_get Cx hinX4 0 rfl rfl 16 (by decide) u3_3 rfl dX4_tries_167 ?_
          refine vV_goto (tgt := 190) Cx dX4_tries_170 (by decide) ?_
          exact vV_iret Cx hr hlk dX4_tries_190 (by rw [ma_tries, if_neg hok]; simp [mn_tries, mn_21, mn_22, mn_23, h105, h117, h163]) (by rw [if_neg hok])
      · refine vV_aload_n Cx 0 dX4_tries_120 rfl rfl ?_
        refine vU_get Cx hinX4 0 rfl rfl 6 (by decide) u2_233 rfl dX4_tries_121 ?_
        refine vV_iconst (v := 2) Cx dX4_tries_124 (by decide) ?_
        refine vV_iload Cx dX4_tries_125 rfl ?_
        refine vV_iast Cx 4 0 rfl rfl (by assumption) dX4_tries_127 nk_start ?_
        refine vV_ws (w1 := wN cI cZ ad (me_st E u a b d) C (m_sv E (cS N 2 0 0))) (by simp [-Int32.not_lt, me_st, h105, h117]; rfl) ?_
        refine vV_aload_n Cx 0 dX4_tries_128 rfl rfl ?_
        refine vV_callVv Cx (KX4_runAside (okE_6 (fun q hq => me_st_q E u a b d hq) ok)) (cwV 0 Cx.1.2.2.2.2 (uGV u3_182 u3_184 us_35 u1_7 u3_185) rfl rfl rfl hdX4_runAside ⟨Nat.le_of_ble_eq_true rfl, Nat.le_of_ble_eq_true rfl⟩) 0 rfl rfl rfl rfl (Nat.le_of_ble_eq_true rfl) ⟨Nat.zero_le _, Nat.zero_le _⟩ dX4_tries_129 ?_
        refine vV_iconst (v := 0) Cx dX4_tries_132 (by decide) ?_
        refine vV_istore Cx dX4_tries_133 (by decide) ?_
        refine L135 5 0 _ (by omega) (by omega) ?_
        refine vV_ws (w1 := wN cI cZ ad E C (mn_tries E n np C N u a b d)) (by rw [m_rst]) ?_
        refine vV_iload Cx dX4_tries_161 rfl ?_
        refine vV_if_ne (tgt := 173) Cx dX4_tries_163 (by decide) (fun h163 => ?_) (fun h163 => ?_)
        · refine vV_iload Cx dX4_tries_173 rfl ?_
          refine vV_iconst (v := 1) Cx dX4_tries_175 (by decide) ?_
          refine vV_icmp_ne (tgt := 186) Cx dX4_tries_176 (by decide) (fun h176 => ?_) (fun h176 => ?_)
          · refine vV_aload_n Cx 0 dX4_tries_186 rfl rfl ?_
            refine vU_get Cx hinX4 0 rfl rfl 18 (by decide) u3_5 rfl dX4_tries_187 ?_
            exact vV_iret Cx hr hlk dX4_tries_190 (by rw [ma_tries, if_neg hok]; simp [mn_tries, mn_21, mn_22, mn_23, h105, h117, h163, h176]) (by rw [if_neg hok])
          · refine vV_aload_n Cx 0 dX4_tries_179 rfl rfl ?_
            refine vU_get Cx hinX4 0 rfl rfl 17 (by decide) u3_4 rfl dX4_tries_180 ?_
            refine vV_goto (tgt := 190) Cx dX4_tries_183 (by decide) ?_
            exact vV_iret Cx hr hlk dX4_tries_190 (by rw [ma_tries, if_neg hok]; simp [mn_tries, mn_21, mn_22, mn_23, h105, h117, h163, h176]) (by rw [if_neg hok])
        · refine vV_aload_n Cx 0 dX4_tries_166 rfl rfl ?_
          refine vU_get Cx hinX4 0 rfl rfl 16 (by decide) u3_3 rfl dX4_tries_167 ?_
          refine vV_goto (tgt := 190) Cx dX4_tries_170 (by decide) ?_
          exact vV_iret Cx hr hlk dX4_tries_190 (by rw [ma_tries, if_neg hok]; simp [mn_tries, mn_21, mn_22, mn_23, h105, h117, h163]) (by rw [if_neg hok])
  refine vV_aload_n Cx 0 dX4_tries_0 rfl rfl ?_
  refine vV_iconst (v := 0) Cx dX4_tries_1 (by decide) ?_
  refine vU_put Cx hinX4 tyX4_ok nmX4 0 rfl rfl 15 (by decide) u3_2 rfl (by decide +kernel) (Nat.le_of_ble_eq_true rfl) dX4_tries_2 np_thrown ?_
  refine vV_iload_n Cx 1 dX4_tries_5 rfl rfl ?_
  refine vV_iconst (v := 1) Cx dX4_tries_6 (by decide) ?_
  refine vV_iconst (v := 3) Cx dX4_tries_7 (by decide) ?_
  refine vV_callSi Cx (KX4_in (ad := ad) _ _ _ _) (cwS 3 Cx.1.2.2.2.2 (uGS u3_53 u3_54 u1_7 u3_55) rfl rfl rfl hdX4_in ⟨Nat.le_of_ble_eq_true rfl, Nat.le_of_ble_eq_true rfl⟩) rfl rfl (Nat.le_of_ble_eq_true rfl) ⟨Nat.zero_le _, Nat.zero_le _⟩ dX4_tries_8 ?_
  refine vV_if_eq (tgt := 65) Cx dX4_tries_11 (by decide) (fun h11 => ?_) (fun h11 => ?_)
  · refine vV_iconst (v := -1) Cx dX4_tries_65 (by decide) ?_
    exact vV_iret Cx hr hlk dX4_tries_66 (by simp [-Int32.not_lt, ma_tries, mr_tries, h11]) (by simp [-Int32.not_lt, mr_tries, h11])
  · refine vV_iload Cx dX4_tries_14 rfl ?_
    refine vV_iconst (v := 0) Cx dX4_tries_16 (by decide) ?_
    refine vV_iconst (v := 2) Cx dX4_tries_17 (by decide) ?_
    refine vV_callSi Cx (KX4_in (ad := ad) _ _ _ _) (cwS 3 Cx.1.2.2.2.2 (uGS u3_53 u3_54 u1_7 u3_55) rfl rfl rfl hdX4_in ⟨Nat.le_of_ble_eq_true rfl, Nat.le_of_ble_eq_true rfl⟩) rfl rfl (Nat.le_of_ble_eq_true rfl) ⟨Nat.zero_le _, Nat.zero_le _⟩ dX4_tries_18 ?_
    refine vV_if_eq (tgt := 65) Cx dX4_tries_21 (by decide) (fun h21 => ?_) (fun h21 => ?_)
    · refine vV_iconst (v := -1) Cx dX4_tries_65 (by decide) ?_
      exact vV_iret Cx hr hlk dX4_tries_66 (by simp [-Int32.not_lt, ma_tries, mr_tries, h11, h21]) (by simp [-Int32.not_lt, mr_tries, h11, h21])
    · refine vV_iload_n Cx 2 dX4_tries_24 rfl rfl ?_
      refine vV_iconst (v := 0) Cx dX4_tries_25 (by decide) ?_
      refine vV_bipush (v := 10) Cx dX4_tries_26 (by decide) ?_
      refine vV_callSi Cx (KX4_in (ad := ad) _ _ _ _) (cwS 3 Cx.1.2.2.2.2 (uGS u3_53 u3_54 u1_7 u3_55) rfl rfl rfl hdX4_in ⟨Nat.le_of_ble_eq_true rfl, Nat.le_of_ble_eq_true rfl⟩) rfl rfl (Nat.le_of_ble_eq_true rfl) ⟨Nat.zero_le _, Nat.zero_le _⟩ dX4_tries_28 ?_
      refine vV_if_eq (tgt := 65) Cx dX4_tries_31 (by decide) (fun h31 => ?_) (fun h31 => ?_)
      · refine vV_iconst (v := -1) Cx dX4_tries_65 (by decide) ?_
        exact vV_iret Cx hr hlk dX4_tries_66 (by simp [-Int32.not_lt, ma_tries, mr_tries, h11, h21, h31]) (by simp [-Int32.not_lt, mr_tries, h11, h21, h31])
      · refine vV_iload_n Cx 1 dX4_tries_34 rfl rfl ?_
        refine vV_iconst (v := 1) Cx dX4_tries_35 (by decide) ?_
        refine vV_icmp_le (tgt := 49) Cx dX4_tries_36 (by decide) (fun h36 => ?_) (fun h36 => ?_)
        · refine vV_iload_n Cx 1 dX4_tries_49 rfl rfl ?_
          refine vV_iconst (v := 2) Cx dX4_tries_50 (by decide) ?_
          refine vV_icmp_le (tgt := 67) Cx dX4_tries_51 (by decide) (fun h51 => ?_) (fun h51 => ?_)
          · exact S67 (by simp [-Int32.not_lt, mr_tries, h11, h21, h31, h36, h51])
          · refine vV_iload Cx dX4_tries_54 rfl ?_
            refine vV_iconst (v := 0) Cx dX4_tries_56 (by decide) ?_
            refine vV_bipush (v := 10) Cx dX4_tries_57 (by decide) ?_
            refine vV_callSi Cx (KX4_in (ad := ad) _ _ _ _) (cwS 3 Cx.1.2.2.2.2 (uGS u3_53 u3_54 u1_7 u3_55) rfl rfl rfl hdX4_in ⟨Nat.le_of_ble_eq_true rfl, Nat.le_of_ble_eq_true rfl⟩) rfl rfl (Nat.le_of_ble_eq_true rfl) ⟨Nat.zero_le _, Nat.zero_le _⟩ dX4_tries_59 ?_
            refine vV_if_ne (tgt := 67) Cx dX4_tries_62 (by decide) (fun h62 => ?_) (fun h62 => ?_)
            · exact S67 (by simp [-Int32.not_lt, mr_tries, h11, h21, h31, h36, h51, h62])
            · refine vV_iconst (v := -1) Cx dX4_tries_65 (by decide) ?_
              exact vV_iret Cx hr hlk dX4_tries_66 (by simp [-Int32.not_lt, ma_tries, mr_tries, h11, h21, h31, h36, h51, h62]) (by simp [-Int32.not_lt, mr_tries, h11, h21, h31, h36, h51, h62])
        · refine vV_iload_n Cx 3 dX4_tries_39 rfl rfl ?_
          refine vV_iconst (v := 0) Cx dX4_tries_40 (by decide) ?_
          refine vV_bipush (v := 10) Cx dX4_tries_41 (by decide) ?_
          refine vV_callSi Cx (KX4_in (ad := ad) _ _ _ _) (cwS 3 Cx.1.2.2.2.2 (uGS u3_53 u3_54 u1_7 u3_55) rfl rfl rfl hdX4_in ⟨Nat.le_of_ble_eq_true rfl, Nat.le_of_ble_eq_true rfl⟩) rfl rfl (Nat.le_of_ble_eq_true rfl) ⟨Nat.zero_le _, Nat.zero_le _⟩ dX4_tries_43 ?_
          refine vV_if_eq (tgt := 65) Cx dX4_tries_46 (by decide) (fun h46 => ?_) (fun h46 => ?_)
          · refine vV_iconst (v := -1) Cx dX4_tries_65 (by decide) ?_
            exact vV_iret Cx hr hlk dX4_tries_66 (by simp [-Int32.not_lt, ma_tries, mr_tries, h11, h21, h31, h36, h46]) (by simp [-Int32.not_lt, mr_tries, h11, h21, h31, h36, h46])
          · refine vV_iload_n Cx 1 dX4_tries_49 rfl rfl ?_
            refine vV_iconst (v := 2) Cx dX4_tries_50 (by decide) ?_
            refine vV_icmp_le (tgt := 67) Cx dX4_tries_51 (by decide) (fun h51 => ?_) (fun h51 => ?_)
            · exact S67 (by simp [-Int32.not_lt, mr_tries, h11, h21, h31, h36, h46, h51])
            · refine vV_iload Cx dX4_tries_54 rfl ?_
              refine vV_iconst (v := 0) Cx dX4_tries_56 (by decide) ?_
              refine vV_bipush (v := 10) Cx dX4_tries_57 (by decide) ?_
              refine vV_callSi Cx (KX4_in (ad := ad) _ _ _ _) (cwS 3 Cx.1.2.2.2.2 (uGS u3_53 u3_54 u1_7 u3_55) rfl rfl rfl hdX4_in ⟨Nat.le_of_ble_eq_true rfl, Nat.le_of_ble_eq_true rfl⟩) rfl rfl (Nat.le_of_ble_eq_true rfl) ⟨Nat.zero_le _, Nat.zero_le _⟩ dX4_tries_59 ?_
              refine vV_if_ne (tgt := 67) Cx dX4_tries_62 (by decide) (fun h62 => ?_) (fun h62 => ?_)
              · exact S67 (by simp [-Int32.not_lt, mr_tries, h11, h21, h31, h36, h46, h51, h62])
              · refine vV_iconst (v := -1) Cx dX4_tries_65 (by decide) ?_
                exact vV_iret Cx hr hlk dX4_tries_66 (by simp [-Int32.not_lt, ma_tries, mr_tries, h11, h21, h31, h36, h46, h51, h62]) (by simp [-Int32.not_lt, mr_tries, h11, h21, h31, h36, h46, h51, h62])
def m_more (ts td tw mo sd wt : Int32) : Int32 := if mo < ts then 1 else if ts = mo then (if td < sd then 1 else if td = sd then (if tw < wt then 1 else 0) else 0) else 0
abbrev q4 : Type := Int32 × Int32 × Int32 × Int32
def m_pk (n : Nat) (Z : mT) (p : Nat) (s : q4) : q4 := if s.1 = -1 ∨ ¬ m_more (c_sum n Z) (c_inS n 4 Z) (c_wts n Z) s.2.1 s.2.2.1 s.2.2.2 = 0 then (nI p, c_sum n Z, c_inS n 4 Z, c_wts n Z) else s
def m_pls (n np k : Nat) (C : mT) : Nat → Nat → q4 → mT → mT → q4 × mT × mT
  | 0, _, s, E, N => (s, E, N)
  | f + 1, p, s, E, N => m_pls n np k C f (p + 1) (m_pk n (m_tr (m_tell k p E) n np C) p s) (m_tell k p E) (m_as (m_tell k p E) n np C N)
def m_all (E : mT) (n np k : Nat) (C N : mT) : q4 × mT × mT := m_pls n np k C (6 ^ k) 0 (-1, 0, 0, 0) E N
theorem m_pls_ok (n np k : Nat) (C : mT) : ∀ (f p : Nat) (s : q4) (E N : mT) (q : Nat), q ≠ 6 → (m_pls n np k C f p s E N).2.1 q = E q := by
  intro f
  induction f with
  | zero => intro p s E N q _; rfl
  | succ f ih => intro p s E N q h; rw [m_pls, ih _ _ _ _ _ h, m_tell_q _ _ _ _ h]
theorem m_pls_ix (n np k : Nat) (C : mT) (K : Nat) : ∀ (f p : Nat) (s : q4) (E N : mT), p + f ≤ K → (f = 0 → ∃ B, B < K ∧ s.1 = nI B) → (s.1 = -1 ∨ ∃ B, B < K ∧ s.1 = nI B) → ∃ B, B < K ∧ (m_pls n np k C f p s E N).1.1 = nI B := by
  intro f
  induction f with
  | zero => intro p s E N _ h _; exact h rfl
  | succ f ih =>
    intro p s E N hk h0 h
    rw [m_pls]
    have hs : ∃ B, B < K ∧ (m_pk n (m_tr (m_tell k p E) n np C) p s).1 = nI B := by
      unfold m_pk
      split
      · exact ⟨p, by omega, rfl⟩
      · rename_i h2
        exact h.resolve_left (fun q => h2 (Or.inl q))
    exact ih _ _ _ _ (by omega) (fun _ => hs) (Or.inr hs)
def me_plan (E : mT) (n np k : Nat) (C N : mT) : mT := m_tell k (m_all E n np k C N).1.1.toNatClampNeg (m_all E n np k C N).2.1
theorem m_all_ix (E : mT) (n np k : Nat) (C N : mT) : ∃ B, B < 6 ^ k ∧ (m_all E n np k C N).1.1 = nI B := by
  have h0 : 0 < 6 ^ k := Nat.pow_pos (by decide)
  exact m_pls_ix n np k C (6 ^ k) (6 ^ k) 0 (-1, 0, 0, 0) E N (by omega) (fun h => absurd h (by omega)) (Or.inl rfl)
abbrev rX4_plan : Room := { frames := 6, cells := 0, slots := 0, locals := 135 }
set_option maxRecDepth 100000 in
set_option maxHeartbeats 600000 in
theorem KX4_plan {l : Launch} {D : va_G} {cI cZ : ClassId} {ad : Nat → Nat} {A : Nat → Prop} {E C N : mT} {n np : Nat} (ok : okE E n np) {k : Nat} (hk1 : 1 ≤ k) (hk : k ≤ 3) : vKi l D (vtys cI cZ) A yX4_plan (uT yX4_plan cX4_plan 9 (some .int)) rX4_plan (wN cI cZ ad E (C) (N)) [.ref (ad 0), .int (nI k)] ((m_all E n np k C (cS N 2 0 0)).1.2.1) (wN cI cZ ad (me_plan E n np k C (cS N 2 0 0)) (m_beg (me_plan E n np k C (cS N 2 0 0)) n C) (m_all E n np k C (cS N 2 0 0)).2.2) := by
  refine vKi_of (cc := cX4_plan) (maxL := 9) (ret := some .int) (by decide) rfl rfl (Nat.le_of_ble_eq_true rfl) ?_
  intro p e s m below meth c Cx hr hlk
  have h216 : 6 ^ k ≤ 216 := Nat.pow_le_pow_right (n := 6) (by decide) hk
  obtain ⟨B, hB, hB2⟩ := m_all_ix E n np k C (cS N 2 0 0)
  have L54 : ∀ (fuel i : Nat) (b mo sd wt : Int32) (Y M : mT), okE Y n np → i ≤ 6 ^ k → 6 ^ k - i < fuel → m_pls n np k C (6 ^ k - i) i (b, mo, sd, wt) Y M = m_all E n np k C (cS N 2 0 0) → vV D (vtys cI cZ) A 9 p l e rX4_plan s m ([.ref (ad 0), .int (nI k)] : List Value).toArray below meth c 0 0 (MQ below (vQi D A ((m_all E n np k C (cS N 2 0 0)).1.2.1) (wN cI cZ ad (me_plan E n np k C (cS N 2 0 0)) (m_beg (me_plan E n np k C (cS N 2 0 0)) n C) (m_all E n np k C (cS N 2 0 0)).2.2)) ([.ref (ad 0), .int (nI k)] : List Value).toArray s 0 0 A) (wN cI cZ ad Y C M) [.ref (ad 0), .int (nI k), .int (nI (6 ^ k)), .int b, .int mo, .int sd, .int wt, .int (nI i)] 54 [] := by
    intro fuel
    induction fuel with
    | zero => intro i b mo sd wt Y M _ h1 h2; exact absurd h2 (Nat.not_lt_zero _)
    | succ fuel ih =>
      intro i b mo sd wt Y M okY h1 h2 h3
      refine vV_iload Cx dX4_plan_54 rfl ?_
      refine vV_iload_n Cx 2 dX4_plan_56 rfl rfl ?_
      refine vV_icmp_ge (tgt := 163) Cx dX4_plan_57 (by decide) (fun h57 => ?_) (fun h57 => ?_)
      · have hin := vix_ge h57 (by omega) h1
        rw [hin, Nat.sub_self, m_pls] at h3
        have hbi : b = nI B := (congrArg (fun z => z.1.1) h3).trans hB2
        have hYe : Y = (m_all E n np k C (cS N 2 0 0)).2.1 := congrArg (fun z => z.2.1) h3
        refine vV_aload_n Cx 0 dX4_plan_163 rfl rfl ?_
        refine vV_iload_n Cx 1 dX4_plan_164 rfl rfl ?_
        refine vV_iload_n Cx 3 dX4_plan_165 rfl rfl ?_
        rw [hbi]
        refine vV_callVv Cx (KX4_tell (q := B) (by omega) hk) (cwV 2 Cx.1.2.2.2.2 (uGV u3_190 u3_192 us_36 u1_7 u3_193) rfl rfl rfl hdX4_tell ⟨Nat.le_of_ble_eq_true rfl, Nat.le_of_ble_eq_true rfl⟩) 0 rfl rfl rfl rfl (Nat.le_of_ble_eq_true rfl) ⟨Nat.zero_le _, Nat.zero_le _⟩ dX4_plan_166 ?_
        refine vV_aload_n Cx 0 dX4_plan_169 rfl rfl ?_
        refine vV_callVv Cx (KX4_beginAll (okE_6 (fun q hq => m_tell_q k B Y q hq) okY).1 ok.2.1) (cwV 0 Cx.1.2.2.2.2 (uGV u3_57 u3_59 us_17 u1_7 u3_60) rfl rfl rfl hdX4_beginAll ⟨Nat.le_of_ble_eq_true rfl, Nat.le_of_ble_eq_true rfl⟩) 0 rfl rfl rfl rfl (Nat.le_of_ble_eq_true rfl) ⟨Nat.zero_le _, Nat.zero_le _⟩ dX4_plan_170 ?_
        refine vV_iload Cx dX4_plan_173 rfl ?_
        exact vV_iret Cx hr hlk dX4_plan_175 (by exact congrArg (fun z => z.1.2.1) h3) (by rw [me_plan, hYe, hB2, nI_clamp (by omega), show M = _ from congrArg (fun z => z.2.2) h3])
      · have hlt := vix_lt h57 (by omega) h1
        rw [show 6 ^ k - i = (6 ^ k - (i + 1)) + 1 by omega, m_pls] at h3
        have okY2 := okE_6 (fun q hq => m_tell_q k i Y q hq) okY
        refine vV_aload_n Cx 0 dX4_plan_60 rfl rfl ?_
        refine vV_iload_n Cx 1 dX4_plan_61 rfl rfl ?_
        refine vV_iload Cx dX4_plan_62 rfl ?_
        refine vV_callVv Cx (KX4_tell (by omega) hk) (cwV 2 Cx.1.2.2.2.2 (uGV u3_190 u3_192 us_36 u1_7 u3_193) rfl rfl rfl hdX4_tell ⟨Nat.le_of_ble_eq_true rfl, Nat.le_of_ble_eq_true rfl⟩) 0 rfl rfl rfl rfl (Nat.le_of_ble_eq_true rfl) ⟨Nat.zero_le _, Nat.zero_le _⟩ dX4_plan_64 ?_
        refine vV_aload_n Cx 0 dX4_plan_67 rfl rfl ?_
        refine vV_callVv Cx (KX4_runAside okY2) (cwV 0 Cx.1.2.2.2.2 (uGV u3_182 u3_184 us_35 u1_7 u3_185) rfl rfl rfl hdX4_runAside ⟨Nat.le_of_ble_eq_true rfl, Nat.le_of_ble_eq_true rfl⟩) 0 rfl rfl rfl rfl (Nat.le_of_ble_eq_true rfl) ⟨Nat.zero_le _, Nat.zero_le _⟩ dX4_plan_68 ?_
        refine vV_aload_n Cx 0 dX4_plan_71 rfl rfl ?_
        refine vU_get Cx hinX4 0 rfl rfl 16 (by decide) u3_3 rfl dX4_plan_72 ?_
        refine vV_iload Cx dX4_plan_75 rfl ?_
        refine vV_icmp_gt (tgt := 116) Cx dX4_plan_77 (by decide) (fun h77 => ?_) (fun h77 => ?_)
        · refine vV_iconst (v := 1) Cx dX4_plan_116 (by decide) ?_
          refine vV_goto (tgt := 121) Cx dX4_plan_117 (by decide) ?_
          refine vV_istore Cx dX4_plan_121 (by decide) ?_
          refine vV_iload_n Cx 3 dX4_plan_123 rfl rfl ?_
          refine vV_iconst (v := -1) Cx dX4_plan_124 (by decide) ?_
          refine vV_icmp_eq (tgt := 136) Cx dX4_plan_125 (by decide) (fun h125 => ?_) (fun h125 => ?_)
          · refine vV_iload Cx dX4_plan_136 rfl ?_
            refine vV_istore_n Cx 3 dX4_plan_138 rfl (by decide) ?_
            refine vV_aload_n Cx 0 dX4_plan_139 rfl rfl ?_
            refine vU_get Cx hinX4 0 rfl rfl 16 (by decide) u3_3 rfl dX4_plan_140 ?_
            refine vV_istore Cx dX4_plan_143 (by decide) ?_
            refine vV_aload_n Cx 0 dX4_plan_145 rfl rfl ?_
            refine vU_get Cx hinX4 0 rfl rfl 17 (by decide) u3_4 rfl dX4_plan_146 ?_
            refine vV_istore Cx dX4_plan_149 (by decide) ?_
            refine vV_aload_n Cx 0 dX4_plan_151 rfl rfl ?_
            refine vU_get Cx hinX4 0 rfl rfl 18 (by decide) u3_5 rfl dX4_plan_152 ?_
            refine vV_istore Cx dX4_plan_155 (by decide) ?_
            refine vV_iinc Cx dX4_plan_157 rfl (vinc _) (by decide) ?_
            refine vV_goto (tgt := 54) Cx dX4_plan_160 (by decide) ?_
            refine vV_take 8 rfl ?_
            simp only [mn_21, mn_22, mn_23] at *
            exact ih (i + 1) _ _ _ _ _ _ okY2 (by omega) (by omega) (by rw [← h3]; congr 1; clear Cx hr hlk ih; simp_all [-Int32.not_lt, -Int32.not_le, m_pk, m_more])
          · refine vV_iload Cx dX4_plan_128 rfl ?_
            refine vV_if_ne (tgt := 136) Cx dX4_plan_130 (by decide) (fun h130 => ?_) (fun h130 => ?_)
            · refine vV_iload Cx dX4_plan_136 rfl ?_
              refine vV_istore_n Cx 3 dX4_plan_138 rfl (by decide) ?_
              refine vV_aload_n Cx 0 dX4_plan_139 rfl rfl ?_
              refine vU_get Cx hinX4 0 rfl rfl 16 (by decide) u3_3 rfl dX4_plan_140 ?_
              refine vV_istore Cx dX4_plan_143 (by decide) ?_
              refine vV_aload_n Cx 0 dX4_plan_145 rfl rfl ?_
              refine vU_get Cx hinX4 0 rfl rfl 17 (by decide) u3_4 rfl dX4_plan_146 ?_
              refine vV_istore Cx dX4_plan_149 (by decide) ?_
              refine vV_aload_n Cx 0 dX4_plan_151 rfl rfl ?_
              refine vU_get Cx hinX4 0 rfl rfl 18 (by decide) u3_5 rfl dX4_plan_152 ?_
              refine vV_istore Cx dX4_plan_155 (by decide) ?_
              refine vV_iinc Cx dX4_plan_157 rfl (vinc _) (by decide) ?_
              refine vV_goto (tgt := 54) Cx dX4_plan_160 (by decide) ?_
              refine vV_take 8 rfl ?_
              simp only [mn_21, mn_22, mn_23] at *
              exact ih (i + 1) _ _ _ _ _ _ okY2 (by omega) (by omega) (by rw [← h3]; congr 1; clear Cx hr hlk ih; simp_all [-Int32.not_lt, -Int32.not_le, m_pk, m_more])
            · exact absurd h130 (by decide)
        · refine vV_aload_n Cx 0 dX4_plan_80 rfl rfl ?_
          refine vU_get Cx hinX4 0 rfl rfl 16 (by decide) u3_3 rfl dX4_plan_81 ?_
          refine vV_iload Cx dX4_plan_84 rfl ?_
          refine vV_icmp_ne (tgt := 120) Cx dX4_plan_86 (by decide) (fun h86 => ?_) (fun h86 => ?_)
          · refine vV_iconst (v := 0) Cx dX4_plan_120 (by decide) ?_
            refine vV_istore Cx dX4_plan_121 (by decide) ?_
            refine vV_iload_n Cx 3 dX4_plan_123 rfl rfl ?_
            refine vV_iconst (v := -1) Cx dX4_plan_124 (by decide) ?_
            refine vV_icmp_eq (tgt := 136) Cx dX4_plan_125 (by decide) (fun h125 => ?_) (fun h125 => ?_)
            · refine vV_iload Cx dX4_plan_136 rfl ?_
              refine vV_istore_n Cx 3 dX4_plan_138 rfl (by decide) ?_
              refine vV_aload_n Cx 0 dX4_plan_139 rfl rfl ?_
              refine vU_get Cx hinX4 0 rfl rfl 16 (by decide) u3_3 rfl dX4_plan_140 ?_
              refine vV_istore Cx dX4_plan_143 (by decide) ?_
              refine vV_aload_n Cx 0 dX4_plan_145 rfl rfl ?_
              refine vU_get Cx hinX4 0 rfl rfl 17 (by decide) u3_4 rfl dX4_plan_146 ?_
              refine vV_istore Cx dX4_plan_149 (by decide) ?_
              refine vV_aload_n Cx 0 dX4_plan_151 rfl rfl ?_
              refine vU_get Cx hinX4 0 rfl rfl 18 (by decide) u3_5 rfl dX4_plan_152 ?_
              refine vV_istore Cx dX4_plan_155 (by decide) ?_
              refine vV_iinc Cx dX4_plan_157 rfl (vinc _) (by decide) ?_
              refine vV_goto (tgt := 54) Cx dX4_plan_160 (by decide) ?_
              refine vV_take 8 rfl ?_
              simp only [mn_21, mn_22, mn_23] at *
              exact ih (i + 1) _ _ _ _ _ _ okY2 (by omega) (by omega) (by rw [← h3]; congr 1; clear Cx hr hlk ih; simp_all [-Int32.not_lt, -Int32.not_le, m_pk, m_more])
            · refine vV_iload Cx dX4_plan_128 rfl ?_
              refine vV_if_ne (tgt := 136) Cx dX4_plan_130 (by decide) (fun h130 => ?_) (fun h130 => ?_)
              · exact absurd rfl h130
              · refine vV_goto (tgt := 157) Cx dX4_plan_133 (by decide) ?_
                refine vV_iinc Cx dX4_plan_157 rfl (vinc _) (by decide) ?_
                refine vV_goto (tgt := 54) Cx dX4_plan_160 (by decide) ?_
                refine vV_take 8 rfl ?_
                simp only [mn_21, mn_22, mn_23] at *
                exact ih (i + 1) _ _ _ _ _ _ okY2 (by omega) (by omega) (by rw [← h3]; congr 1; clear Cx hr hlk ih; simp_all [-Int32.not_lt, -Int32.not_le, m_pk, m_more])
          · refine vV_aload_n Cx 0 dX4_plan_89 rfl rfl ?_
            refine vU_get Cx hinX4 0 rfl rfl 17 (by decide) u3_4 rfl dX4_plan_90 ?_
            refine vV_iload Cx dX4_plan_93 rfl ?_
            refine vV_icmp_lt (tgt := 116) Cx dX4_plan_95 (by decide) (fun h95 => ?_) (fun h95 => ?_)
            · refine vV_iconst (v := 1) Cx dX4_plan_116 (by decide) ?_
              refine vV_goto (tgt := 121) Cx dX4_plan_117 (by decide) ?_
              refine vV_istore Cx dX4_plan_121 (by decide) ?_
              refine vV_iload_n Cx 3 dX4_plan_123 rfl rfl ?_
              refine vV_iconst (v := -1) Cx dX4_plan_124 (by decide) ?_
              refine vV_icmp_eq (tgt := 136) Cx dX4_plan_125 (by decide) (fun h125 => ?_) (fun h125 => ?_)
              · refine vV_iload Cx dX4_plan_136 rfl ?_
                refine vV_istore_n Cx 3 dX4_plan_138 rfl (by decide) ?_
                refine vV_aload_n Cx 0 dX4_plan_139 rfl rfl ?_
                refine vU_get Cx hinX4 0 rfl rfl 16 (by decide) u3_3 rfl dX4_plan_140 ?_
                refine vV_istore Cx dX4_plan_143 (by decide) ?_
                refine vV_aload_n Cx 0 dX4_plan_145 rfl rfl ?_
                refine vU_get Cx hinX4 0 rfl rfl 17 (by decide) u3_4 rfl dX4_plan_146 ?_
                refine vV_istore Cx dX4_plan_149 (by decide) ?_
                refine vV_aload_n Cx 0 dX4_plan_151 rfl rfl ?_
                refine vU_get Cx hinX4 0 rfl rfl 18 (by decide) u3_5 rfl dX4_plan_152 ?_
                refine vV_istore Cx dX4_plan_155 (by decide) ?_
                refine vV_iinc Cx dX4_plan_157 rfl (vinc _) (by decide) ?_
                refine vV_goto (tgt := 54) Cx dX4_plan_160 (by decide) ?_
                refine vV_take 8 rfl ?_
                simp only [mn_21, mn_22, mn_23] at *
                exact ih (i + 1) _ _ _ _ _ _ okY2 (by omega) (by omega) (by rw [← h3]; congr 1; clear Cx hr hlk ih; simp_all [-Int32.not_lt, -Int32.not_le, m_pk, m_more])
              · refine vV_iload Cx dX4_plan_128 rfl ?_
                refine vV_if_ne (tgt := 136) Cx dX4_plan_130 (by decide) (fun h130 => ?_) (fun h130 => ?_)
                · refine vV_iload Cx dX4_plan_136 rfl ?_
                  refine vV_istore_n Cx 3 dX4_plan_138 rfl (by decide) ?_
                  refine vV_aload_n Cx 0 dX4_plan_139 rfl rfl ?_
                  refine vU_get Cx hinX4 0 rfl rfl 16 (by decide) u3_3 rfl dX4_plan_140 ?_
                  refine vV_istore Cx dX4_plan_143 (by decide) ?_
                  refine vV_aload_n Cx 0 dX4_plan_145 rfl rfl ?_
                  refine vU_get Cx hinX4 0 rfl rfl 17 (by decide) u3_4 rfl dX4_plan_146 ?_
                  refine vV_istore Cx dX4_plan_149 (by decide) ?_
                  refine vV_aload_n Cx 0 dX4_plan_151 rfl rfl ?_
                  refine vU_get Cx hinX4 0 rfl rfl 18 (by decide) u3_5 rfl dX4_plan_152 ?_
                  refine vV_istore Cx dX4_plan_155 (by decide) ?_
                  refine vV_iinc Cx dX4_plan_157 rfl (vinc _) (by decide) ?_
                  refine vV_goto (tgt := 54) Cx dX4_plan_160 (by decide) ?_
                  refine vV_take 8 rfl ?_
                  simp only [mn_21, mn_22, mn_23] at *
                  exact ih (i + 1) _ _ _ _ _ _ okY2 (by omega) (by omega) (by rw [← h3]; congr 1; clear Cx hr hlk ih; simp_all [-Int32.not_lt, -Int32.not_le, m_pk, m_more])
                · exact absurd h130 (by decide)
            · refine vV_aload_n Cx 0 dX4_plan_98 rfl rfl ?_
              refine vU_get Cx hinX4 0 rfl rfl 17 (by decide) u3_4 rfl dX4_plan_99 ?_
              refine vV_iload Cx dX4_plan_102 rfl ?_
              refine vV_icmp_ne (tgt := 120) Cx dX4_plan_104 (by decide) (fun h104 => ?_) (fun h104 => ?_)
              · refine vV_iconst (v := 0) Cx dX4_plan_120 (by decide) ?_
                refine vV_istore Cx dX4_plan_121 (by decide) ?_
                refine vV_iload_n Cx 3 dX4_plan_123 rfl rfl ?_
                refine vV_iconst (v := -1) Cx dX4_plan_124 (by decide) ?_
                refine vV_icmp_eq (tgt := 136) Cx dX4_plan_125 (by decide) (fun h125 => ?_) (fun h125 => ?_)
                · refine vV_iload Cx dX4_plan_136 rfl ?_
                  refine vV_istore_n Cx 3 dX4_plan_138 rfl (by decide) ?_
                  refine vV_aload_n Cx 0 dX4_plan_139 rfl rfl ?_
                  refine vU_get Cx hinX4 0 rfl rfl 16 (by decide) u3_3 rfl dX4_plan_140 ?_
                  refine vV_istore Cx dX4_plan_143 (by decide) ?_
                  refine vV_aload_n Cx 0 dX4_plan_145 rfl rfl ?_
                  refine vU_get Cx hinX4 0 rfl rfl 17 (by decide) u3_4 rfl dX4_plan_146 ?_
                  refine vV_istore Cx dX4_plan_149 (by decide) ?_
                  refine vV_aload_n Cx 0 dX4_plan_151 rfl rfl ?_
                  refine vU_get Cx hinX4 0 rfl rfl 18 (by decide) u3_5 rfl dX4_plan_152 ?_
                  refine vV_istore Cx dX4_plan_155 (by decide) ?_
                  refine vV_iinc Cx dX4_plan_157 rfl (vinc _) (by decide) ?_
                  refine vV_goto (tgt := 54) Cx dX4_plan_160 (by decide) ?_
                  refine vV_take 8 rfl ?_
                  simp only [mn_21, mn_22, mn_23] at *
                  exact ih (i + 1) _ _ _ _ _ _ okY2 (by omega) (by omega) (by rw [← h3]; congr 1; clear Cx hr hlk ih; simp_all [-Int32.not_lt, -Int32.not_le, m_pk, m_more])
                · refine vV_iload Cx dX4_plan_128 rfl ?_
                  refine vV_if_ne (tgt := 136) Cx dX4_plan_130 (by decide) (fun h130 => ?_) (fun h130 => ?_)
                  · exact absurd rfl h130
                  · refine vV_goto (tgt := 157) Cx dX4_plan_133 (by decide) ?_
                    refine vV_iinc Cx dX4_plan_157 rfl (vinc _) (by decide) ?_
                    refine vV_goto (tgt := 54) Cx dX4_plan_160 (by decide) ?_
                    refine vV_take 8 rfl ?_
                    simp only [mn_21, mn_22, mn_23] at *
                    exact ih (i + 1) _ _ _ _ _ _ okY2 (by omega) (by omega) (by rw [← h3]; congr 1; clear Cx hr hlk ih; simp_all [-Int32.not_lt, -Int32.not_le, m_pk, m_more])
              · refine vV_aload_n Cx 0 dX4_plan_107 rfl rfl ?_
                refine vU_get Cx hinX4 0 rfl rfl 18 (by decide) u3_5 rfl dX4_plan_108 ?_
                refine vV_iload Cx dX4_plan_111 rfl ?_
                refine vV_icmp_ge (tgt := 120) Cx dX4_plan_113 (by decide) (fun h113 => ?_) (fun h113 => ?_)
                · refine vV_iconst (v := 0) Cx dX4_plan_120 (by decide) ?_
                  refine vV_istore Cx dX4_plan_121 (by decide) ?_
                  refine vV_iload_n Cx 3 dX4_plan_123 rfl rfl ?_
                  refine vV_iconst (v := -1) Cx dX4_plan_124 (by decide) ?_
                  refine vV_icmp_eq (tgt := 136) Cx dX4_plan_125 (by decide) (fun h125 => ?_) (fun h125 => ?_)
                  · refine vV_iload Cx dX4_plan_136 rfl ?_
                    refine vV_istore_n Cx 3 dX4_plan_138 rfl (by decide) ?_
                    refine vV_aload_n Cx 0 dX4_plan_139 rfl rfl ?_
                    refine vU_get Cx hinX4 0 rfl rfl 16 (by decide) u3_3 rfl dX4_plan_140 ?_
                    refine vV_istore Cx dX4_plan_143 (by decide) ?_
                    refine vV_aload_n Cx 0 dX4_plan_145 rfl rfl ?_
                    refine vU_get Cx hinX4 0 rfl rfl 17 (by decide) u3_4 rfl dX4_plan_146 ?_
                    refine vV_istore Cx dX4_plan_149 (by decide) ?_
                    refine vV_aload_n Cx 0 dX4_plan_151 rfl rfl ?_
                    refine vU_get Cx hinX4 0 rfl rfl 18 (by decide) u3_5 rfl dX4_plan_152 ?_
                    refine vV_istore Cx dX4_plan_155 (by decide) ?_
                    refine vV_iinc Cx dX4_plan_157 rfl (vinc _) (by decide) ?_
                    refine vV_goto (tgt := 54) Cx dX4_plan_160 (by decide) ?_
                    refine vV_take 8 rfl ?_
                    simp only [mn_21, mn_22, mn_23] at *
                    exact ih (i + 1) _ _ _ _ _ _ okY2 (by omega) (by omega) (by rw [← h3]; congr 1; clear Cx hr hlk ih; simp_all [-Int32.not_lt, -Int32.not_le, m_pk, m_more])
                  · refine vV_iload Cx dX4_plan_128 rfl ?_
                    refine vV_if_ne (tgt := 136) Cx dX4_plan_130 (by decide) (fun h130 => ?_) (fun h130 => ?_)
                    · exact absurd rfl h130
                    · refine vV_goto (tgt := 157) Cx dX4_plan_133 (by decide) ?_
                      refine vV_iinc Cx dX4_plan_157 rfl (vinc _) (by decide) ?_
                      refine vV_goto (tgt := 54) Cx dX4_plan_160 (by decide) ?_
                      refine vV_take 8 rfl ?_
                      simp only [mn_21, mn_22, mn_23] at *
                      exact ih (i + 1) _ _ _ _ _ _ okY2 (by omega) (by omega) (by rw [← h3]; congr 1; clear Cx hr hlk ih; simp_all [-Int32.not_lt, -Int32.not_le, m_pk, m_more])
                · refine vV_iconst (v := 1) Cx dX4_plan_116 (by decide) ?_
                  refine vV_goto (tgt := 121) Cx dX4_plan_117 (by decide) ?_
                  refine vV_istore Cx dX4_plan_121 (by decide) ?_
                  refine vV_iload_n Cx 3 dX4_plan_123 rfl rfl ?_
                  refine vV_iconst (v := -1) Cx dX4_plan_124 (by decide) ?_
                  refine vV_icmp_eq (tgt := 136) Cx dX4_plan_125 (by decide) (fun h125 => ?_) (fun h125 => ?_)
                  · refine vV_iload Cx dX4_plan_136 rfl ?_
                    refine vV_istore_n Cx 3 dX4_plan_138 rfl (by decide) ?_
                    refine vV_aload_n Cx 0 dX4_plan_139 rfl rfl ?_
                    refine vU_get Cx hinX4 0 rfl rfl 16 (by decide) u3_3 rfl dX4_plan_140 ?_
                    refine vV_istore Cx dX4_plan_143 (by decide) ?_
                    refine vV_aload_n Cx 0 dX4_plan_145 rfl rfl ?_
                    refine vU_get Cx hinX4 0 rfl rfl 17 (by decide) u3_4 rfl dX4_plan_146 ?_
                    refine vV_istore Cx dX4_plan_149 (by decide) ?_
                    refine vV_aload_n Cx 0 dX4_plan_151 rfl rfl ?_
                    refine vU_get Cx hinX4 0 rfl rfl 18 (by decide) u3_5 rfl dX4_plan_152 ?_
                    refine vV_istore Cx dX4_plan_155 (by decide) ?_
                    refine vV_iinc Cx dX4_plan_157 rfl (vinc _) (by decide) ?_
                    refine vV_goto (tgt := 54) Cx dX4_plan_160 (by decide) ?_
                    refine vV_take 8 rfl ?_
                    simp only [mn_21, mn_22, mn_23] at *
                    exact ih (i + 1) _ _ _ _ _ _ okY2 (by omega) (by omega) (by rw [← h3]; congr 1; clear Cx hr hlk ih; simp_all [-Int32.not_lt, -Int32.not_le, m_pk, m_more])
                  · refine vV_iload Cx dX4_plan_128 rfl ?_
                    refine vV_if_ne (tgt := 136) Cx dX4_plan_130 (by decide) (fun h130 => ?_) (fun h130 => ?_)
                    · refine vV_iload Cx dX4_plan_136 rfl ?_
                      refine vV_istore_n Cx 3 dX4_plan_138 rfl (by decide) ?_
                      refine vV_aload_n Cx 0 dX4_plan_139 rfl rfl ?_
                      refine vU_get Cx hinX4 0 rfl rfl 16 (by decide) u3_3 rfl dX4_plan_140 ?_
                      refine vV_istore Cx dX4_plan_143 (by decide) ?_
                      refine vV_aload_n Cx 0 dX4_plan_145 rfl rfl ?_
                      refine vU_get Cx hinX4 0 rfl rfl 17 (by decide) u3_4 rfl dX4_plan_146 ?_
                      refine vV_istore Cx dX4_plan_149 (by decide) ?_
                      refine vV_aload_n Cx 0 dX4_plan_151 rfl rfl ?_
                      refine vU_get Cx hinX4 0 rfl rfl 18 (by decide) u3_5 rfl dX4_plan_152 ?_
                      refine vV_istore Cx dX4_plan_155 (by decide) ?_
                      refine vV_iinc Cx dX4_plan_157 rfl (vinc _) (by decide) ?_
                      refine vV_goto (tgt := 54) Cx dX4_plan_160 (by decide) ?_
                      refine vV_take 8 rfl ?_
                      simp only [mn_21, mn_22, mn_23] at *
                      exact ih (i + 1) _ _ _ _ _ _ okY2 (by omega) (by omega) (by rw [← h3]; congr 1; clear Cx hr hlk ih; simp_all [-Int32.not_lt, -Int32.not_le, m_pk, m_more])
                    · exact absurd h130 (by decide)
  have S39 : vV D (vtys cI cZ) A 9 p l e rX4_plan s m ([.ref (ad 0), .int (nI k)] : List Value).toArray below meth c 0 0 (MQ below (vQi D A ((m_all E n np k C (cS N 2 0 0)).1.2.1) (wN cI cZ ad (me_plan E n np k C (cS N 2 0 0)) (m_beg (me_plan E n np k C (cS N 2 0 0)) n C) (m_all E n np k C (cS N 2 0 0)).2.2)) ([.ref (ad 0), .int (nI k)] : List Value).toArray s 0 0 A) (wN cI cZ ad E (C) (cS N 2 0 0)) [.ref (ad 0), .int (nI k)] 39 [.int (nI (6 ^ k))] := by
    refine vV_istore_n Cx 2 dX4_plan_39 rfl (by decide) ?_
    refine vV_iconst (v := -1) Cx dX4_plan_40 (by decide) ?_
    refine vV_istore_n Cx 3 dX4_plan_41 rfl (by decide) ?_
    refine vV_iconst (v := 0) Cx dX4_plan_42 (by decide) ?_
    refine vV_istore Cx dX4_plan_43 (by decide) ?_
    refine vV_iconst (v := 0) Cx dX4_plan_45 (by decide) ?_
    refine vV_istore Cx dX4_plan_46 (by decide) ?_
    refine vV_iconst (v := 0) Cx dX4_plan_48 (by decide) ?_
    refine vV_istore Cx dX4_plan_49 (by decide) ?_
    refine vV_iconst (v := 0) Cx dX4_plan_51 (by decide) ?_
    refine vV_istore Cx dX4_plan_52 (by decide) ?_
    exact L54 (6 ^ k + 1) 0 _ _ _ _ _ _ ok (Nat.zero_le _) (by rw [Nat.sub_zero]; exact Nat.lt_succ_self _) rfl
  refine vV_aload_n Cx 0 dX4_plan_0 rfl rfl ?_
  refine vV_iconst (v := 0) Cx dX4_plan_1 (by decide) ?_
  refine vU_put Cx hinX4 tyX4_ok nmX4 0 rfl rfl 15 (by decide) u3_2 rfl (by decide +kernel) (Nat.le_of_ble_eq_true rfl) dX4_plan_2 np_thrown ?_
  refine vV_iload_n Cx 1 dX4_plan_5 rfl rfl ?_
  refine vV_iconst (v := 1) Cx dX4_plan_6 (by decide) ?_
  refine vV_iconst (v := 3) Cx dX4_plan_7 (by decide) ?_
  refine vV_callSi Cx (KX4_in (ad := ad) _ _ _ _) (cwS 3 Cx.1.2.2.2.2 (uGS u3_53 u3_54 u1_7 u3_55) rfl rfl rfl hdX4_in ⟨Nat.le_of_ble_eq_true rfl, Nat.le_of_ble_eq_true rfl⟩) rfl rfl (Nat.le_of_ble_eq_true rfl) ⟨Nat.zero_le _, Nat.zero_le _⟩ dX4_plan_8 ?_
  refine vV_if_ne (tgt := 16) Cx dX4_plan_11 (by decide) (fun h11 => ?_) (fun h11 => ?_)
  · refine vV_iload_n Cx 1 dX4_plan_16 rfl rfl ?_
    refine vV_iconst (v := 1) Cx dX4_plan_17 (by decide) ?_
    refine vV_icmp_ne (tgt := 26) Cx dX4_plan_18 (by decide) (fun h18 => ?_) (fun h18 => ?_)
    · refine vV_iload_n Cx 1 dX4_plan_26 rfl rfl ?_
      refine vV_iconst (v := 2) Cx dX4_plan_27 (by decide) ?_
      refine vV_icmp_ne (tgt := 36) Cx dX4_plan_28 (by decide) (fun h28 => ?_) (fun h28 => ?_)
      · obtain rfl : k = 3 := by have a1 : k ≠ 1 := fun q => h18 (by rw [q]; rfl); have a2 : k ≠ 2 := fun q => h28 (by rw [q]; rfl); omega
        refine vV_sipush (v := 216) Cx dX4_plan_36 (by decide) ?_
        exact S39
      · obtain rfl : k = 2 := (nI_eq (by omega) (by decide)).mp (show nI k = nI 2 from h28)
        refine vV_bipush (v := 36) Cx dX4_plan_31 (by decide) ?_
        refine vV_goto (tgt := 39) Cx dX4_plan_33 (by decide) ?_
        exact S39
    · obtain rfl : k = 1 := (nI_eq (by omega) (by decide)).mp (show nI k = nI 1 from h18)
      refine vV_bipush (v := 6) Cx dX4_plan_21 (by decide) ?_
      refine vV_goto (tgt := 39) Cx dX4_plan_23 (by decide) ?_
      exact S39
  · exact absurd (show isW (nI k) 1 3 = 0 from h11) (by rcases (show k = 1 ∨ k = 2 ∨ k = 3 by omega) with rfl | rfl | rfl <;> decide)
