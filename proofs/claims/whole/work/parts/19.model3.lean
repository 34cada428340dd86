/-! the reference: an hour, a run, what is asked -/
theorem cS_cS (C : mT) (k j : Nat) (x y : Int32) : cS (cS C k j x) k j y = cS C k j y := by
  funext a
  by_cases ha : a = k
  · subst ha
    rw [cS_at, cS_at, cS_at]
    funext b
    by_cases hb : b = j <;> simp [upd, hb]
  · rw [cS_ne ha, cS_ne ha, cS_ne ha]
def m_p2 (E : mT) (i : Nat) (C : mT) : mT := if C 2 i = 0 then (if C 0 i < 3 then m_dec E i C else C) else C
def m_sos (E : mT) (n : Nat) : Nat → mT → mT
  | 0, C => C
  | s + 1, C => if E 2 (C 9 0).toNatClampNeg = 0 then m_sos E n s (m_so E n s (wd E s) C) else C
def m_step (E : mT) (n np : Nat) (C : mT) : mT := p6 (vlp p5 n 0 (vlp (m_br E) n 0 (m_sos E n np (vlp (m_p2 E) n 0 (vlp m_mv n 0 C)))))
theorem m_mv_9 (i : Nat) (C : mT) : m_mv i C 9 0 = C 9 0 := by unfold m_mv; split; rfl; split <;> simp [cS_ne]
theorem m_dec_9 (E : mT) (i : Nat) (C : mT) : m_dec E i C 9 0 = C 9 0 := by
  unfold m_dec
  split
  · split <;> simp [cS_ne]
  · have h1 : m_d1 E i C 9 0 = C 9 0 := by
      unfold m_d1
      split
      · split
        · simp [cS_ne]
        · split
          · split <;> simp [cS_ne]
          · simp [cS_ne]
      · rfl
    unfold m_d2
    split
    · rw [cS_ne (by decide), h1]
    · exact h1
theorem m_p2_9 (E : mT) (i : Nat) (C : mT) : m_p2 E i C 9 0 = C 9 0 := by
  unfold m_p2
  split
  · split
    · exact m_dec_9 E i C
    · rfl
  · rfl
theorem m_so_9 (E : mT) (n q : Nat) : ∀ (k : Nat) (C : mT), m_so E n q k C 9 0 = C 9 0 := by
  intro k
  induction k with
  | zero => intro C; rfl
  | succ k ih =>
    intro C
    rw [m_so]
    split
    · split
      · rfl
      · rw [ih]; simp [m_so1, cS_ne]
    · rw [ih]; simp [m_so1, cS_ne]
theorem vlp_9 {f : Nat → mT → mT} (h : ∀ i C, f i C 9 0 = C 9 0) (n : Nat) (C : mT) : vlp f n 0 C 9 0 = C 9 0 := vlp_inv (P := fun Z : mT => Z 9 0 = C 9 0) (fun i a _ ha => (h i a).trans ha) (n - 0) 0 C rfl rfl
theorem m_br_9 (E : mT) (i : Nat) (C : mT) : m_br E i C 9 0 = C 9 0 := by unfold m_br; split; rfl; split; rfl; split <;> simp [cS_ne]
theorem p5_9 (i : Nat) (C : mT) : p5 i C 9 0 = C 9 0 := by unfold p5; split; simp [cS_ne]; rfl
theorem m_sos_9 (E : mT) (n : Nat) : ∀ (s : Nat) (C : mT), m_sos E n s C 9 0 = C 9 0 := by
  intro s
  induction s with
  | zero => intro C; rfl
  | succ s ih => intro C; rw [m_sos]; split; rw [ih, m_so_9]; rfl
theorem m_step_9 (E : mT) (n np : Nat) (C : mT) : m_step E n np C 9 0 = C 9 0 + 1 := by
  unfold m_step p6
  rw [cS_same, vlp_9 p5_9, vlp_9 (m_br_9 E), m_sos_9, vlp_9 (m_p2_9 E), vlp_9 m_mv_9]
abbrev rX4_step : Room := { frames := 4, cells := 0, slots := 0, locals := 92 }
set_option maxRecDepth 100000 in
set_option maxHeartbeats 4000000 in
theorem KX4_step {l : Launch} {D : va_G} {cI cZ : ClassId} {ad : Nat → Nat} {A : Nat → Prop} {E C N : mT} {n : Nat} (hn : E 8 2 = nI n) (h12n : n ≤ 12) (ht : ∀ i, i < n → vix (E 3 i) 4 (tm E i)) {np : Nat} (hp : E 8 0 = nI np) (hp6 : np ≤ 6) (hw : ∀ s, s < 6 → E 1 s = nI (wd E s) ∧ wd E s ≤ 6) (hh : vix (C 9 0) 201 (C 9 0).toNatClampNeg) : vKv l D (vtys cI cZ) A yX4_step (uT yX4_step cX4_step 2 (none)) rX4_step (wN cI cZ ad E C N) [.ref (ad 0)] (wN cI cZ ad (E) (m_step E n np C) (N)) := by
  refine vKv_of (cc := cX4_step) (maxL := 2) (ret := none) (by decide) rfl rfl (Nat.le_of_ble_eq_true rfl) ?_
  intro p e s m below meth c Cx hr hlk
  have L100 : ∀ (fuel i : Nat) (Z : mT), i ≤ n → n - i < fuel → vV D (vtys cI cZ) A 2 p l e rX4_step s m ([.ref (ad 0)] : List Value).toArray below meth c 0 0 (MQ below (vQv D A (wN cI cZ ad (E) (m_step E n np C) (N))) ([.ref (ad 0)] : List Value).toArray s 0 0 A) (wN cI cZ ad (E) (vlp (p5) n i Z) (N)) [.ref (ad 0)] 164 [] → vV D (vtys cI cZ) A 2 p l e rX4_step s m ([.ref (ad 0)] : List Value).toArray below meth c 0 0 (MQ below (vQv D A (wN cI cZ ad (E) (m_step E n np C) (N))) ([.ref (ad 0)] : List Value).toArray s 0 0 A) (wN cI cZ ad (E) (Z) (N)) [.ref (ad 0), .int (nI i)] 100 [] := by
    intro fuel
    induction fuel with
    | zero => intro i Z h1 h2; exact absurd h2 (Nat.not_lt_zero _)
    | succ fuel ih =>
      intro i Z h1 h2 h3
      refine vV_iload_n Cx 1 dX4_step_100 rfl rfl ?_
      refine vV_aload_n Cx 0 dX4_step_101 rfl rfl ?_
      refine vU_get Cx hinX4 0 rfl rfl 8 (by decide) u2_235 rfl dX4_step_102 ?_
      refine vV_icmp_ge (tgt := 164) Cx dX4_step_105 (by decide) (fun h105 => ?_) (fun h105 => ?_)
      · rw [hn] at h105
        have hin := vix_ge h105 (by omega) h1
        refine vV_take 1 rfl ?_
        rw [hin, vlp_done (Nat.le_refl _)] at h3
        exact h3
      · rw [hn] at h105
        have hlt := vix_lt h105 (by omega) h1
        have hi : vix (nI i) 12 i := vix_nI (by omega) (by decide)
        refine vV_aload_n Cx 0 dX4_step_108 rfl rfl ?_
        refine vV_iload_n Cx 1 dX4_step_109 rfl rfl ?_
        refine vV_callVi Cx (KX4_isAtCamp hi) (cwV 1 Cx.1.2.2.2.2 (uGV u3_109 u3_111 us_23 u1_7 u3_112) rfl rfl rfl hdX4_isAtCamp ⟨Nat.le_of_ble_eq_true rfl, Nat.le_of_ble_eq_true rfl⟩) 0 rfl rfl rfl rfl (Nat.le_of_ble_eq_true rfl) ⟨Nat.zero_le _, Nat.zero_le _⟩ dX4_step_110 ?_
        refine vV_if_eq (tgt := 158) Cx dX4_step_113 (by decide) (fun h113 => ?_) (fun h113 => ?_)
        · refine vV_iinc Cx dX4_step_158 rfl (vinc _) (by decide) ?_
          refine vV_goto (tgt := 100) Cx dX4_step_161 (by decide) ?_
          refine vV_take 2 rfl ?_
          exact ih (i + 1) _ (by omega) (by omega) (vV_wN ((vlp_step hlt).trans (congrArg (vlp _ n (i + 1)) (by first | rfl | (clear Cx hr hlk; simp_all [-Int32.not_lt, -Int32.not_le, p5, m_ac])))) h3)
        · refine vV_aload_n Cx 0 dX4_step_116 rfl rfl ?_
          refine vV_iload_n Cx 1 dX4_step_117 rfl rfl ?_
          refine vV_iconst (v := 1) Cx dX4_step_118 (by decide) ?_
          refine vV_callVi Cx (KX4_get hi v7_1) (cwV 2 Cx.1.2.2.2.2 (uGV u3_113 u3_115 us_24 u1_7 u3_116) rfl rfl rfl hdX4_get ⟨Nat.le_of_ble_eq_true rfl, Nat.le_of_ble_eq_true rfl⟩) 0 rfl rfl rfl rfl (Nat.le_of_ble_eq_true rfl) ⟨Nat.zero_le _, Nat.zero_le _⟩ dX4_step_119 ?_
          refine vV_if_le (tgt := 158) Cx dX4_step_122 (by decide) (fun h122 => ?_) (fun h122 => ?_)
          · refine vV_iinc Cx dX4_step_158 rfl (vinc _) (by decide) ?_
            refine vV_goto (tgt := 100) Cx dX4_step_161 (by decide) ?_
            refine vV_take 2 rfl ?_
            exact ih (i + 1) _ (by omega) (by omega) (vV_wN ((vlp_step hlt).trans (congrArg (vlp _ n (i + 1)) (by first | rfl | (clear Cx hr hlk; simp_all [-Int32.not_lt, -Int32.not_le, p5, m_ac])))) h3)
          · refine vV_aload_n Cx 0 dX4_step_125 rfl rfl ?_
            refine vV_iload_n Cx 1 dX4_step_126 rfl rfl ?_
            refine vV_iconst (v := 0) Cx dX4_step_127 (by decide) ?_
            refine vV_callVi Cx (KX4_get hi v7_0) (cwV 2 Cx.1.2.2.2.2 (uGV u3_113 u3_115 us_24 u1_7 u3_116) rfl rfl rfl hdX4_get ⟨Nat.le_of_ble_eq_true rfl, Nat.le_of_ble_eq_true rfl⟩) 0 rfl rfl rfl rfl (Nat.le_of_ble_eq_true rfl) ⟨Nat.zero_le _, Nat.zero_le _⟩ dX4_step_128 ?_
            refine vV_if_eq (tgt := 144) Cx dX4_step_131 (by decide) (fun h131 => ?_) (fun h131 => ?_)
            · refine vV_aload_n Cx 0 dX4_step_144 rfl rfl ?_
              refine vV_iload_n Cx 1 dX4_step_145 rfl rfl ?_
              refine vV_iconst (v := 5) Cx dX4_step_146 (by decide) ?_
              refine vV_aload_n Cx 0 dX4_step_147 rfl rfl ?_
              refine vV_iload_n Cx 1 dX4_step_148 rfl rfl ?_
              refine vV_iconst (v := 5) Cx dX4_step_149 (by decide) ?_
              refine vV_callVi Cx (KX4_get hi v7_5) (cwV 2 Cx.1.2.2.2.2 (uGV u3_113 u3_115 us_24 u1_7 u3_116) rfl rfl rfl hdX4_get ⟨Nat.le_of_ble_eq_true rfl, Nat.le_of_ble_eq_true rfl⟩) 0 rfl rfl rfl rfl (Nat.le_of_ble_eq_true rfl) ⟨Nat.zero_le _, Nat.zero_le _⟩ dX4_step_150 ?_
              refine vV_iconst (v := 1) Cx dX4_step_153 (by decide) ?_
              refine vV_iadd Cx dX4_step_154 ?_
              refine vV_callVv Cx (KX4_put hi v7_5 _) (cwV 3 Cx.1.2.2.2.2 (uGV u3_65 u3_67 us_19 u1_7 u3_68) rfl rfl rfl hdX4_put ⟨Nat.le_of_ble_eq_true rfl, Nat.le_of_ble_eq_true rfl⟩) 0 rfl rfl rfl rfl (Nat.le_of_ble_eq_true rfl) ⟨Nat.zero_le _, Nat.zero_le _⟩ dX4_step_155 ?_
              refine vV_iinc Cx dX4_step_158 rfl (vinc _) (by decide) ?_
              refine vV_goto (tgt := 100) Cx dX4_step_161 (by decide) ?_
              refine vV_take 2 rfl ?_
              exact ih (i + 1) _ (by omega) (by omega) (vV_wN ((vlp_step hlt).trans (congrArg (vlp _ n (i + 1)) (by first | rfl | (clear Cx hr hlk; simp_all [-Int32.not_lt, -Int32.not_le, p5, m_ac])))) h3)
            · refine vV_aload_n Cx 0 dX4_step_134 rfl rfl ?_
              refine vV_iload_n Cx 1 dX4_step_135 rfl rfl ?_
              refine vV_iconst (v := 0) Cx dX4_step_136 (by decide) ?_
              refine vV_callVi Cx (KX4_get hi v7_0) (cwV 2 Cx.1.2.2.2.2 (uGV u3_113 u3_115 us_24 u1_7 u3_116) rfl rfl rfl hdX4_get ⟨Nat.le_of_ble_eq_true rfl, Nat.le_of_ble_eq_true rfl⟩) 0 rfl rfl rfl rfl (Nat.le_of_ble_eq_true rfl) ⟨Nat.zero_le _, Nat.zero_le _⟩ dX4_step_137 ?_
              refine vV_iconst (v := 2) Cx dX4_step_140 (by decide) ?_
              refine vV_icmp_ne (tgt := 158) Cx dX4_step_141 (by decide) (fun h141 => ?_) (fun h141 => ?_)
              · refine vV_iinc Cx dX4_step_158 rfl (vinc _) (by decide) ?_
                refine vV_goto (tgt := 100) Cx dX4_step_161 (by decide) ?_
                refine vV_take 2 rfl ?_
                exact ih (i + 1) _ (by omega) (by omega) (vV_wN ((vlp_step hlt).trans (congrArg (vlp _ n (i + 1)) (by first | rfl | (clear Cx hr hlk; simp_all [-Int32.not_lt, -Int32.not_le, p5, m_ac])))) h3)
              · refine vV_aload_n Cx 0 dX4_step_144 rfl rfl ?_
                refine vV_iload_n Cx 1 dX4_step_145 rfl rfl ?_
                refine vV_iconst (v := 5) Cx dX4_step_146 (by decide) ?_
                refine vV_aload_n Cx 0 dX4_step_147 rfl rfl ?_
                refine vV_iload_n Cx 1 dX4_step_148 rfl rfl ?_
                refine vV_iconst (v := 5) Cx dX4_step_149 (by decide) ?_
                refine vV_callVi Cx (KX4_get hi v7_5) (cwV 2 Cx.1.2.2.2.2 (uGV u3_113 u3_115 us_24 u1_7 u3_116) rfl rfl rfl hdX4_get ⟨Nat.le_of_ble_eq_true rfl, Nat.le_of_ble_eq_true rfl⟩) 0 rfl rfl rfl rfl (Nat.le_of_ble_eq_true rfl) ⟨Nat.zero_le _, Nat.zero_le _⟩ dX4_step_150 ?_
                refine vV_iconst (v := 1) Cx dX4_step_153 (by decide) ?_
                refine vV_iadd Cx dX4_step_154 ?_
                refine vV_callVv Cx (KX4_put hi v7_5 _) (cwV 3 Cx.1.2.2.2.2 (uGV u3_65 u3_67 us_19 u1_7 u3_68) rfl rfl rfl hdX4_put ⟨Nat.le_of_ble_eq_true rfl, Nat.le_of_ble_eq_true rfl⟩) 0 rfl rfl rfl rfl (Nat.le_of_ble_eq_true rfl) ⟨Nat.zero_le _, Nat.zero_le _⟩ dX4_step_155 ?_
                refine vV_iinc Cx dX4_step_158 rfl (vinc _) (by decide) ?_
                refine vV_goto (tgt := 100) Cx dX4_step_161 (by decide) ?_
                refine vV_take 2 rfl ?_
                exact ih (i + 1) _ (by omega) (by omega) (vV_wN ((vlp_step hlt).trans (congrArg (vlp _ n (i + 1)) (by first | rfl | (clear Cx hr hlk; simp_all [-Int32.not_lt, -Int32.not_le, p5, m_ac])))) h3)
  have L79 : ∀ (fuel i : Nat) (Z : mT), i ≤ n → n - i < fuel → vV D (vtys cI cZ) A 2 p l e rX4_step s m ([.ref (ad 0)] : List Value).toArray below meth c 0 0 (MQ below (vQv D A (wN cI cZ ad (E) (m_step E n np C) (N))) ([.ref (ad 0)] : List Value).toArray s 0 0 A) (wN cI cZ ad (E) (vlp (m_br E) n i Z) (N)) [.ref (ad 0)] 98 [] → vV D (vtys cI cZ) A 2 p l e rX4_step s m ([.ref (ad 0)] : List Value).toArray below meth c 0 0 (MQ below (vQv D A (wN cI cZ ad (E) (m_step E n np C) (N))) ([.ref (ad 0)] : List Value).toArray s 0 0 A) (wN cI cZ ad (E) (Z) (N)) [.ref (ad 0), .int (nI i)] 79 [] := by
    intro fuel
    induction fuel with
    | zero => intro i Z h1 h2; exact absurd h2 (Nat.not_lt_zero _)
    | succ fuel ih =>
      intro i Z h1 h2 h3
      refine vV_iload_n Cx 1 dX4_step_79 rfl rfl ?_
      refine vV_aload_n Cx 0 dX4_step_80 rfl rfl ?_
      refine vU_get Cx hinX4 0 rfl rfl 8 (by decide) u2_235 rfl dX4_step_81 ?_
      refine vV_icmp_ge (tgt := 98) Cx dX4_step_84 (by decide) (fun h84 => ?_) (fun h84 => ?_)
      · rw [hn] at h84
        have hin := vix_ge h84 (by omega) h1
        refine vV_take 1 rfl ?_
        rw [hin, vlp_done (Nat.le_refl _)] at h3
        exact h3
      · rw [hn] at h84
        have hlt := vix_lt h84 (by omega) h1
        have hi : vix (nI i) 12 i := vix_nI (by omega) (by decide)
        refine vV_aload_n Cx 0 dX4_step_87 rfl rfl ?_
        refine vV_iload_n Cx 1 dX4_step_88 rfl rfl ?_
        refine vV_callVv Cx (KX4_breathe hi) (cwV 1 Cx.1.2.2.2.2 (uGV u3_133 u3_135 us_29 u1_7 u3_136) rfl rfl rfl hdX4_breathe ⟨Nat.le_of_ble_eq_true rfl, Nat.le_of_ble_eq_true rfl⟩) 0 rfl rfl rfl rfl (Nat.le_of_ble_eq_true rfl) ⟨Nat.zero_le _, Nat.zero_le _⟩ dX4_step_89 ?_
        refine vV_iinc Cx dX4_step_92 rfl (vinc _) (by decide) ?_
        refine vV_goto (tgt := 79) Cx dX4_step_95 (by decide) ?_
        refine vV_take 2 rfl ?_
        exact ih (i + 1) _ (by omega) (by omega) (vV_wN ((vlp_step hlt).trans (congrArg (vlp _ n (i + 1)) (by first | rfl | (clear Cx hr hlk; simp_all [-Int32.not_lt, -Int32.not_le])))) h3)
  have L50 : ∀ (fuel i : Nat) (Z : mT) (x : Int32), Z 9 0 = C 9 0 → i ≤ np → i < fuel → x = nI i - 1 → vV D (vtys cI cZ) A 2 p l e rX4_step s m ([.ref (ad 0)] : List Value).toArray below meth c 0 0 (MQ below (vQv D A (wN cI cZ ad (E) (m_step E n np C) (N))) ([.ref (ad 0)] : List Value).toArray s 0 0 A) (wN cI cZ ad (E) (m_sos E n i Z) (N)) [.ref (ad 0)] 77 [] → vV D (vtys cI cZ) A 2 p l e rX4_step s m ([.ref (ad 0)] : List Value).toArray below meth c 0 0 (MQ below (vQv D A (wN cI cZ ad (E) (m_step E n np C) (N))) ([.ref (ad 0)] : List Value).toArray s 0 0 A) (wN cI cZ ad (E) (Z) (N)) [.ref (ad 0), .int x] 50 [] := by
    intro fuel
    induction fuel with
    | zero => intro i Z x _ h1 h2; exact absurd h2 (Nat.not_lt_zero _)
    | succ fuel ih =>
      intro i Z x h9 h1 h2 hx h3
      refine vV_iload_n Cx 1 dX4_step_50 rfl rfl ?_
      refine vV_if_lt (tgt := 77) Cx dX4_step_51 (by decide) (fun h51 => ?_) (fun h51 => ?_)
      · obtain rfl := (vdn hx (by omega)).1 h51
        refine vV_take 1 rfl ?_
        exact h3
      · obtain ⟨j, rfl, rfl⟩ := (vdn hx (by omega)).2 h51
        have hhz : vix (Z 9 0) 201 (Z 9 0).toNatClampNeg := by rw [h9]; exact hh
        rw [m_sos] at h3
        refine vV_aload_n Cx 0 dX4_step_54 rfl rfl ?_
        refine vU_get Cx hinX4 0 rfl rfl 5 (by decide) u2_232 rfl dX4_step_55 ?_
        refine vV_aload_n Cx 0 dX4_step_58 rfl rfl ?_
        refine vU_get Cx hinX4 0 rfl rfl 4 (by decide) u2_231 rfl dX4_step_59 ?_
        refine vV_zald Cx 3 1 rfl rfl (by assumption) dX4_step_62 ?_
        refine vV_if_ne (tgt := 77) Cx dX4_step_63 (by decide) (fun h63 => ?_) (fun h63 => ?_)
        · rw [if_neg h63] at h3
          refine vV_take 1 rfl ?_
          exact h3
        · rw [if_pos h63] at h3
          refine vV_aload_n Cx 0 dX4_step_66 rfl rfl ?_
          refine vV_iload_n Cx 1 dX4_step_67 rfl rfl ?_
          refine vV_callVv Cx (KX4_startOn hn h12n ht (by omega) (hw j (by omega))) (cwV 1 Cx.1.2.2.2.2 (uGV u3_125 u3_127 us_27 u1_7 u3_128) rfl rfl rfl hdX4_startOn ⟨Nat.le_of_ble_eq_true rfl, Nat.le_of_ble_eq_true rfl⟩) 0 rfl rfl rfl rfl (Nat.le_of_ble_eq_true rfl) ⟨Nat.zero_le _, Nat.zero_le _⟩ dX4_step_68 ?_
          refine vV_iinc Cx dX4_step_71 rfl rfl (by decide) ?_
          refine vV_goto (tgt := 50) Cx dX4_step_74 (by decide) ?_
          exact ih j _ _ ((m_so_9 E n j _ Z).trans h9) (by omega) (by omega) (vm1 j) h3
  have L6 : ∀ (fuel i : Nat) (Z : mT), i ≤ n → n - i < fuel → vV D (vtys cI cZ) A 2 p l e rX4_step s m ([.ref (ad 0)] : List Value).toArray below meth c 0 0 (MQ below (vQv D A (wN cI cZ ad (E) (m_step E n np C) (N))) ([.ref (ad 0)] : List Value).toArray s 0 0 A) (wN cI cZ ad (E) (vlp (m_p2 E) n i Z) (N)) [.ref (ad 0)] 43 [] → vV D (vtys cI cZ) A 2 p l e rX4_step s m ([.ref (ad 0)] : List Value).toArray below meth c 0 0 (MQ below (vQv D A (wN cI cZ ad (E) (m_step E n np C) (N))) ([.ref (ad 0)] : List Value).toArray s 0 0 A) (wN cI cZ ad (E) (Z) (N)) [.ref (ad 0), .int (nI i)] 6 [] := by
    intro fuel
    induction fuel with
    | zero => intro i Z h1 h2; exact absurd h2 (Nat.not_lt_zero _)
    | succ fuel ih =>
      intro i Z h1 h2 h3
      refine vV_iload_n Cx 1 dX4_step_6 rfl rfl ?_
      refine vV_aload_n Cx 0 dX4_step_7 rfl rfl ?_
      refine vU_get Cx hinX4 0 rfl rfl 8 (by decide) u2_235 rfl dX4_step_8 ?_
      refine vV_icmp_ge (tgt := 43) Cx dX4_step_11 (by decide) (fun h11 => ?_) (fun h11 => ?_)
      · rw [hn] at h11
        have hin := vix_ge h11 (by omega) h1
        refine vV_take 1 rfl ?_
        rw [hin, vlp_done (Nat.le_refl _)] at h3
        exact h3
      · rw [hn] at h11
        have hlt := vix_lt h11 (by omega) h1
        have hi : vix (nI i) 12 i := vix_nI (by omega) (by decide)
        refine vV_aload_n Cx 0 dX4_step_14 rfl rfl ?_
        refine vV_iload_n Cx 1 dX4_step_15 rfl rfl ?_
        refine vV_callVi Cx (KX4_isAtCamp hi) (cwV 1 Cx.1.2.2.2.2 (uGV u3_109 u3_111 us_23 u1_7 u3_112) rfl rfl rfl hdX4_isAtCamp ⟨Nat.le_of_ble_eq_true rfl, Nat.le_of_ble_eq_true rfl⟩) 0 rfl rfl rfl rfl (Nat.le_of_ble_eq_true rfl) ⟨Nat.zero_le _, Nat.zero_le _⟩ dX4_step_16 ?_
        refine vV_if_eq (tgt := 37) Cx dX4_step_19 (by decide) (fun h19 => ?_) (fun h19 => ?_)
        · refine vV_iinc Cx dX4_step_37 rfl (vinc _) (by decide) ?_
          refine vV_goto (tgt := 6) Cx dX4_step_40 (by decide) ?_
          refine vV_take 2 rfl ?_
          exact ih (i + 1) _ (by omega) (by omega) (vV_wN ((vlp_step hlt).trans (congrArg (vlp _ n (i + 1)) (by first | rfl | (clear Cx hr hlk; simp_all [-Int32.not_lt, -Int32.not_le, m_p2, m_ac])))) h3)
        · refine vV_aload_n Cx 0 dX4_step_22 rfl rfl ?_
          refine vV_iload_n Cx 1 dX4_step_23 rfl rfl ?_
          refine vV_iconst (v := 0) Cx dX4_step_24 (by decide) ?_
          refine vV_callVi Cx (KX4_get hi v7_0) (cwV 2 Cx.1.2.2.2.2 (uGV u3_113 u3_115 us_24 u1_7 u3_116) rfl rfl rfl hdX4_get ⟨Nat.le_of_ble_eq_true rfl, Nat.le_of_ble_eq_true rfl⟩) 0 rfl rfl rfl rfl (Nat.le_of_ble_eq_true rfl) ⟨Nat.zero_le _, Nat.zero_le _⟩ dX4_step_25 ?_
          refine vV_iconst (v := 3) Cx dX4_step_28 (by decide) ?_
          refine vV_icmp_ge (tgt := 37) Cx dX4_step_29 (by decide) (fun h29 => ?_) (fun h29 => ?_)
          · refine vV_iinc Cx dX4_step_37 rfl (vinc _) (by decide) ?_
            refine vV_goto (tgt := 6) Cx dX4_step_40 (by decide) ?_
            refine vV_take 2 rfl ?_
            exact ih (i + 1) _ (by omega) (by omega) (vV_wN ((vlp_step hlt).trans (congrArg (vlp _ n (i + 1)) (by first | rfl | (clear Cx hr hlk; simp_all [-Int32.not_lt, -Int32.not_le, m_p2, m_ac])))) h3)
          · refine vV_aload_n Cx 0 dX4_step_32 rfl rfl ?_
            refine vV_iload_n Cx 1 dX4_step_33 rfl rfl ?_
            refine vV_callVv Cx (KX4_decide hi (ht i hlt)) (cwV 1 Cx.1.2.2.2.2 (uGV u3_117 u3_119 us_25 u1_7 u3_120) rfl rfl rfl hdX4_decide ⟨Nat.le_of_ble_eq_true rfl, Nat.le_of_ble_eq_true rfl⟩) 0 rfl rfl rfl rfl (Nat.le_of_ble_eq_true rfl) ⟨Nat.zero_le _, Nat.zero_le _⟩ dX4_step_34 ?_
            refine vV_iinc Cx dX4_step_37 rfl (vinc _) (by decide) ?_
            refine vV_goto (tgt := 6) Cx dX4_step_40 (by decide) ?_
            refine vV_take 2 rfl ?_
            exact ih (i + 1) _ (by omega) (by omega) (vV_wN ((vlp_step hlt).trans (congrArg (vlp _ n (i + 1)) (by first | rfl | (clear Cx hr hlk; simp_all [-Int32.not_lt, -Int32.not_le, m_p2, m_ac])))) h3)
  refine vV_aload_n Cx 0 dX4_step_0 rfl rfl ?_
  refine vV_callVv Cx (KX4_move hn h12n) (cwV 0 Cx.1.2.2.2.2 (uGV u3_105 u3_107 us_22 u1_7 u3_108) rfl rfl rfl hdX4_move ⟨Nat.le_of_ble_eq_true rfl, Nat.le_of_ble_eq_true rfl⟩) 0 rfl rfl rfl rfl (Nat.le_of_ble_eq_true rfl) ⟨Nat.zero_le _, Nat.zero_le _⟩ dX4_step_1 ?_
  refine vV_iconst (v := 0) Cx dX4_step_4 (by decide) ?_
  refine vV_istore_n Cx 1 dX4_step_5 rfl (by decide) ?_
  refine L6 (n + 1) 0 _ (by omega) (by omega) ?_
  refine vV_aload_n Cx 0 dX4_step_43 rfl rfl ?_
  refine vU_get Cx hinX4 0 rfl rfl 0 (by decide) u2_227 rfl dX4_step_44 ?_
  refine vV_iconst (v := 1) Cx dX4_step_47 (by decide) ?_
  refine vV_isub Cx dX4_step_48 ?_
  refine vV_istore_n Cx 1 dX4_step_49 rfl (by decide) ?_
  refine L50 (np + 1) np _ _ ((vlp_9 (m_p2_9 E) n _).trans (vlp_9 m_mv_9 n C)) (by omega) (by omega) (by rw [hp]) ?_
  refine vV_iconst (v := 0) Cx dX4_step_77 (by decide) ?_
  refine vV_istore_n Cx 1 dX4_step_78 rfl (by decide) ?_
  refine L79 (n + 1) 0 _ (by omega) (by omega) ?_
  refine vV_iconst (v := 0) Cx dX4_step_98 (by decide) ?_
  refine vV_istore_n Cx 1 dX4_step_99 rfl (by decide) ?_
  refine L100 (n + 1) 0 _ (by omega) (by omega) ?_
  refine vV_aload_n Cx 0 dX4_step_164 rfl rfl ?_
  refine vV_dup Cx dX4_step_165 rfl ?_
  refine vU_get Cx hinX4 0 rfl rfl 4 (by decide) u2_231 rfl dX4_step_166 ?_
  refine vV_iconst (v := 1) Cx dX4_step_169 (by decide) ?_
  refine vV_iadd Cx dX4_step_170 ?_
  refine vU_put Cx hinX4 tyX4_ok nmX4 0 rfl rfl 4 (by decide) u2_231 rfl (by decide +kernel) (Nat.le_of_ble_eq_true rfl) dX4_step_171 np_hour ?_
  exact vV_vret Cx hr hlk dX4_step_174 (by rfl)
def m_run (E : mT) (n np : Nat) : Nat → mT → mT
  | 0, C => C
  | k + 1, C => if C 9 0 < 200 then m_run E n np k (m_step E n np C) else C
def me_run (E : mT) (n np : Nat) (v : Int32) (C : mT) : mT := if isW v 0 100 = 0 then C else m_run E n np v.toNatClampNeg C
def ma_run (E : mT) (n np : Nat) (v : Int32) (C : mT) : Int32 := if isW v 0 100 = 0 then -1 else m_run E n np v.toNatClampNeg C 9 0
theorem vh201 {x : Int32} (h0 : ¬ x < 0) (h1 : x < 200) : vix x 201 x.toNatClampNeg := vix_of (M := 200) rfl (Int32.not_lt.mp h0) (Int32.le_of_lt h1)
theorem vh_up {x : Int32} (h0 : ¬ x < 0) (h1 : x < 200) : ¬ x + 1 < 0 := by
  obtain ⟨j, hj, rfl⟩ := nI_of h0
  have : j < 200 := (nI_ltI hj (by decide)).mp h1
  rw [nI_1]
  exact nI_pos (by omega)
abbrev rX4_run : Room := { frames := 5, cells := 0, slots := 0, locals := 113 }
set_option maxRecDepth 100000 in
set_option maxHeartbeats 4000000 in
theorem KX4_run {l : Launch} {D : va_G} {cI cZ : ClassId} {ad : Nat → Nat} {A : Nat → Prop} {E C N : mT} {n : Nat} (hn : E 8 2 = nI n) (h12n : n ≤ 12) (ht : ∀ i, i < n → vix (E 3 i) 4 (tm E i)) {np : Nat} (hp : E 8 0 = nI np) (hp6 : np ≤ 6) (hw : ∀ s, s < 6 → E 1 s = nI (wd E s) ∧ wd E s ≤ 6) (h90 : ¬ C 9 0 < 0) (v : Int32) : vKi l D (vtys cI cZ) A yX4_run (uT yX4_run cX4_run 3 (some .int)) rX4_run (wN cI cZ ad E C N) [.ref (ad 0), .int v] (ma_run E n np v C) (wN cI cZ ad (E) (me_run E n np v C) (cS N 2 0 0)) := by
  refine vKi_of (cc := cX4_run) (maxL := 3) (ret := some .int) (by decide) rfl rfl (Nat.le_of_ble_eq_true rfl) ?_
  intro p e s m below meth c Cx hr hlk
  have Lp : ∀ (fuel i j : Nat) (Z : mT), v = nI j → j ≤ 100 → ¬ Z 9 0 < 0 → i ≤ j → j - i < fuel → m_run E n np (j - i) Z = me_run E n np v C → m_run E n np (j - i) Z 9 0 = ma_run E n np v C → vV D (vtys cI cZ) A 3 p l e rX4_run s m ([.ref (ad 0), .int v] : List Value).toArray below meth c 0 0 (MQ below (vQi D A (ma_run E n np v C) (wN cI cZ ad (E) (me_run E n np v C) (cS N 2 0 0))) ([.ref (ad 0), .int v] : List Value).toArray s 0 0 A) (wN cI cZ ad (E) (Z) (cS N 2 0 0)) [.ref (ad 0), .int v, .int (nI i)] 19 [] := by
    intro fuel
    induction fuel with
    | zero => intro i j Z _ _ _ h1 h2; exact absurd h2 (Nat.not_lt_zero _)
    | succ fuel ih =>
      intro i j Z hv hj h9 h1 h2 h3 h4
      refine vV_iload_n Cx 2 dX4_run_19 rfl rfl ?_
      refine vV_iload_n Cx 1 dX4_run_20 rfl rfl ?_
      refine vV_icmp_ge (tgt := 44) Cx dX4_run_21 (by decide) (fun h21 => ?_) (fun h21 => ?_)
      · rw [hv] at h21
        have hin := vix_ge h21 (by omega) h1
        rw [hin, Nat.sub_self] at h3 h4
        refine vV_aload_n Cx 0 dX4_run_44 rfl rfl ?_
        refine vU_get Cx hinX4 0 rfl rfl 4 (by decide) u2_231 rfl dX4_run_45 ?_
        exact vV_iret Cx hr hlk dX4_run_48 (by exact h4) (by first | (rw [← h3]; done) | (rw [← h3]; rfl))
      · rw [hv] at h21
        have hlt := vix_lt h21 (by omega) h1
        rw [show j - i = (j - (i + 1)) + 1 by omega, m_run] at h3 h4
        refine vV_aload_n Cx 0 dX4_run_24 rfl rfl ?_
        refine vU_get Cx hinX4 0 rfl rfl 4 (by decide) u2_231 rfl dX4_run_25 ?_
        refine vV_sipush (v := 200) Cx dX4_run_28 (by decide) ?_
        refine vV_icmp_ge (tgt := 44) Cx dX4_run_31 (by decide) (fun h31 => ?_) (fun h31 => ?_)
        · rw [if_neg h31] at h3 h4
          refine vV_aload_n Cx 0 dX4_run_44 rfl rfl ?_
          refine vU_get Cx hinX4 0 rfl rfl 4 (by decide) u2_231 rfl dX4_run_45 ?_
          exact vV_iret Cx hr hlk dX4_run_48 (by exact h4) (by first | (rw [← h3]; done) | (rw [← h3]; rfl))
        · rw [if_pos h31] at h3 h4
          refine vV_aload_n Cx 0 dX4_run_34 rfl rfl ?_
          refine vV_callVv Cx (KX4_step hn h12n ht hp hp6 hw (vh201 h9 h31)) (cwV 0 Cx.1.2.2.2.2 (uGV u3_101 u3_103 us_21 u1_7 u3_104) rfl rfl rfl hdX4_step ⟨Nat.le_of_ble_eq_true rfl, Nat.le_of_ble_eq_true rfl⟩) 0 rfl rfl rfl rfl (Nat.le_of_ble_eq_true rfl) ⟨Nat.zero_le _, Nat.zero_le _⟩ dX4_run_35 ?_
          refine vV_iinc Cx dX4_run_38 rfl (vinc _) (by decide) ?_
          refine vV_goto (tgt := 19) Cx dX4_run_41 (by decide) ?_
          exact ih (i + 1) j _ hv hj (by rw [m_step_9]; exact vh_up h9 h31) (by omega) (by omega) h3 h4
  refine vV_aload_n Cx 0 dX4_run_0 rfl rfl ?_
  refine vV_iconst (v := 0) Cx dX4_run_1 (by decide) ?_
  refine vU_put Cx hinX4 tyX4_ok nmX4 0 rfl rfl 15 (by decide) u3_2 rfl (by decide +kernel) (Nat.le_of_ble_eq_true rfl) dX4_run_2 np_thrown ?_
  refine vV_iload_n Cx 1 dX4_run_5 rfl rfl ?_
  refine vV_iconst (v := 0) Cx dX4_run_6 (by decide) ?_
  refine vV_bipush (v := 100) Cx dX4_run_7 (by decide) ?_
  refine vV_callSi Cx (KX4_in (ad := ad) _ _ _ _) (cwS 3 Cx.1.2.2.2.2 (uGS u3_53 u3_54 u1_7 u3_55) rfl rfl rfl hdX4_in ⟨Nat.le_of_ble_eq_true rfl, Nat.le_of_ble_eq_true rfl⟩) rfl rfl (Nat.le_of_ble_eq_true rfl) ⟨Nat.zero_le _, Nat.zero_le _⟩ dX4_run_9 ?_
  refine vV_if_ne (tgt := 17) Cx dX4_run_12 (by decide) (fun h12 => ?_) (fun h12 => ?_)
  · refine vV_iconst (v := 0) Cx dX4_run_17 (by decide) ?_
    refine vV_istore_n Cx 2 dX4_run_18 rfl (by decide) ?_
    obtain ⟨j, hj, hv⟩ := isW_nI (k := 100) h12 (by decide)
    exact Lp 101 0 j C hv hj h90 (by omega) (by omega) (by rw [me_run, if_neg h12, hv, nI_clamp (by omega)]; rfl) (by rw [ma_run, if_neg h12, hv, nI_clamp (by omega)]; rfl)
  · refine vV_iconst (v := -1) Cx dX4_run_15 (by decide) ?_
    exact vV_iret Cx hr hlk dX4_run_16 (by simp [ma_run, h12]) (by simp [me_run, h12])
abbrev rX4_summits : Room := { frames := 1, cells := 0, slots := 0, locals := 22 }
set_option maxRecDepth 100000 in
set_option maxHeartbeats 4000000 in
theorem KX4_summits {l : Launch} {D : va_G} {cI cZ : ClassId} {ad : Nat → Nat} {A : Nat → Prop} {E C N : mT} {n : Nat} (hn : E 8 2 = nI n) (h12n : n ≤ 12) : vKi l D (vtys cI cZ) A yX4_summits (uT yX4_summits cX4_summits 3 (some .int)) rX4_summits (wN cI cZ ad E C N) [.ref (ad 0)] (c_sum n C) (wN cI cZ ad E C N) := by
  refine vKi_of (cc := cX4_summits) (maxL := 3) (ret := some .int) (by decide) rfl rfl (Nat.le_of_ble_eq_true rfl) ?_
  intro p e s m below meth c Cx hr hlk
  have Lp : ∀ (fuel i : Nat) (a : Int32), i ≤ n → n - i < fuel → vlp (fun i a => if C 4 i = -1 then a else a + 1) n i a = c_sum n C → vV D (vtys cI cZ) A 3 p l e rX4_summits s m ([.ref (ad 0)] : List Value).toArray below meth c 0 0 (MQ below (vQi D A (c_sum n C) (wN cI cZ ad E C N)) ([.ref (ad 0)] : List Value).toArray s 0 0 A) (wN cI cZ ad E C N) [.ref (ad 0), .int a, .int (nI i)] 4 [] := by
    intro fuel
    induction fuel with
    | zero => intro i a h1 h2; exact absurd h2 (Nat.not_lt_zero _)
    | succ fuel ih =>
      intro i a h1 h2 h3
      refine vV_iload_n Cx 2 dX4_summits_4 rfl rfl ?_
      refine vV_aload_n Cx 0 dX4_summits_5 rfl rfl ?_
      refine vU_get Cx hinX4 0 rfl rfl 8 (by decide) u2_235 rfl dX4_summits_6 ?_
      refine vV_icmp_ge (tgt := 31) Cx dX4_summits_9 (by decide) (fun h9 => ?_) (fun h9 => ?_)
      · rw [hn] at h9
        have hin := vix_ge h9 (by omega) h1
        refine vV_iload_n Cx 1 dX4_summits_31 rfl rfl ?_
        exact vV_iret Cx hr hlk dX4_summits_32 (by rw [hin, vlp_done (Nat.le_refl _)] at h3; exact h3) (by rfl)
      · rw [hn] at h9
        have hlt := vix_lt h9 (by omega) h1
        have hi : vix (nI i) 12 i := vix_nI (by omega) (by decide)
        refine vV_aload_n Cx 0 dX4_summits_12 rfl rfl ?_
        refine vV_iload_n Cx 2 dX4_summits_13 rfl rfl ?_
        refine vV_iconst (v := 4) Cx dX4_summits_14 (by decide) ?_
        refine vV_callVi Cx (KX4_get hi v7_4) (cwV 2 Cx.1.2.2.2.2 (uGV u3_113 u3_115 us_24 u1_7 u3_116) rfl rfl rfl hdX4_get ⟨Nat.le_of_ble_eq_true rfl, Nat.le_of_ble_eq_true rfl⟩) 0 rfl rfl rfl rfl (Nat.le_of_ble_eq_true rfl) ⟨Nat.zero_le _, Nat.zero_le _⟩ dX4_summits_15 ?_
        refine vV_iconst (v := -1) Cx dX4_summits_18 (by decide) ?_
        refine vV_icmp_eq (tgt := 25) Cx dX4_summits_19 (by decide) (fun h19 => ?_) (fun h19 => ?_)
        · refine vV_iinc Cx dX4_summits_25 rfl (vinc _) (by decide) ?_
          refine vV_goto (tgt := 4) Cx dX4_summits_28 (by decide) ?_
          exact ih (i + 1) _ (by omega) (by omega) (by rw [← h3, vlp_step hlt]; try exact congrArg (vlp _ n (i + 1)) (by first | rfl | (clear Cx hr hlk; simp_all [-Int32.not_lt, -Int32.not_le])))
        · refine vV_iinc Cx dX4_summits_22 rfl (vinc1 _) (by decide) ?_
          refine vV_iinc Cx dX4_summits_25 rfl (vinc _) (by decide) ?_
          refine vV_goto (tgt := 4) Cx dX4_summits_28 (by decide) ?_
          exact ih (i + 1) _ (by omega) (by omega) (by rw [← h3, vlp_step hlt]; try exact congrArg (vlp _ n (i + 1)) (by first | rfl | (clear Cx hr hlk; simp_all [-Int32.not_lt, -Int32.not_le])))
  refine vV_iconst (v := 0) Cx dX4_summits_0 (by decide) ?_
  refine vV_istore_n Cx 1 dX4_summits_1 rfl (by decide) ?_
  refine vV_iconst (v := 0) Cx dX4_summits_2 (by decide) ?_
  refine vV_istore_n Cx 2 dX4_summits_3 rfl (by decide) ?_
  exact Lp (n + 1) 0 _ (by omega) (by omega) rfl
abbrev rX4_inState : Room := { frames := 1, cells := 0, slots := 0, locals := 22 }
set_option maxRecDepth 100000 in
set_option maxHeartbeats 4000000 in
theorem KX4_inState {l : Launch} {D : va_G} {cI cZ : ClassId} {ad : Nat → Nat} {A : Nat → Prop} {E C N : mT} {n : Nat} (hn : E 8 2 = nI n) (h12n : n ≤ 12) (q : Int32) : vKi l D (vtys cI cZ) A yX4_inState (uT yX4_inState cX4_inState 4 (some .int)) rX4_inState (wN cI cZ ad E C N) [.ref (ad 0), .int q] (c_inS n q C) (wN cI cZ ad E C N) := by
  refine vKi_of (cc := cX4_inState) (maxL := 4) (ret := some .int) (by decide) rfl rfl (Nat.le_of_ble_eq_true rfl) ?_
  intro p e s m below meth c Cx hr hlk
  have Lp : ∀ (fuel i : Nat) (a : Int32), i ≤ n → n - i < fuel → vlp (fun i a => if C 0 i = q then a + 1 else a) n i a = c_inS n q C → vV D (vtys cI cZ) A 4 p l e rX4_inState s m ([.ref (ad 0), .int q] : List Value).toArray below meth c 0 0 (MQ below (vQi D A (c_inS n q C) (wN cI cZ ad E C N)) ([.ref (ad 0), .int q] : List Value).toArray s 0 0 A) (wN cI cZ ad E C N) [.ref (ad 0), .int q, .int a, .int (nI i)] 4 [] := by
    intro fuel
    induction fuel with
    | zero => intro i a h1 h2; exact absurd h2 (Nat.not_lt_zero _)
    | succ fuel ih =>
      intro i a h1 h2 h3
      refine vV_iload_n Cx 3 dX4_inState_4 rfl rfl ?_
      refine vV_aload_n Cx 0 dX4_inState_5 rfl rfl ?_
      refine vU_get Cx hinX4 0 rfl rfl 8 (by decide) u2_235 rfl dX4_inState_6 ?_
      refine vV_icmp_ge (tgt := 31) Cx dX4_inState_9 (by decide) (fun h9 => ?_) (fun h9 => ?_)
      · rw [hn] at h9
        have hin := vix_ge h9 (by omega) h1
        refine vV_iload_n Cx 2 dX4_inState_31 rfl rfl ?_
        exact vV_iret Cx hr hlk dX4_inState_32 (by rw [hin, vlp_done (Nat.le_refl _)] at h3; exact h3) (by rfl)
      · rw [hn] at h9
        have hlt := vix_lt h9 (by omega) h1
        have hi : vix (nI i) 12 i := vix_nI (by omega) (by decide)
        refine vV_aload_n Cx 0 dX4_inState_12 rfl rfl ?_
        refine vV_iload_n Cx 3 dX4_inState_13 rfl rfl ?_
        refine vV_iconst (v := 0) Cx dX4_inState_14 (by decide) ?_
        refine vV_callVi Cx (KX4_get hi v7_0) (cwV 2 Cx.1.2.2.2.2 (uGV u3_113 u3_115 us_24 u1_7 u3_116) rfl rfl rfl hdX4_get ⟨Nat.le_of_ble_eq_true rfl, Nat.le_of_ble_eq_true rfl⟩) 0 rfl rfl rfl rfl (Nat.le_of_ble_eq_true rfl) ⟨Nat.zero_le _, Nat.zero_le _⟩ dX4_inState_15 ?_
        refine vV_iload_n Cx 1 dX4_inState_18 rfl rfl ?_
        refine vV_icmp_ne (tgt := 25) Cx dX4_inState_19 (by decide) (fun h19 => ?_) (fun h19 => ?_)
        · refine vV_iinc Cx dX4_inState_25 rfl (vinc _) (by decide) ?_
          refine vV_goto (tgt := 4) Cx dX4_inState_28 (by decide) ?_
          exact ih (i + 1) _ (by omega) (by omega) (by rw [← h3, vlp_step hlt]; try exact congrArg (vlp _ n (i + 1)) (by first | rfl | (clear Cx hr hlk; simp_all [-Int32.not_lt, -Int32.not_le])))
        · refine vV_iinc Cx dX4_inState_22 rfl (vinc1 _) (by decide) ?_
          refine vV_iinc Cx dX4_inState_25 rfl (vinc _) (by decide) ?_
          refine vV_goto (tgt := 4) Cx dX4_inState_28 (by decide) ?_
          exact ih (i + 1) _ (by omega) (by omega) (by rw [← h3, vlp_step hlt]; try exact congrArg (vlp _ n (i + 1)) (by first | rfl | (clear Cx hr hlk; simp_all [-Int32.not_lt, -Int32.not_le])))
  refine vV_iconst (v := 0) Cx dX4_inState_0 (by decide) ?_
  refine vV_istore_n Cx 2 dX4_inState_1 rfl (by decide) ?_
  refine vV_iconst (v := 0) Cx dX4_inState_2 (by decide) ?_
  refine vV_istore_n Cx 3 dX4_inState_3 rfl (by decide) ?_
  exact Lp (n + 1) 0 _ (by omega) (by omega) rfl
abbrev rX4_waits : Room := { frames := 1, cells := 0, slots := 0, locals := 22 }
set_option maxRecDepth 100000 in
set_option maxHeartbeats 4000000 in
theorem KX4_waits {l : Launch} {D : va_G} {cI cZ : ClassId} {ad : Nat → Nat} {A : Nat → Prop} {E C N : mT} {n : Nat} (hn : E 8 2 = nI n) (h12n : n ≤ 12) : vKi l D (vtys cI cZ) A yX4_waits (uT yX4_waits cX4_waits 3 (some .int)) rX4_waits (wN cI cZ ad E C N) [.ref (ad 0)] (c_wts n C) (wN cI cZ ad E C N) := by
  refine vKi_of (cc := cX4_waits) (maxL := 3) (ret := some .int) (by decide) rfl rfl (Nat.le_of_ble_eq_true rfl) ?_
  intro p e s m below meth c Cx hr hlk
  have Lp : ∀ (fuel i : Nat) (a : Int32), i ≤ n → n - i < fuel → vlp (fun i a => a + C 5 i) n i a = c_wts n C → vV D (vtys cI cZ) A 3 p l e rX4_waits s m ([.ref (ad 0)] : List Value).toArray below meth c 0 0 (MQ below (vQi D A (c_wts n C) (wN cI cZ ad E C N)) ([.ref (ad 0)] : List Value).toArray s 0 0 A) (wN cI cZ ad E C N) [.ref (ad 0), .int a, .int (nI i)] 4 [] := by
    intro fuel
    induction fuel with
    | zero => intro i a h1 h2; exact absurd h2 (Nat.not_lt_zero _)
    | succ fuel ih =>
      intro i a h1 h2 h3
      refine vV_iload_n Cx 2 dX4_waits_4 rfl rfl ?_
      refine vV_aload_n Cx 0 dX4_waits_5 rfl rfl ?_
      refine vU_get Cx hinX4 0 rfl rfl 8 (by decide) u2_235 rfl dX4_waits_6 ?_
      refine vV_icmp_ge (tgt := 27) Cx dX4_waits_9 (by decide) (fun h9 => ?_) (fun h9 => ?_)
      · rw [hn] at h9
        have hin := vix_ge h9 (by omega) h1
        refine vV_iload_n Cx 1 dX4_waits_27 rfl rfl ?_
        exact vV_iret Cx hr hlk dX4_waits_28 (by rw [hin, vlp_done (Nat.le_refl _)] at h3; exact h3) (by rfl)
      · rw [hn] at h9
        have hlt := vix_lt h9 (by omega) h1
        have hi : vix (nI i) 12 i := vix_nI (by omega) (by decide)
        refine vV_iload_n Cx 1 dX4_waits_12 rfl rfl ?_
        refine vV_aload_n Cx 0 dX4_waits_13 rfl rfl ?_
        refine vV_iload_n Cx 2 dX4_waits_14 rfl rfl ?_
        refine vV_iconst (v := 5) Cx dX4_waits_15 (by decide) ?_
        refine vV_callVi Cx (KX4_get hi v7_5) (cwV 2 Cx.1.2.2.2.2 (uGV u3_113 u3_115 us_24 u1_7 u3_116) rfl rfl rfl hdX4_get ⟨Nat.le_of_ble_eq_true rfl, Nat.le_of_ble_eq_true rfl⟩) 0 rfl rfl rfl rfl (Nat.le_of_ble_eq_true rfl) ⟨Nat.zero_le _, Nat.zero_le _⟩ dX4_waits_16 ?_
        refine vV_iadd Cx dX4_waits_19 ?_
        refine vV_istore_n Cx 1 dX4_waits_20 rfl (by decide) ?_
        refine vV_iinc Cx dX4_waits_21 rfl (vinc _) (by decide) ?_
        refine vV_goto (tgt := 4) Cx dX4_waits_24 (by decide) ?_
        exact ih (i + 1) _ (by omega) (by omega) (by rw [← h3, vlp_step hlt]; try exact congrArg (vlp _ n (i + 1)) (by first | rfl | (clear Cx hr hlk; simp_all [-Int32.not_lt, -Int32.not_le])))
  refine vV_iconst (v := 0) Cx dX4_waits_0 (by decide) ?_
  refine vV_istore_n Cx 1 dX4_waits_1 rfl (by decide) ?_
  refine vV_iconst (v := 0) Cx dX4_waits_2 (by decide) ?_
  refine vV_istore_n Cx 2 dX4_waits_3 rfl (by decide) ?_
  exact Lp (n + 1) 0 _ (by omega) (by omega) rfl
abbrev rX4_count : Room := { frames := 2, cells := 0, slots := 0, locals := 45 }
set_option maxRecDepth 100000 in
set_option maxHeartbeats 4000000 in
theorem KX4_count {l : Launch} {D : va_G} {cI cZ : ClassId} {ad : Nat → Nat} {A : Nat → Prop} {E C N : mT} {n : Nat} (hn : E 8 2 = nI n) (h12n : n ≤ 12) (v : Int32) : vKi l D (vtys cI cZ) A yX4_count (uT yX4_count cX4_count 2 (some .int)) rX4_count (wN cI cZ ad E C N) [.ref (ad 0), .int v] (a_count E n v C) (wN cI cZ ad E C (cS N 2 0 0)) := by
  refine vKi_of (cc := cX4_count) (maxL := 2) (ret := some .int) (by decide) rfl rfl (Nat.le_of_ble_eq_true rfl) ?_
  intro p e s m below meth c Cx hr hlk
  refine vV_aload_n Cx 0 dX4_count_0 rfl rfl ?_
  refine vV_iconst (v := 0) Cx dX4_count_1 (by decide) ?_
  refine vU_put Cx hinX4 tyX4_ok nmX4 0 rfl rfl 15 (by decide) u3_2 rfl (by decide +kernel) (Nat.le_of_ble_eq_true rfl) dX4_count_2 np_thrown ?_
  refine vV_iload_n Cx 1 dX4_count_5 rfl rfl ?_
  rcases tsw8 v with rfl | rfl | rfl | rfl | rfl | rfl | rfl | rfl | hout
  · refine vV_tableIn (tgt := 52) Cx dX4_count_6 (by decide) (by decide) rfl (by decide) ?_
    refine vV_aload_n Cx 0 dX4_count_52 rfl rfl ?_
    refine vU_get Cx hinX4 0 rfl rfl 0 (by decide) u2_227 rfl dX4_count_53 ?_
    exact vV_iret Cx hr hlk dX4_count_56 (by rfl) (by rfl)
  · refine vV_tableIn (tgt := 57) Cx dX4_count_6 (by decide) (by decide) rfl (by decide) ?_
    refine vV_aload_n Cx 0 dX4_count_57 rfl rfl ?_
    refine vU_get Cx hinX4 0 rfl rfl 8 (by decide) u2_235 rfl dX4_count_58 ?_
    exact vV_iret Cx hr hlk dX4_count_61 (by rfl) (by rfl)
  · refine vV_tableIn (tgt := 62) Cx dX4_count_6 (by decide) (by decide) rfl (by decide) ?_
    refine vV_aload_n Cx 0 dX4_count_62 rfl rfl ?_
    refine vU_get Cx hinX4 0 rfl rfl 4 (by decide) u2_231 rfl dX4_count_63 ?_
    exact vV_iret Cx hr hlk dX4_count_66 (by rfl) (by rfl)
  · refine vV_tableIn (tgt := 67) Cx dX4_count_6 (by decide) (by decide) rfl (by decide) ?_
    refine vV_aload_n Cx 0 dX4_count_67 rfl rfl ?_
    refine vU_get Cx hinX4 0 rfl rfl 3 (by decide) u2_230 rfl dX4_count_68 ?_
    exact vV_iret Cx hr hlk dX4_count_71 (by rfl) (by rfl)
  · refine vV_tableIn (tgt := 72) Cx dX4_count_6 (by decide) (by decide) rfl (by decide) ?_
    refine vV_aload_n Cx 0 dX4_count_72 rfl rfl ?_
    refine vV_callVi Cx (KX4_summits hn h12n) (cwV 0 Cx.1.2.2.2.2 (uGV u3_146 u3_148 us_31 u1_7 u3_149) rfl rfl rfl hdX4_summits ⟨Nat.le_of_ble_eq_true rfl, Nat.le_of_ble_eq_true rfl⟩) 0 rfl rfl rfl rfl (Nat.le_of_ble_eq_true rfl) ⟨Nat.zero_le _, Nat.zero_le _⟩ dX4_count_73 ?_
    exact vV_iret Cx hr hlk dX4_count_76 (by rfl) (by rfl)
  · refine vV_tableIn (tgt := 77) Cx dX4_count_6 (by decide) (by decide) rfl (by decide) ?_
    refine vV_aload_n Cx 0 dX4_count_77 rfl rfl ?_
    refine vV_iconst (v := 3) Cx dX4_count_78 (by decide) ?_
    refine vV_callVi Cx (KX4_inState hn h12n _) (cwV 1 Cx.1.2.2.2.2 (uGV u3_150 u3_152 us_32 u1_7 u3_153) rfl rfl rfl hdX4_inState ⟨Nat.le_of_ble_eq_true rfl, Nat.le_of_ble_eq_true rfl⟩) 0 rfl rfl rfl rfl (Nat.le_of_ble_eq_true rfl) ⟨Nat.zero_le _, Nat.zero_le _⟩ dX4_count_79 ?_
    exact vV_iret Cx hr hlk dX4_count_82 (by rfl) (by rfl)
  · refine vV_tableIn (tgt := 83) Cx dX4_count_6 (by decide) (by decide) rfl (by decide) ?_
    refine vV_aload_n Cx 0 dX4_count_83 rfl rfl ?_
    refine vV_iconst (v := 4) Cx dX4_count_84 (by decide) ?_
    refine vV_callVi Cx (KX4_inState hn h12n _) (cwV 1 Cx.1.2.2.2.2 (uGV u3_150 u3_152 us_32 u1_7 u3_153) rfl rfl rfl hdX4_inState ⟨Nat.le_of_ble_eq_true rfl, Nat.le_of_ble_eq_true rfl⟩) 0 rfl rfl rfl rfl (Nat.le_of_ble_eq_true rfl) ⟨Nat.zero_le _, Nat.zero_le _⟩ dX4_count_85 ?_
    exact vV_iret Cx hr hlk dX4_count_88 (by rfl) (by rfl)
  · refine vV_tableIn (tgt := 89) Cx dX4_count_6 (by decide) (by decide) rfl (by decide) ?_
    refine vV_aload_n Cx 0 dX4_count_89 rfl rfl ?_
    refine vV_callVi Cx (KX4_waits hn h12n) (cwV 0 Cx.1.2.2.2.2 (uGV u3_154 u3_156 us_33 u1_7 u3_157) rfl rfl rfl hdX4_waits ⟨Nat.le_of_ble_eq_true rfl, Nat.le_of_ble_eq_true rfl⟩) 0 rfl rfl rfl rfl (Nat.le_of_ble_eq_true rfl) ⟨Nat.zero_le _, Nat.zero_le _⟩ dX4_count_90 ?_
    exact vV_iret Cx hr hlk dX4_count_93 (by rfl) (by rfl)
  · refine vV_tableOut (tgt := 94) Cx dX4_count_6 hout (by decide) ?_
    refine vV_iconst (v := -1) Cx dX4_count_94 (by decide) ?_
    exact vV_iret Cx hr hlk dX4_count_95 (by exact a_count_out E n C hout) (by rfl)
def r_of (E : mT) (v y : Int32) : Int32 := if isW v 0 (E 8 2 - 1) = 0 then 0 else if isW y 0 6 = 0 then 0 else 1
def ma_of (E C : mT) (v y : Int32) : Int32 := if r_of E v y = 0 then 0 else C y.toNatClampNeg v.toNatClampNeg
abbrev rX4_of : Room := { frames := 1, cells := 0, slots := 0, locals := 22 }
set_option maxRecDepth 100000 in
set_option maxHeartbeats 4000000 in
theorem KX4_of {l : Launch} {D : va_G} {cI cZ : ClassId} {ad : Nat → Nat} {A : Nat → Prop} {E C N : mT} {n : Nat} (hn : E 8 2 = nI n) (h12n : n ≤ 12) (v y : Int32) : vKi l D (vtys cI cZ) A yX4_of (uT yX4_of cX4_of 3 (some .int)) rX4_of (wN cI cZ ad E C N) [.ref (ad 0), .int v, .int y] (ma_of E C v y) (wN cI cZ ad E C (cS (cS N 2 0 0) 2 0 (if r_of E v y = 0 then 1 else 0))) := by
  refine vKi_of (cc := cX4_of) (maxL := 3) (ret := some .int) (by decide) rfl rfl (Nat.le_of_ble_eq_true rfl) ?_
  intro p e s m below meth c Cx hr hlk
  refine vV_aload_n Cx 0 dX4_of_0 rfl rfl ?_
  refine vV_iconst (v := 0) Cx dX4_of_1 (by decide) ?_
  refine vU_put Cx hinX4 tyX4_ok nmX4 0 rfl rfl 15 (by decide) u3_2 rfl (by decide +kernel) (Nat.le_of_ble_eq_true rfl) dX4_of_2 np_thrown ?_
  refine vV_iload_n Cx 1 dX4_of_5 rfl rfl ?_
  refine vV_iconst (v := 0) Cx dX4_of_6 (by decide) ?_
  refine vV_aload_n Cx 0 dX4_of_7 rfl rfl ?_
  refine vU_get Cx hinX4 0 rfl rfl 8 (by decide) u2_235 rfl dX4_of_8 ?_
  refine vV_iconst (v := 1) Cx dX4_of_11 (by decide) ?_
  refine vV_isub Cx dX4_of_12 ?_
  refine vV_callSi Cx (KX4_in (ad := ad) _ _ _ _) (cwS 3 Cx.1.2.2.2.2 (uGS u3_53 u3_54 u1_7 u3_55) rfl rfl rfl hdX4_in ⟨Nat.le_of_ble_eq_true rfl, Nat.le_of_ble_eq_true rfl⟩) rfl rfl (Nat.le_of_ble_eq_true rfl) ⟨Nat.zero_le _, Nat.zero_le _⟩ dX4_of_13 ?_
  refine vV_if_eq (tgt := 29) Cx dX4_of_16 (by decide) (fun h16 => ?_) (fun h16 => ?_)
  · refine vV_aload_n Cx 0 dX4_of_29 rfl rfl ?_
    refine vV_iconst (v := 1) Cx dX4_of_30 (by decide) ?_
    refine vU_put Cx hinX4 tyX4_ok nmX4 0 rfl rfl 15 (by decide) u3_2 rfl (by decide +kernel) (Nat.le_of_ble_eq_true rfl) dX4_of_31 np_thrown ?_
    refine vV_iconst (v := 0) Cx dX4_of_34 (by decide) ?_
    exact vV_iret Cx hr hlk dX4_of_35 (by simp [ma_of, r_of, h16]) (by first | (simp [r_of, h16]; done) | (simp [r_of, h16, e0]))
  · refine vV_iload_n Cx 2 dX4_of_19 rfl rfl ?_
    refine vV_iconst (v := 0) Cx dX4_of_20 (by decide) ?_
    refine vV_bipush (v := 6) Cx dX4_of_21 (by decide) ?_
    refine vV_callSi Cx (KX4_in (ad := ad) _ _ _ _) (cwS 3 Cx.1.2.2.2.2 (uGS u3_53 u3_54 u1_7 u3_55) rfl rfl rfl hdX4_in ⟨Nat.le_of_ble_eq_true rfl, Nat.le_of_ble_eq_true rfl⟩) rfl rfl (Nat.le_of_ble_eq_true rfl) ⟨Nat.zero_le _, Nat.zero_le _⟩ dX4_of_23 ?_
    refine vV_if_ne (tgt := 36) Cx dX4_of_26 (by decide) (fun h26 => ?_) (fun h26 => ?_)
    · have hi : vix v 12 v.toNatClampNeg := by rw [hn] at h16; obtain ⟨j, hj, rfl⟩ := isW_nI1 h16 (by omega); exact ⟨(vix_nI (n := 12) (by omega) (by decide)).1, rfl⟩
      have hy : vix y 7 y.toNatClampNeg := vix_of (M := 6) rfl (isW_in h26).1 (isW_in h26).2
      have e0 : cS (cS N 2 0 0) 2 0 0 = cS N 2 0 0 := cS_cS N 2 0 0 0
      refine vV_aload_n Cx 0 dX4_of_36 rfl rfl ?_
      refine vV_iload_n Cx 1 dX4_of_37 rfl rfl ?_
      refine vV_iload_n Cx 2 dX4_of_38 rfl rfl ?_
      refine vV_callVi Cx (KX4_get hi hy) (cwV 2 Cx.1.2.2.2.2 (uGV u3_113 u3_115 us_24 u1_7 u3_116) rfl rfl rfl hdX4_get ⟨Nat.le_of_ble_eq_true rfl, Nat.le_of_ble_eq_true rfl⟩) 0 rfl rfl rfl rfl (Nat.le_of_ble_eq_true rfl) ⟨Nat.zero_le _, Nat.zero_le _⟩ dX4_of_39 ?_
      exact vV_iret Cx hr hlk dX4_of_42 (by simp [ma_of, r_of, h16, h26]) (by first | (simp [r_of, h16, h26]; done) | (simp [r_of, h16, h26, e0]))
    · refine vV_aload_n Cx 0 dX4_of_29 rfl rfl ?_
      refine vV_iconst (v := 1) Cx dX4_of_30 (by decide) ?_
      refine vU_put Cx hinX4 tyX4_ok nmX4 0 rfl rfl 15 (by decide) u3_2 rfl (by decide +kernel) (Nat.le_of_ble_eq_true rfl) dX4_of_31 np_thrown ?_
      refine vV_iconst (v := 0) Cx dX4_of_34 (by decide) ?_
      exact vV_iret Cx hr hlk dX4_of_35 (by simp [ma_of, r_of, h16, h26]) (by first | (simp [r_of, h16, h26]; done) | (simp [r_of, h16, h26, e0]))
def m_onF (q : Int32) (C : mT) (i : Nat) (a : Int32) : Int32 := if C 2 i = 0 then a else if m_po i C = q then a + 1 else a
def ma_on (E : mT) (n : Nat) (v : Int32) (C : mT) : Int32 := if isW v 0 (E 8 0 - 1) = 0 then -1 else vlp (m_onF v C) n 0 0
def ma_at (E : mT) (n : Nat) (v : Int32) (C : mT) : Int32 := if isW v 0 (E 8 0) = 0 then -1 else c_atC n v C
abbrev rX4_on : Room := { frames := 2, cells := 0, slots := 0, locals := 43 }
set_option maxRecDepth 100000 in
set_option maxHeartbeats 4000000 in
theorem KX4_on {l : Launch} {D : va_G} {cI cZ : ClassId} {ad : Nat → Nat} {A : Nat → Prop} {E C N : mT} {n : Nat} (hn : E 8 2 = nI n) (h12n : n ≤ 12) (v : Int32) : vKi l D (vtys cI cZ) A yX4_on (uT yX4_on cX4_on 4 (some .int)) rX4_on (wN cI cZ ad E C N) [.ref (ad 0), .int v] (ma_on E n v C) (wN cI cZ ad E C (cS N 2 0 0)) := by
  refine vKi_of (cc := cX4_on) (maxL := 4) (ret := some .int) (by decide) rfl rfl (Nat.le_of_ble_eq_true rfl) ?_
  intro p e s m below meth c Cx hr hlk
  have Lp : ∀ (fuel i : Nat) (a : Int32), i ≤ n → n - i < fuel → vlp (m_onF v C) n i a = ma_on E n v C → vV D (vtys cI cZ) A 4 p l e rX4_on s m ([.ref (ad 0), .int v] : List Value).toArray below meth c 0 0 (MQ below (vQi D A (ma_on E n v C) (wN cI cZ ad E C (cS N 2 0 0))) ([.ref (ad 0), .int v] : List Value).toArray s 0 0 A) (wN cI cZ ad E C (cS N 2 0 0)) [.ref (ad 0), .int v, .int a, .int (nI i)] 19 [] := by
    intro fuel
    induction fuel with
    | zero => intro i a h1 h2; exact absurd h2 (Nat.not_lt_zero _)
    | succ fuel ih =>
      intro i a h1 h2 h3
      refine vV_iload_n Cx 3 dX4_on_19 rfl rfl ?_
      refine vV_aload_n Cx 0 dX4_on_20 rfl rfl ?_
      refine vU_get Cx hinX4 0 rfl rfl 8 (by decide) u2_235 rfl dX4_on_21 ?_
      refine vV_icmp_ge (tgt := 53) Cx dX4_on_24 (by decide) (fun h24 => ?_) (fun h24 => ?_)
      · rw [hn] at h24
        have hin := vix_ge h24 (by omega) h1
        refine vV_iload_n Cx 2 dX4_on_53 rfl rfl ?_
        exact vV_iret Cx hr hlk dX4_on_54 (by rw [hin, vlp_done (Nat.le_refl _)] at h3; exact h3) (by rfl)
      · rw [hn] at h24
        have hlt := vix_lt h24 (by omega) h1
        have hi : vix (nI i) 12 i := vix_nI (by omega) (by decide)
        refine vV_aload_n Cx 0 dX4_on_27 rfl rfl ?_
        refine vV_iload_n Cx 3 dX4_on_28 rfl rfl ?_
        refine vV_callVi Cx (KX4_isAtCamp hi) (cwV 1 Cx.1.2.2.2.2 (uGV u3_109 u3_111 us_23 u1_7 u3_112) rfl rfl rfl hdX4_isAtCamp ⟨Nat.le_of_ble_eq_true rfl, Nat.le_of_ble_eq_true rfl⟩) 0 rfl rfl rfl rfl (Nat.le_of_ble_eq_true rfl) ⟨Nat.zero_le _, Nat.zero_le _⟩ dX4_on_29 ?_
        refine vV_if_ne (tgt := 47) Cx dX4_on_32 (by decide) (fun h32 => ?_) (fun h32 => ?_)
        · refine vV_iinc Cx dX4_on_47 rfl (vinc _) (by decide) ?_
          refine vV_goto (tgt := 19) Cx dX4_on_50 (by decide) ?_
          exact ih (i + 1) _ (by omega) (by omega) (by rw [← h3, vlp_step hlt]; try exact congrArg (vlp _ n (i + 1)) (by first | rfl | (clear Cx hr hlk; simp_all [-Int32.not_lt, -Int32.not_le, m_onF, m_ac])))
        · refine vV_aload_n Cx 0 dX4_on_35 rfl rfl ?_
          refine vV_iload_n Cx 3 dX4_on_36 rfl rfl ?_
          refine vV_callVi Cx (KX4_pitchOf hi) (cwV 1 Cx.1.2.2.2.2 (uGV u3_137 u3_139 us_30 u1_7 u3_140) rfl rfl rfl hdX4_pitchOf ⟨Nat.le_of_ble_eq_true rfl, Nat.le_of_ble_eq_true rfl⟩) 0 rfl rfl rfl rfl (Nat.le_of_ble_eq_true rfl) ⟨Nat.zero_le _, Nat.zero_le _⟩ dX4_on_37 ?_
          refine vV_iload_n Cx 1 dX4_on_40 rfl rfl ?_
          refine vV_icmp_ne (tgt := 47) Cx dX4_on_41 (by decide) (fun h41 => ?_) (fun h41 => ?_)
          · refine vV_iinc Cx dX4_on_47 rfl (vinc _) (by decide) ?_
            refine vV_goto (tgt := 19) Cx dX4_on_50 (by decide) ?_
            exact ih (i + 1) _ (by omega) (by omega) (by rw [← h3, vlp_step hlt]; try exact congrArg (vlp _ n (i + 1)) (by first | rfl | (clear Cx hr hlk; simp_all [-Int32.not_lt, -Int32.not_le, m_onF, m_ac])))
          · refine vV_iinc Cx dX4_on_44 rfl (vinc1 _) (by decide) ?_
            refine vV_iinc Cx dX4_on_47 rfl (vinc _) (by decide) ?_
            refine vV_goto (tgt := 19) Cx dX4_on_50 (by decide) ?_
            exact ih (i + 1) _ (by omega) (by omega) (by rw [← h3, vlp_step hlt]; try exact congrArg (vlp _ n (i + 1)) (by first | rfl | (clear Cx hr hlk; simp_all [-Int32.not_lt, -Int32.not_le, m_onF, m_ac])))
  refine vV_aload_n Cx 0 dX4_on_0 rfl rfl ?_
  refine vV_iconst (v := 0) Cx dX4_on_1 (by decide) ?_
  refine vU_put Cx hinX4 tyX4_ok nmX4 0 rfl rfl 15 (by decide) u3_2 rfl (by decide +kernel) (Nat.le_of_ble_eq_true rfl) dX4_on_2 np_thrown ?_
  refine vV_aload_n Cx 0 dX4_on_5 rfl rfl ?_
  refine vV_iload_n Cx 1 dX4_on_6 rfl rfl ?_
  refine vV_callVi Cx (KX4_isPitch v) (cwV 1 Cx.1.2.2.2.2 (uGV u3_73 u3_75 us_20 u1_7 u3_76) rfl rfl rfl hdX4_isPitch ⟨Nat.le_of_ble_eq_true rfl, Nat.le_of_ble_eq_true rfl⟩) 0 rfl rfl rfl rfl (Nat.le_of_ble_eq_true rfl) ⟨Nat.zero_le _, Nat.zero_le _⟩ dX4_on_7 ?_
  refine vV_if_ne (tgt := 15) Cx dX4_on_10 (by decide) (fun h10 => ?_) (fun h10 => ?_)
  · refine vV_iconst (v := 0) Cx dX4_on_15 (by decide) ?_
    refine vV_istore_n Cx 2 dX4_on_16 rfl (by decide) ?_
    refine vV_iconst (v := 0) Cx dX4_on_17 (by decide) ?_
    refine vV_istore_n Cx 3 dX4_on_18 rfl (by decide) ?_
    exact Lp (n + 1) 0 _ (by omega) (by omega) (by rw [ma_on, if_neg h10]; try rfl)
  · refine vV_iconst (v := -1) Cx dX4_on_13 (by decide) ?_
    exact vV_iret Cx hr hlk dX4_on_14 (by simp [ma_on, h10]) (by rfl)
abbrev rX4_at : Room := { frames := 2, cells := 0, slots := 0, locals := 43 }
set_option maxRecDepth 100000 in
set_option maxHeartbeats 4000000 in
theorem KX4_at {l : Launch} {D : va_G} {cI cZ : ClassId} {ad : Nat → Nat} {A : Nat → Prop} {E C N : mT} {n : Nat} (hn : E 8 2 = nI n) (h12n : n ≤ 12) (v : Int32) : vKi l D (vtys cI cZ) A yX4_at (uT yX4_at cX4_at 4 (some .int)) rX4_at (wN cI cZ ad E C N) [.ref (ad 0), .int v] (ma_at E n v C) (wN cI cZ ad E C (cS N 2 0 0)) := by
  refine vKi_of (cc := cX4_at) (maxL := 4) (ret := some .int) (by decide) rfl rfl (Nat.le_of_ble_eq_true rfl) ?_
  intro p e s m below meth c Cx hr hlk
  have Lp : ∀ (fuel i : Nat) (a : Int32), i ≤ n → n - i < fuel → vlp (fun i a => if C 2 i = 0 then (if C 1 i = v then a + 1 else a) else a) n i a = ma_at E n v C → vV D (vtys cI cZ) A 4 p l e rX4_at s m ([.ref (ad 0), .int v] : List Value).toArray below meth c 0 0 (MQ below (vQi D A (ma_at E n v C) (wN cI cZ ad E C (cS N 2 0 0))) ([.ref (ad 0), .int v] : List Value).toArray s 0 0 A) (wN cI cZ ad E C (cS N 2 0 0)) [.ref (ad 0), .int v, .int a, .int (nI i)] 23 [] := by
    intro fuel
    induction fuel with
    | zero => intro i a h1 h2; exact absurd h2 (Nat.not_lt_zero _)
    | succ fuel ih =>
      intro i a h1 h2 h3
      refine vV_iload_n Cx 3 dX4_at_23 rfl rfl ?_
      refine vV_aload_n Cx 0 dX4_at_24 rfl rfl ?_
      refine vU_get Cx hinX4 0 rfl rfl 8 (by decide) u2_235 rfl dX4_at_25 ?_
      refine vV_icmp_ge (tgt := 58) Cx dX4_at_28 (by decide) (fun h28 => ?_) (fun h28 => ?_)
      · rw [hn] at h28
        have hin := vix_ge h28 (by omega) h1
        refine vV_iload_n Cx 2 dX4_at_58 rfl rfl ?_
        exact vV_iret Cx hr hlk dX4_at_59 (by rw [hin, vlp_done (Nat.le_refl _)] at h3; exact h3) (by rfl)
      · rw [hn] at h28
        have hlt := vix_lt h28 (by omega) h1
        have hi : vix (nI i) 12 i := vix_nI (by omega) (by decide)
        refine vV_aload_n Cx 0 dX4_at_31 rfl rfl ?_
        refine vV_iload_n Cx 3 dX4_at_32 rfl rfl ?_
        refine vV_callVi Cx (KX4_isAtCamp hi) (cwV 1 Cx.1.2.2.2.2 (uGV u3_109 u3_111 us_23 u1_7 u3_112) rfl rfl rfl hdX4_isAtCamp ⟨Nat.le_of_ble_eq_true rfl, Nat.le_of_ble_eq_true rfl⟩) 0 rfl rfl rfl rfl (Nat.le_of_ble_eq_true rfl) ⟨Nat.zero_le _, Nat.zero_le _⟩ dX4_at_33 ?_
        refine vV_if_eq (tgt := 52) Cx dX4_at_36 (by decide) (fun h36 => ?_) (fun h36 => ?_)
        · refine vV_iinc Cx dX4_at_52 rfl (vinc _) (by decide) ?_
          refine vV_goto (tgt := 23) Cx dX4_at_55 (by decide) ?_
          exact ih (i + 1) _ (by omega) (by omega) (by rw [← h3, vlp_step hlt]; try exact congrArg (vlp _ n (i + 1)) (by first | rfl | (clear Cx hr hlk; simp_all [-Int32.not_lt, -Int32.not_le, m_ac])))
        · refine vV_aload_n Cx 0 dX4_at_39 rfl rfl ?_
          refine vV_iload_n Cx 3 dX4_at_40 rfl rfl ?_
          refine vV_iconst (v := 1) Cx dX4_at_41 (by decide) ?_
          refine vV_callVi Cx (KX4_get hi v7_1) (cwV 2 Cx.1.2.2.2.2 (uGV u3_113 u3_115 us_24 u1_7 u3_116) rfl rfl rfl hdX4_get ⟨Nat.le_of_ble_eq_true rfl, Nat.le_of_ble_eq_true rfl⟩) 0 rfl rfl rfl rfl (Nat.le_of_ble_eq_true rfl) ⟨Nat.zero_le _, Nat.zero_le _⟩ dX4_at_42 ?_
          refine vV_iload_n Cx 1 dX4_at_45 rfl rfl ?_
          refine vV_icmp_ne (tgt := 52) Cx dX4_at_46 (by decide) (fun h46 => ?_) (fun h46 => ?_)
          · refine vV_iinc Cx dX4_at_52 rfl (vinc _) (by decide) ?_
            refine vV_goto (tgt := 23) Cx dX4_at_55 (by decide) ?_
            exact ih (i + 1) _ (by omega) (by omega) (by rw [← h3, vlp_step hlt]; try exact congrArg (vlp _ n (i + 1)) (by first | rfl | (clear Cx hr hlk; simp_all [-Int32.not_lt, -Int32.not_le, m_ac])))
          · refine vV_iinc Cx dX4_at_49 rfl (vinc1 _) (by decide) ?_
            refine vV_iinc Cx dX4_at_52 rfl (vinc _) (by decide) ?_
            refine vV_goto (tgt := 23) Cx dX4_at_55 (by decide) ?_
            exact ih (i + 1) _ (by omega) (by omega) (by rw [← h3, vlp_step hlt]; try exact congrArg (vlp _ n (i + 1)) (by first | rfl | (clear Cx hr hlk; simp_all [-Int32.not_lt, -Int32.not_le, m_ac])))
  refine vV_aload_n Cx 0 dX4_at_0 rfl rfl ?_
  refine vV_iconst (v := 0) Cx dX4_at_1 (by decide) ?_
  refine vU_put Cx hinX4 tyX4_ok nmX4 0 rfl rfl 15 (by decide) u3_2 rfl (by decide +kernel) (Nat.le_of_ble_eq_true rfl) dX4_at_2 np_thrown ?_
  refine vV_iload_n Cx 1 dX4_at_5 rfl rfl ?_
  refine vV_iconst (v := 0) Cx dX4_at_6 (by decide) ?_
  refine vV_aload_n Cx 0 dX4_at_7 rfl rfl ?_
  refine vU_get Cx hinX4 0 rfl rfl 0 (by decide) u2_227 rfl dX4_at_8 ?_
  refine vV_callSi Cx (KX4_in (ad := ad) _ _ _ _) (cwS 3 Cx.1.2.2.2.2 (uGS u3_53 u3_54 u1_7 u3_55) rfl rfl rfl hdX4_in ⟨Nat.le_of_ble_eq_true rfl, Nat.le_of_ble_eq_true rfl⟩) rfl rfl (Nat.le_of_ble_eq_true rfl) ⟨Nat.zero_le _, Nat.zero_le _⟩ dX4_at_11 ?_
  refine vV_if_ne (tgt := 19) Cx dX4_at_14 (by decide) (fun h14 => ?_) (fun h14 => ?_)
  · refine vV_iconst (v := 0) Cx dX4_at_19 (by decide) ?_
    refine vV_istore_n Cx 2 dX4_at_20 rfl (by decide) ?_
    refine vV_iconst (v := 0) Cx dX4_at_21 (by decide) ?_
    refine vV_istore_n Cx 3 dX4_at_22 rfl (by decide) ?_
    exact Lp (n + 1) 0 _ (by omega) (by omega) (by rw [ma_at, if_neg h14]; try rfl)
  · refine vV_iconst (v := -1) Cx dX4_at_17 (by decide) ?_
    exact vV_iret Cx hr hlk dX4_at_18 (by simp [ma_at, h14]) (by rfl)
