/-! the reference: the rest of what is asked and told -/
def g1 (E : mT) (i : Nat) (ho : Int32) (s : Nat) (h : Int32) : Int32 := if ho = 0 then h + (E 0 s + E 4 i) else if nI s < E 8 1 then h else h + (E 0 s + E 4 i)
def g2 (E : mT) (ho : Int32) (s : Nat) (h : Int32) : Int32 := if ho = 0 then h + E 0 s else if nI s < E 8 1 then h else h + E 0 s
def m_ht (E : mT) (i ac : Nat) (ho : Int32) (C : mT) : Int32 := vlp (g2 E ho) (cmp C i) ac (vlp (g1 E i ho) ac (cmp C i) 0)
def f_mf (E : mT) (ac : Nat) (C : mT) (i : Nat) (a : Int32) : Int32 := if C 2 i = 0 then (if 2 < C 0 i then a else if C 3 i < 2 * m_ht E i ac 1 C then a else if a = -1 then nI i else if m_ht E i ac 0 C < m_ht E a.toNatClampNeg ac 0 C then nI i else a) else a
def ma_fetch (E : mT) (n : Nat) (v : Int32) (C : mT) : Int32 := if isW v 0 (E 8 2 - 1) = 0 then -1 else if C 0 v.toNatClampNeg = 4 then vlp (f_mf E (cmp C v.toNatClampNeg) C) n 0 (-1) else -1
def m_nd (E : mT) : Nat → Int32 → Int32
  | 0, a => a
  | j + 1, a => if nI j < E 8 1 then m_nd E j a else m_nd E j (a + (a + 2) / 3)
def ma_need (E : mT) (v y : Int32) : Int32 := if isW v 0 (E 8 0) = 0 then -1 else if isW y 0 200 = 0 then -1 else m_nd E v.toNatClampNeg y
def ma_comes (E : mT) (v y : Int32) : Int32 := if isW v 0 (E 8 0) = 0 then -1 else if isW y 0 2000 = 0 then -1 else vlp (fun s a => if nI s < E 8 1 then a else a - (a + 3) / 4) v.toNatClampNeg 0 y
abbrev rX4_hoursTo : Room := { frames := 1, cells := 0, slots := 0, locals := 22 }
set_option maxRecDepth 100000 in
set_option maxHeartbeats 4000000 in
theorem KX4_hoursTo {l : Launch} {D : va_G} {cI cZ : ClassId} {ad : Nat → Nat} {A : Nat → Prop} {E C N : mT} {x : Int32} {i : Nat} (hi : vix x 12 i) (hcm : C 1 i = nI (cmp C i) ∧ cmp C i ≤ 6) {ac : Nat} (hac : ac ≤ 6) (ho : Int32) : vKi l D (vtys cI cZ) A yX4_hoursTo (uT yX4_hoursTo cX4_hoursTo 6 (some .int)) rX4_hoursTo (wN cI cZ ad E C N) [.ref (ad 0), .int x, .int (nI ac), .int ho] (m_ht E i ac ho C) (wN cI cZ ad E C N) := by
  refine vKi_of (cc := cX4_hoursTo) (maxL := 6) (ret := some .int) (by decide) rfl rfl (Nat.le_of_ble_eq_true rfl) ?_
  intro p e s m below meth c Cx hr hlk
  have L58 : ∀ (fuel z : Nat) (a : Int32), cmp C i - z < fuel → z < 100 → vlp (g2 E ho) (cmp C i) z a = m_ht E i ac ho C → vV D (vtys cI cZ) A 6 p l e rX4_hoursTo s m ([.ref (ad 0), .int x, .int (nI ac), .int ho] : List Value).toArray below meth c 0 0 (MQ below (vQi D A (m_ht E i ac ho C) (wN cI cZ ad E C N)) ([.ref (ad 0), .int x, .int (nI ac), .int ho] : List Value).toArray s 0 0 A) (wN cI cZ ad E C N) [.ref (ad 0), .int x, .int (nI ac), .int ho, .int a, .int (nI z)] 58 [] := by
    intro fuel
    induction fuel with
    | zero => intro z a h2; exact absurd h2 (Nat.not_lt_zero _)
    | succ fuel ih =>
      intro z a h2 hs h3
      refine vV_iload Cx dX4_hoursTo_58 rfl ?_
      refine vV_aload_n Cx 0 dX4_hoursTo_60 rfl rfl ?_
      refine vV_iload_n Cx 1 dX4_hoursTo_61 rfl rfl ?_
      refine vV_iconst (v := 1) Cx dX4_hoursTo_62 (by decide) ?_
      refine vV_callVi Cx (KX4_get hi v7_1) (cwV 2 Cx.1.2.2.2.2 (uGV u3_113 u3_115 us_24 u1_7 u3_116) rfl rfl rfl hdX4_get ⟨Nat.le_of_ble_eq_true rfl, Nat.le_of_ble_eq_true rfl⟩) 0 rfl rfl rfl rfl (Nat.le_of_ble_eq_true rfl) ⟨Nat.zero_le _, Nat.zero_le _⟩ dX4_hoursTo_63 ?_
      refine vV_icmp_ge (tgt := 100) Cx dX4_hoursTo_66 (by decide) (fun h66 => ?_) (fun h66 => ?_)
      · rw [hcm.1] at h66
        have hin : cmp C i ≤ z := Nat.le_of_not_lt (fun hh => h66 (nI_lt hh (by omega)))
        refine vV_iload Cx dX4_hoursTo_100 rfl ?_
        exact vV_iret Cx hr hlk dX4_hoursTo_102 (by rw [vlp_done hin] at h3; exact h3) (by rfl)
      · rw [hcm.1] at h66
        have hlt : z < cmp C i := (nI_ltI (by omega) (by omega)).mp h66
        have hj : vix (nI z) 7 z := vix_nI (by omega) (by decide)
        refine vV_iload_n Cx 3 dX4_hoursTo_69 rfl rfl ?_
        refine vV_if_eq (tgt := 82) Cx dX4_hoursTo_70 (by decide) (fun h70 => ?_) (fun h70 => ?_)
        · refine vV_iload Cx dX4_hoursTo_82 rfl ?_
          refine vV_aload_n Cx 0 dX4_hoursTo_84 rfl rfl ?_
          refine vU_get Cx hinX4 0 rfl rfl 1 (by decide) u2_228 rfl dX4_hoursTo_85 ?_
          refine vV_iload Cx dX4_hoursTo_88 rfl ?_
          refine vV_iald Cx 1 0 rfl rfl (by assumption) dX4_hoursTo_90 ?_
          refine vV_iadd Cx dX4_hoursTo_91 ?_
          refine vV_istore Cx dX4_hoursTo_92 (by decide) ?_
          refine vV_iinc Cx dX4_hoursTo_94 rfl (vinc _) (by decide) ?_
          refine vV_goto (tgt := 58) Cx dX4_hoursTo_97 (by decide) ?_
          exact ih (z + 1) _ (by omega) (by omega) (by rw [vlp_step hlt] at h3; simpa [-Int32.not_lt, g2, h66, h70] using h3)
        · refine vV_iload Cx dX4_hoursTo_73 rfl ?_
          refine vV_aload_n Cx 0 dX4_hoursTo_75 rfl rfl ?_
          refine vU_get Cx hinX4 0 rfl rfl 3 (by decide) u2_230 rfl dX4_hoursTo_76 ?_
          refine vV_icmp_lt (tgt := 94) Cx dX4_hoursTo_79 (by decide) (fun h79 => ?_) (fun h79 => ?_)
          · refine vV_iinc Cx dX4_hoursTo_94 rfl (vinc _) (by decide) ?_
            refine vV_goto (tgt := 58) Cx dX4_hoursTo_97 (by decide) ?_
            exact ih (z + 1) _ (by omega) (by omega) (by rw [vlp_step hlt] at h3; simpa [-Int32.not_lt, g2, h66, h70, h79] using h3)
          · refine vV_iload Cx dX4_hoursTo_82 rfl ?_
            refine vV_aload_n Cx 0 dX4_hoursTo_84 rfl rfl ?_
            refine vU_get Cx hinX4 0 rfl rfl 1 (by decide) u2_228 rfl dX4_hoursTo_85 ?_
            refine vV_iload Cx dX4_hoursTo_88 rfl ?_
            refine vV_iald Cx 1 0 rfl rfl (by assumption) dX4_hoursTo_90 ?_
            refine vV_iadd Cx dX4_hoursTo_91 ?_
            refine vV_istore Cx dX4_hoursTo_92 (by decide) ?_
            refine vV_iinc Cx dX4_hoursTo_94 rfl (vinc _) (by decide) ?_
            refine vV_goto (tgt := 58) Cx dX4_hoursTo_97 (by decide) ?_
            exact ih (z + 1) _ (by omega) (by omega) (by rw [vlp_step hlt] at h3; simpa [-Int32.not_lt, g2, h66, h70, h79] using h3)
  have L11 : ∀ (fuel z : Nat) (a : Int32), ac - z < fuel → z < 100 → vV D (vtys cI cZ) A 6 p l e rX4_hoursTo s m ([.ref (ad 0), .int x, .int (nI ac), .int ho] : List Value).toArray below meth c 0 0 (MQ below (vQi D A (m_ht E i ac ho C) (wN cI cZ ad E C N)) ([.ref (ad 0), .int x, .int (nI ac), .int ho] : List Value).toArray s 0 0 A) (wN cI cZ ad E C N) [.ref (ad 0), .int x, .int (nI ac), .int ho, .int (vlp (g1 E i ho) ac z a)] 55 [] → vV D (vtys cI cZ) A 6 p l e rX4_hoursTo s m ([.ref (ad 0), .int x, .int (nI ac), .int ho] : List Value).toArray below meth c 0 0 (MQ below (vQi D A (m_ht E i ac ho C) (wN cI cZ ad E C N)) ([.ref (ad 0), .int x, .int (nI ac), .int ho] : List Value).toArray s 0 0 A) (wN cI cZ ad E C N) [.ref (ad 0), .int x, .int (nI ac), .int ho, .int a, .int (nI z)] 11 [] := by
    intro fuel
    induction fuel with
    | zero => intro z a h2; exact absurd h2 (Nat.not_lt_zero _)
    | succ fuel ih =>
      intro z a h2 hs h3
      refine vV_iload Cx dX4_hoursTo_11 rfl ?_
      refine vV_iload_n Cx 2 dX4_hoursTo_13 rfl rfl ?_
      refine vV_icmp_ge (tgt := 55) Cx dX4_hoursTo_14 (by decide) (fun h14 => ?_) (fun h14 => ?_)
      · have hin : ac ≤ z := Nat.le_of_not_lt (fun hh => h14 (nI_lt hh (by omega)))
        refine vV_take 5 rfl ?_
        rw [vlp_done hin] at h3
        exact h3
      · have hlt : z < ac := (nI_ltI (by omega) (by omega)).mp h14
        have hj : vix (nI z) 7 z := vix_nI (by omega) (by decide)
        refine vV_iload_n Cx 3 dX4_hoursTo_17 rfl rfl ?_
        refine vV_if_eq (tgt := 30) Cx dX4_hoursTo_18 (by decide) (fun h18 => ?_) (fun h18 => ?_)
        · refine vV_iload Cx dX4_hoursTo_30 rfl ?_
          refine vV_aload_n Cx 0 dX4_hoursTo_32 rfl rfl ?_
          refine vU_get Cx hinX4 0 rfl rfl 1 (by decide) u2_228 rfl dX4_hoursTo_33 ?_
          refine vV_iload Cx dX4_hoursTo_36 rfl ?_
          refine vV_iald Cx 1 0 rfl rfl (by assumption) dX4_hoursTo_38 ?_
          refine vV_aload_n Cx 0 dX4_hoursTo_39 rfl rfl ?_
          refine vU_get Cx hinX4 0 rfl rfl 10 (by decide) u2_237 rfl dX4_hoursTo_40 ?_
          refine vV_iload_n Cx 1 dX4_hoursTo_43 rfl rfl ?_
          refine vV_iald Cx 7 0 rfl rfl (by assumption) dX4_hoursTo_44 ?_
          refine vV_iadd Cx dX4_hoursTo_45 ?_
          refine vV_iadd Cx dX4_hoursTo_46 ?_
          refine vV_istore Cx dX4_hoursTo_47 (by decide) ?_
          refine vV_iinc Cx dX4_hoursTo_49 rfl (vinc _) (by decide) ?_
          refine vV_goto (tgt := 11) Cx dX4_hoursTo_52 (by decide) ?_
          exact ih (z + 1) _ (by omega) (by omega) (by rw [vlp_step hlt] at h3; simpa [-Int32.not_lt, g1, h14, h18] using h3)
        · refine vV_iload Cx dX4_hoursTo_21 rfl ?_
          refine vV_aload_n Cx 0 dX4_hoursTo_23 rfl rfl ?_
          refine vU_get Cx hinX4 0 rfl rfl 3 (by decide) u2_230 rfl dX4_hoursTo_24 ?_
          refine vV_icmp_lt (tgt := 49) Cx dX4_hoursTo_27 (by decide) (fun h27 => ?_) (fun h27 => ?_)
          · refine vV_iinc Cx dX4_hoursTo_49 rfl (vinc _) (by decide) ?_
            refine vV_goto (tgt := 11) Cx dX4_hoursTo_52 (by decide) ?_
            exact ih (z + 1) _ (by omega) (by omega) (by rw [vlp_step hlt] at h3; simpa [-Int32.not_lt, g1, h14, h18, h27] using h3)
          · refine vV_iload Cx dX4_hoursTo_30 rfl ?_
            refine vV_aload_n Cx 0 dX4_hoursTo_32 rfl rfl ?_
            refine vU_get Cx hinX4 0 rfl rfl 1 (by decide) u2_228 rfl dX4_hoursTo_33 ?_
            refine vV_iload Cx dX4_hoursTo_36 rfl ?_
            refine vV_iald Cx 1 0 rfl rfl (by assumption) dX4_hoursTo_38 ?_
            refine vV_aload_n Cx 0 dX4_hoursTo_39 rfl rfl ?_
            refine vU_get Cx hinX4 0 rfl rfl 10 (by decide) u2_237 rfl dX4_hoursTo_40 ?_
            refine vV_iload_n Cx 1 dX4_hoursTo_43 rfl rfl ?_
            refine vV_iald Cx 7 0 rfl rfl (by assumption) dX4_hoursTo_44 ?_
            refine vV_iadd Cx dX4_hoursTo_45 ?_
            refine vV_iadd Cx dX4_hoursTo_46 ?_
            refine vV_istore Cx dX4_hoursTo_47 (by decide) ?_
            refine vV_iinc Cx dX4_hoursTo_49 rfl (vinc _) (by decide) ?_
            refine vV_goto (tgt := 11) Cx dX4_hoursTo_52 (by decide) ?_
            exact ih (z + 1) _ (by omega) (by omega) (by rw [vlp_step hlt] at h3; simpa [-Int32.not_lt, g1, h14, h18, h27] using h3)
  refine vV_iconst (v := 0) Cx dX4_hoursTo_0 (by decide) ?_
  refine vV_istore Cx dX4_hoursTo_1 (by decide) ?_
  refine vV_aload_n Cx 0 dX4_hoursTo_3 rfl rfl ?_
  refine vV_iload_n Cx 1 dX4_hoursTo_4 rfl rfl ?_
  refine vV_iconst (v := 1) Cx dX4_hoursTo_5 (by decide) ?_
  refine vV_callVi Cx (KX4_get hi v7_1) (cwV 2 Cx.1.2.2.2.2 (uGV u3_113 u3_115 us_24 u1_7 u3_116) rfl rfl rfl hdX4_get ⟨Nat.le_of_ble_eq_true rfl, Nat.le_of_ble_eq_true rfl⟩) 0 rfl rfl rfl rfl (Nat.le_of_ble_eq_true rfl) ⟨Nat.zero_le _, Nat.zero_le _⟩ dX4_hoursTo_6 ?_
  rw [hcm.1]
  refine vV_istore Cx dX4_hoursTo_9 (by decide) ?_
  refine L11 7 (cmp C i) 0 (by omega) (by omega) ?_
  refine vV_iload_n Cx 2 dX4_hoursTo_55 rfl rfl ?_
  refine vV_istore Cx dX4_hoursTo_56 (by decide) ?_
  exact L58 7 ac _ (by omega) (by omega) rfl
abbrev rX4_fetch : Room := { frames := 2, cells := 0, slots := 0, locals := 47 }
set_option maxRecDepth 100000 in
set_option maxHeartbeats 4000000 in
theorem KX4_fetch {l : Launch} {D : va_G} {cI cZ : ClassId} {ad : Nat → Nat} {A : Nat → Prop} {E C N : mT} {n : Nat} (hn : E 8 2 = nI n) (h12n : n ≤ 12) (hcm : ∀ i, i < n → C 1 i = nI (cmp C i) ∧ cmp C i ≤ 6) (v : Int32) : vKi l D (vtys cI cZ) A yX4_fetch (uT yX4_fetch cX4_fetch 5 (some .int)) rX4_fetch (wN cI cZ ad E C N) [.ref (ad 0), .int v] (ma_fetch E n v C) (wN cI cZ ad E C (cS N 2 0 0)) := by
  refine vKi_of (cc := cX4_fetch) (maxL := 5) (ret := some .int) (by decide) rfl rfl (Nat.le_of_ble_eq_true rfl) ?_
  intro p e s m below meth c Cx hr hlk
  have hvj : ∀ h : ¬ isW v 0 (E 8 2 - 1) = 0, ∃ j, j < n ∧ v = nI j := fun h => by rw [hn] at h; exact isW_nI1 h (by omega)
  have Lp : cmp C v.toNatClampNeg ≤ 6 → ∀ (fuel i : Nat) (a : Int32), i ≤ n → n - i < fuel → (a = -1 ∨ ∃ j, j < n ∧ a = nI j) → vlp (f_mf E (cmp C v.toNatClampNeg) C) n i a = ma_fetch E n v C → vV D (vtys cI cZ) A 5 p l e rX4_fetch s m ([.ref (ad 0), .int v] : List Value).toArray below meth c 0 0 (MQ below (vQi D A (ma_fetch E n v C) (wN cI cZ ad E C (cS N 2 0 0))) ([.ref (ad 0), .int v] : List Value).toArray s 0 0 A) (wN cI cZ ad E C (cS N 2 0 0)) [.ref (ad 0), .int v, .int (nI (cmp C v.toNatClampNeg)), .int a, .int (nI i)] 43 [] := by
    intro hac
    intro fuel
    induction fuel with
    | zero => intro i a h1 h2; exact absurd h2 (Nat.not_lt_zero _)
    | succ fuel ih =>
      intro i a h1 h2 ha h3
      refine vV_iload Cx dX4_fetch_43 rfl ?_
      refine vV_aload_n Cx 0 dX4_fetch_45 rfl rfl ?_
      refine vU_get Cx hinX4 0 rfl rfl 8 (by decide) u2_235 rfl dX4_fetch_46 ?_
      refine vV_icmp_ge (tgt := 127) Cx dX4_fetch_49 (by decide) (fun h49 => ?_) (fun h49 => ?_)
      · rw [hn] at h49
        have hin := vix_ge h49 (by omega) h1
        refine vV_iload_n Cx 3 dX4_fetch_127 rfl rfl ?_
        exact vV_iret Cx hr hlk dX4_fetch_128 (by rw [hin, vlp_done (Nat.le_refl _)] at h3; exact h3) (by rfl)
      · rw [hn] at h49
        have hlt := vix_lt h49 (by omega) h1
        have hi : vix (nI i) 12 i := vix_nI (by omega) (by decide)
        refine vV_aload_n Cx 0 dX4_fetch_52 rfl rfl ?_
        refine vV_iload Cx dX4_fetch_53 rfl ?_
        refine vV_callVi Cx (KX4_isAtCamp hi) (cwV 1 Cx.1.2.2.2.2 (uGV u3_109 u3_111 us_23 u1_7 u3_112) rfl rfl rfl hdX4_isAtCamp ⟨Nat.le_of_ble_eq_true rfl, Nat.le_of_ble_eq_true rfl⟩) 0 rfl rfl rfl rfl (Nat.le_of_ble_eq_true rfl) ⟨Nat.zero_le _, Nat.zero_le _⟩ dX4_fetch_55 ?_
        refine vV_if_eq (tgt := 121) Cx dX4_fetch_58 (by decide) (fun h58 => ?_) (fun h58 => ?_)
        · refine vV_iinc Cx dX4_fetch_121 rfl (vinc _) (by decide) ?_
          refine vV_goto (tgt := 43) Cx dX4_fetch_124 (by decide) ?_
          refine ih (i + 1) _ (by omega) (by omega) ?_ (by rw [← h3, vlp_step hlt]; exact congrArg (vlp _ n (i + 1)) (by first | rfl | (clear Cx hr hlk; simp_all [-Int32.not_lt, -Int32.not_le, f_mf, m_ac])))
          first | exact ha | exact Or.inr ⟨i, hlt, rfl⟩
        · refine vV_aload_n Cx 0 dX4_fetch_61 rfl rfl ?_
          refine vV_iload Cx dX4_fetch_62 rfl ?_
          refine vV_iconst (v := 0) Cx dX4_fetch_64 (by decide) ?_
          refine vV_callVi Cx (KX4_get hi v7_0) (cwV 2 Cx.1.2.2.2.2 (uGV u3_113 u3_115 us_24 u1_7 u3_116) rfl rfl rfl hdX4_get ⟨Nat.le_of_ble_eq_true rfl, Nat.le_of_ble_eq_true rfl⟩) 0 rfl rfl rfl rfl (Nat.le_of_ble_eq_true rfl) ⟨Nat.zero_le _, Nat.zero_le _⟩ dX4_fetch_65 ?_
          refine vV_iconst (v := 2) Cx dX4_fetch_68 (by decide) ?_
          refine vV_icmp_gt (tgt := 121) Cx dX4_fetch_69 (by decide) (fun h69 => ?_) (fun h69 => ?_)
          · refine vV_iinc Cx dX4_fetch_121 rfl (vinc _) (by decide) ?_
            refine vV_goto (tgt := 43) Cx dX4_fetch_124 (by decide) ?_
            refine ih (i + 1) _ (by omega) (by omega) ?_ (by rw [← h3, vlp_step hlt]; exact congrArg (vlp _ n (i + 1)) (by first | rfl | (clear Cx hr hlk; simp_all [-Int32.not_lt, -Int32.not_le, f_mf, m_ac])))
            first | exact ha | exact Or.inr ⟨i, hlt, rfl⟩
          · refine vV_aload_n Cx 0 dX4_fetch_72 rfl rfl ?_
            refine vV_iload Cx dX4_fetch_73 rfl ?_
            refine vV_iconst (v := 3) Cx dX4_fetch_75 (by decide) ?_
            refine vV_callVi Cx (KX4_get hi v7_3) (cwV 2 Cx.1.2.2.2.2 (uGV u3_113 u3_115 us_24 u1_7 u3_116) rfl rfl rfl hdX4_get ⟨Nat.le_of_ble_eq_true rfl, Nat.le_of_ble_eq_true rfl⟩) 0 rfl rfl rfl rfl (Nat.le_of_ble_eq_true rfl) ⟨Nat.zero_le _, Nat.zero_le _⟩ dX4_fetch_76 ?_
            refine vV_iconst (v := 2) Cx dX4_fetch_79 (by decide) ?_
            refine vV_aload_n Cx 0 dX4_fetch_80 rfl rfl ?_
            refine vV_iload Cx dX4_fetch_81 rfl ?_
            refine vV_iload_n Cx 2 dX4_fetch_83 rfl rfl ?_
            refine vV_iconst (v := 1) Cx dX4_fetch_84 (by decide) ?_
            refine vV_callVi Cx (KX4_hoursTo hi (hcm i hlt) hac 1) (cwV 3 Cx.1.2.2.2.2 (uGV u3_174 u3_176 us_34 u1_7 u3_177) rfl rfl rfl hdX4_hoursTo ⟨Nat.le_of_ble_eq_true rfl, Nat.le_of_ble_eq_true rfl⟩) 0 rfl rfl rfl rfl (Nat.le_of_ble_eq_true rfl) ⟨Nat.zero_le _, Nat.zero_le _⟩ dX4_fetch_85 ?_
            refine vV_imul Cx dX4_fetch_88 ?_
            refine vV_icmp_ge (tgt := 95) Cx dX4_fetch_89 (by decide) (fun h89 => ?_) (fun h89 => ?_)
            · refine vV_iload_n Cx 3 dX4_fetch_95 rfl rfl ?_
              refine vV_iconst (v := -1) Cx dX4_fetch_96 (by decide) ?_
              refine vV_icmp_eq (tgt := 118) Cx dX4_fetch_97 (by decide) (fun h97 => ?_) (fun h97 => ?_)
              · refine vV_iload Cx dX4_fetch_118 rfl ?_
                refine vV_istore_n Cx 3 dX4_fetch_120 rfl (by decide) ?_
                refine vV_iinc Cx dX4_fetch_121 rfl (vinc _) (by decide) ?_
                refine vV_goto (tgt := 43) Cx dX4_fetch_124 (by decide) ?_
                refine ih (i + 1) _ (by omega) (by omega) ?_ (by rw [← h3, vlp_step hlt]; exact congrArg (vlp _ n (i + 1)) (by first | rfl | (clear Cx hr hlk; simp_all [-Int32.not_lt, -Int32.not_le, f_mf, m_ac])))
                first | exact ha | exact Or.inr ⟨i, hlt, rfl⟩
              · obtain ⟨j, hj, rfl⟩ := ha.resolve_left h97
                have hij : vix (nI j) 12 j := vix_nI (by omega) (by decide)
                have hjc : (nI j).toNatClampNeg = j := nI_clamp (by omega)
                refine vV_aload_n Cx 0 dX4_fetch_100 rfl rfl ?_
                refine vV_iload Cx dX4_fetch_101 rfl ?_
                refine vV_iload_n Cx 2 dX4_fetch_103 rfl rfl ?_
                refine vV_iconst (v := 0) Cx dX4_fetch_104 (by decide) ?_
                refine vV_callVi Cx (KX4_hoursTo hi (hcm i hlt) hac 0) (cwV 3 Cx.1.2.2.2.2 (uGV u3_174 u3_176 us_34 u1_7 u3_177) rfl rfl rfl hdX4_hoursTo ⟨Nat.le_of_ble_eq_true rfl, Nat.le_of_ble_eq_true rfl⟩) 0 rfl rfl rfl rfl (Nat.le_of_ble_eq_true rfl) ⟨Nat.zero_le _, Nat.zero_le _⟩ dX4_fetch_105 ?_
                refine vV_aload_n Cx 0 dX4_fetch_108 rfl rfl ?_
                refine vV_iload_n Cx 3 dX4_fetch_109 rfl rfl ?_
                refine vV_iload_n Cx 2 dX4_fetch_110 rfl rfl ?_
                refine vV_iconst (v := 0) Cx dX4_fetch_111 (by decide) ?_
                refine vV_callVi Cx (KX4_hoursTo hij (hcm j hj) hac 0) (cwV 3 Cx.1.2.2.2.2 (uGV u3_174 u3_176 us_34 u1_7 u3_177) rfl rfl rfl hdX4_hoursTo ⟨Nat.le_of_ble_eq_true rfl, Nat.le_of_ble_eq_true rfl⟩) 0 rfl rfl rfl rfl (Nat.le_of_ble_eq_true rfl) ⟨Nat.zero_le _, Nat.zero_le _⟩ dX4_fetch_112 ?_
                refine vV_icmp_ge (tgt := 121) Cx dX4_fetch_115 (by decide) (fun h115 => ?_) (fun h115 => ?_)
                · refine vV_iinc Cx dX4_fetch_121 rfl (vinc _) (by decide) ?_
                  refine vV_goto (tgt := 43) Cx dX4_fetch_124 (by decide) ?_
                  refine ih (i + 1) _ (by omega) (by omega) ?_ (by rw [← h3, vlp_step hlt]; exact congrArg (vlp _ n (i + 1)) (by first | rfl | (clear Cx hr hlk; simp_all [-Int32.not_lt, -Int32.not_le, f_mf, m_ac])))
                  first | exact ha | exact Or.inr ⟨i, hlt, rfl⟩
                · refine vV_iload Cx dX4_fetch_118 rfl ?_
                  refine vV_istore_n Cx 3 dX4_fetch_120 rfl (by decide) ?_
                  refine vV_iinc Cx dX4_fetch_121 rfl (vinc _) (by decide) ?_
                  refine vV_goto (tgt := 43) Cx dX4_fetch_124 (by decide) ?_
                  refine ih (i + 1) _ (by omega) (by omega) ?_ (by rw [← h3, vlp_step hlt]; exact congrArg (vlp _ n (i + 1)) (by first | rfl | (clear Cx hr hlk; simp_all [-Int32.not_lt, -Int32.not_le, f_mf, m_ac])))
                  first | exact ha | exact Or.inr ⟨i, hlt, rfl⟩
            · refine vV_goto (tgt := 121) Cx dX4_fetch_92 (by decide) ?_
              refine vV_iinc Cx dX4_fetch_121 rfl (vinc _) (by decide) ?_
              refine vV_goto (tgt := 43) Cx dX4_fetch_124 (by decide) ?_
              refine ih (i + 1) _ (by omega) (by omega) ?_ (by rw [← h3, vlp_step hlt]; exact congrArg (vlp _ n (i + 1)) (by first | rfl | (clear Cx hr hlk; simp_all [-Int32.not_lt, -Int32.not_le, f_mf, m_ac])))
              first | exact ha | exact Or.inr ⟨i, hlt, rfl⟩
  refine vV_aload_n Cx 0 dX4_fetch_0 rfl rfl ?_
  refine vV_iconst (v := 0) Cx dX4_fetch_1 (by decide) ?_
  refine vU_put Cx hinX4 tyX4_ok nmX4 0 rfl rfl 15 (by decide) u3_2 rfl (by decide +kernel) (Nat.le_of_ble_eq_true rfl) dX4_fetch_2 np_thrown ?_
  refine vV_iload_n Cx 1 dX4_fetch_5 rfl rfl ?_
  refine vV_iconst (v := 0) Cx dX4_fetch_6 (by decide) ?_
  refine vV_aload_n Cx 0 dX4_fetch_7 rfl rfl ?_
  refine vU_get Cx hinX4 0 rfl rfl 8 (by decide) u2_235 rfl dX4_fetch_8 ?_
  refine vV_iconst (v := 1) Cx dX4_fetch_11 (by decide) ?_
  refine vV_isub Cx dX4_fetch_12 ?_
  refine vV_callSi Cx (KX4_in (ad := ad) _ _ _ _) (cwS 3 Cx.1.2.2.2.2 (uGS u3_53 u3_54 u1_7 u3_55) rfl rfl rfl hdX4_in ⟨Nat.le_of_ble_eq_true rfl, Nat.le_of_ble_eq_true rfl⟩) rfl rfl (Nat.le_of_ble_eq_true rfl) ⟨Nat.zero_le _, Nat.zero_le _⟩ dX4_fetch_13 ?_
  refine vV_if_eq (tgt := 29) Cx dX4_fetch_16 (by decide) (fun h16 => ?_) (fun h16 => ?_)
  · refine vV_iconst (v := -1) Cx dX4_fetch_29 (by decide) ?_
    exact vV_iret Cx hr hlk dX4_fetch_30 (by simp [ma_fetch, h16]) (by rfl)
  · obtain ⟨j0, hj0, hv0⟩ := hvj h16
    have hvc : v.toNatClampNeg = j0 := by rw [hv0]; exact nI_clamp (by omega)
    have hv7 : vix v 12 v.toNatClampNeg := by rw [hvc, hv0]; exact vix_nI (by omega) (by decide)
    refine vV_aload_n Cx 0 dX4_fetch_19 rfl rfl ?_
    refine vV_iload_n Cx 1 dX4_fetch_20 rfl rfl ?_
    refine vV_iconst (v := 0) Cx dX4_fetch_21 (by decide) ?_
    refine vV_callVi Cx (KX4_get hv7 v7_0) (cwV 2 Cx.1.2.2.2.2 (uGV u3_113 u3_115 us_24 u1_7 u3_116) rfl rfl rfl hdX4_get ⟨Nat.le_of_ble_eq_true rfl, Nat.le_of_ble_eq_true rfl⟩) 0 rfl rfl rfl rfl (Nat.le_of_ble_eq_true rfl) ⟨Nat.zero_le _, Nat.zero_le _⟩ dX4_fetch_22 ?_
    refine vV_iconst (v := 4) Cx dX4_fetch_25 (by decide) ?_
    refine vV_icmp_eq (tgt := 31) Cx dX4_fetch_26 (by decide) (fun h26 => ?_) (fun h26 => ?_)
    · refine vV_aload_n Cx 0 dX4_fetch_31 rfl rfl ?_
      refine vV_iload_n Cx 1 dX4_fetch_32 rfl rfl ?_
      refine vV_iconst (v := 1) Cx dX4_fetch_33 (by decide) ?_
      refine vV_callVi Cx (KX4_get hv7 v7_1) (cwV 2 Cx.1.2.2.2.2 (uGV u3_113 u3_115 us_24 u1_7 u3_116) rfl rfl rfl hdX4_get ⟨Nat.le_of_ble_eq_true rfl, Nat.le_of_ble_eq_true rfl⟩) 0 rfl rfl rfl rfl (Nat.le_of_ble_eq_true rfl) ⟨Nat.zero_le _, Nat.zero_le _⟩ dX4_fetch_34 ?_
      rw [show C 1 v.toNatClampNeg = nI (cmp C v.toNatClampNeg) by rw [hvc]; exact (hcm j0 hj0).1]
      refine vV_istore_n Cx 2 dX4_fetch_37 rfl (by decide) ?_
      refine vV_iconst (v := -1) Cx dX4_fetch_38 (by decide) ?_
      refine vV_istore_n Cx 3 dX4_fetch_39 rfl (by decide) ?_
      refine vV_iconst (v := 0) Cx dX4_fetch_40 (by decide) ?_
      refine vV_istore Cx dX4_fetch_41 (by decide) ?_
      exact Lp (by rw [hvc]; exact (hcm j0 hj0).2) (n + 1) 0 _ (by omega) (by omega) (Or.inl rfl) (by rw [ma_fetch, if_neg h16, if_pos h26])
    · refine vV_iconst (v := -1) Cx dX4_fetch_29 (by decide) ?_
      exact vV_iret Cx hr hlk dX4_fetch_30 (by simp [ma_fetch, h16, h26]) (by rfl)
abbrev rX4_need : Room := { frames := 1, cells := 0, slots := 0, locals := 22 }
set_option maxRecDepth 100000 in
set_option maxHeartbeats 4000000 in
theorem KX4_need {l : Launch} {D : va_G} {cI cZ : ClassId} {ad : Nat → Nat} {A : Nat → Prop} {E C N : mT} {np : Nat} (hp : E 8 0 = nI np) (hp6 : np ≤ 6) (v y : Int32) : vKi l D (vtys cI cZ) A yX4_need (uT yX4_need cX4_need 5 (some .int)) rX4_need (wN cI cZ ad E C N) [.ref (ad 0), .int v, .int y] (ma_need E v y) (wN cI cZ ad E C (cS N 2 0 0)) := by
  refine vKi_of (cc := cX4_need) (maxL := 5) (ret := some .int) (by decide) rfl rfl (Nat.le_of_ble_eq_true rfl) ?_
  intro p e s m below meth c Cx hr hlk
  have Lp : ∀ (fuel j : Nat) (a x : Int32), j ≤ 6 → j < fuel → x = nI j - 1 → m_nd E j a = ma_need E v y → vV D (vtys cI cZ) A 5 p l e rX4_need s m ([.ref (ad 0), .int v, .int y] : List Value).toArray below meth c 0 0 (MQ below (vQi D A (ma_need E v y) (wN cI cZ ad E C (cS N 2 0 0))) ([.ref (ad 0), .int v, .int y] : List Value).toArray s 0 0 A) (wN cI cZ ad E C (cS N 2 0 0)) [.ref (ad 0), .int v, .int y, .int a, .int x] 37 [] := by
    intro fuel
    induction fuel with
    | zero => intro j a x _ h2; exact absurd h2 (Nat.not_lt_zero _)
    | succ fuel ih =>
      intro j a x h1 h2 hx h3
      refine vV_iload Cx dX4_need_37 rfl ?_
      refine vV_if_lt (tgt := 65) Cx dX4_need_39 (by decide) (fun h39 => ?_) (fun h39 => ?_)
      · obtain rfl := (vdn hx (by omega)).1 h39
        refine vV_iload_n Cx 3 dX4_need_65 rfl rfl ?_
        exact vV_iret Cx hr hlk dX4_need_66 (by exact h3) (by rfl)
      · obtain ⟨k, rfl, rfl⟩ := (vdn hx (by omega)).2 h39
        rw [m_nd] at h3
        refine vV_iload Cx dX4_need_42 rfl ?_
        refine vV_aload_n Cx 0 dX4_need_44 rfl rfl ?_
        refine vU_get Cx hinX4 0 rfl rfl 3 (by decide) u2_230 rfl dX4_need_45 ?_
        refine vV_icmp_lt (tgt := 59) Cx dX4_need_48 (by decide) (fun h48 => ?_) (fun h48 => ?_)
        · rw [if_pos h48] at h3
          refine vV_iinc Cx dX4_need_59 rfl rfl (by decide) ?_
          refine vV_goto (tgt := 37) Cx dX4_need_62 (by decide) ?_
          exact ih k _ _ (by omega) (by omega) (vm1 k) h3
        · rw [if_neg h48] at h3
          refine vV_iload_n Cx 3 dX4_need_51 rfl rfl ?_
          refine vV_iload_n Cx 3 dX4_need_52 rfl rfl ?_
          refine vV_iconst (v := 2) Cx dX4_need_53 (by decide) ?_
          refine vV_iadd Cx dX4_need_54 ?_
          refine vV_iconst (v := 3) Cx dX4_need_55 (by decide) ?_
          refine vV_idiv Cx dX4_need_56 (by decide) ?_
          refine vV_iadd Cx dX4_need_57 ?_
          refine vV_istore_n Cx 3 dX4_need_58 rfl (by decide) ?_
          refine vV_iinc Cx dX4_need_59 rfl rfl (by decide) ?_
          refine vV_goto (tgt := 37) Cx dX4_need_62 (by decide) ?_
          exact ih k _ _ (by omega) (by omega) (vm1 k) h3
  refine vV_aload_n Cx 0 dX4_need_0 rfl rfl ?_
  refine vV_iconst (v := 0) Cx dX4_need_1 (by decide) ?_
  refine vU_put Cx hinX4 tyX4_ok nmX4 0 rfl rfl 15 (by decide) u3_2 rfl (by decide +kernel) (Nat.le_of_ble_eq_true rfl) dX4_need_2 np_thrown ?_
  refine vV_iload_n Cx 1 dX4_need_5 rfl rfl ?_
  refine vV_iconst (v := 0) Cx dX4_need_6 (by decide) ?_
  refine vV_aload_n Cx 0 dX4_need_7 rfl rfl ?_
  refine vU_get Cx hinX4 0 rfl rfl 0 (by decide) u2_227 rfl dX4_need_8 ?_
  refine vV_callSi Cx (KX4_in (ad := ad) _ _ _ _) (cwS 3 Cx.1.2.2.2.2 (uGS u3_53 u3_54 u1_7 u3_55) rfl rfl rfl hdX4_in ⟨Nat.le_of_ble_eq_true rfl, Nat.le_of_ble_eq_true rfl⟩) rfl rfl (Nat.le_of_ble_eq_true rfl) ⟨Nat.zero_le _, Nat.zero_le _⟩ dX4_need_11 ?_
  refine vV_if_eq (tgt := 28) Cx dX4_need_14 (by decide) (fun h14 => ?_) (fun h14 => ?_)
  · refine vV_iconst (v := -1) Cx dX4_need_28 (by decide) ?_
    exact vV_iret Cx hr hlk dX4_need_29 (by simp [ma_need, h14]) (by rfl)
  · refine vV_iload_n Cx 2 dX4_need_17 rfl rfl ?_
    refine vV_iconst (v := 0) Cx dX4_need_18 (by decide) ?_
    refine vV_sipush (v := 200) Cx dX4_need_19 (by decide) ?_
    refine vV_callSi Cx (KX4_in (ad := ad) _ _ _ _) (cwS 3 Cx.1.2.2.2.2 (uGS u3_53 u3_54 u1_7 u3_55) rfl rfl rfl hdX4_in ⟨Nat.le_of_ble_eq_true rfl, Nat.le_of_ble_eq_true rfl⟩) rfl rfl (Nat.le_of_ble_eq_true rfl) ⟨Nat.zero_le _, Nat.zero_le _⟩ dX4_need_22 ?_
    refine vV_if_ne (tgt := 30) Cx dX4_need_25 (by decide) (fun h25 => ?_) (fun h25 => ?_)
    · refine vV_iload_n Cx 2 dX4_need_30 rfl rfl ?_
      refine vV_istore_n Cx 3 dX4_need_31 rfl (by decide) ?_
      refine vV_iload_n Cx 1 dX4_need_32 rfl rfl ?_
      refine vV_iconst (v := 1) Cx dX4_need_33 (by decide) ?_
      refine vV_isub Cx dX4_need_34 ?_
      refine vV_istore Cx dX4_need_35 (by decide) ?_
      obtain ⟨k, hk, hv⟩ : ∃ k, k ≤ np ∧ v = nI k := by rw [hp] at h14; exact isW_nI h14 (by omega)
      exact Lp 8 k _ _ (by omega) (by omega) (by rw [hv]) (by rw [ma_need, if_neg h14, if_neg h25, hv, nI_clamp (by omega)])
    · refine vV_iconst (v := -1) Cx dX4_need_28 (by decide) ?_
      exact vV_iret Cx hr hlk dX4_need_29 (by simp [ma_need, h14, h25]) (by rfl)
abbrev rX4_comes : Room := { frames := 1, cells := 0, slots := 0, locals := 22 }
set_option maxRecDepth 100000 in
set_option maxHeartbeats 4000000 in
theorem KX4_comes {l : Launch} {D : va_G} {cI cZ : ClassId} {ad : Nat → Nat} {A : Nat → Prop} {E C N : mT} {np : Nat} (hp : E 8 0 = nI np) (hp6 : np ≤ 6) (v y : Int32) : vKi l D (vtys cI cZ) A yX4_comes (uT yX4_comes cX4_comes 5 (some .int)) rX4_comes (wN cI cZ ad E C N) [.ref (ad 0), .int v, .int y] (ma_comes E v y) (wN cI cZ ad E C (cS N 2 0 0)) := by
  refine vKi_of (cc := cX4_comes) (maxL := 5) (ret := some .int) (by decide) rfl rfl (Nat.le_of_ble_eq_true rfl) ?_
  intro p e s m below meth c Cx hr hlk
  have Lp : ∀ (fuel j k : Nat) (a : Int32), v = nI k → k ≤ 6 → j ≤ 7 → k - j < fuel → vlp (fun s a => if nI s < E 8 1 then a else a - (a + 3) / 4) k j a = ma_comes E v y → vV D (vtys cI cZ) A 5 p l e rX4_comes s m ([.ref (ad 0), .int v, .int y] : List Value).toArray below meth c 0 0 (MQ below (vQi D A (ma_comes E v y) (wN cI cZ ad E C (cS N 2 0 0))) ([.ref (ad 0), .int v, .int y] : List Value).toArray s 0 0 A) (wN cI cZ ad E C (cS N 2 0 0)) [.ref (ad 0), .int v, .int y, .int a, .int (nI j)] 35 [] := by
    intro fuel
    induction fuel with
    | zero => intro j k a _ _ _ h2; exact absurd h2 (Nat.not_lt_zero _)
    | succ fuel ih =>
      intro j k a hv hk h1 h2 h3
      refine vV_iload Cx dX4_comes_35 rfl ?_
      refine vV_iload_n Cx 1 dX4_comes_37 rfl rfl ?_
      refine vV_icmp_ge (tgt := 64) Cx dX4_comes_38 (by decide) (fun h38 => ?_) (fun h38 => ?_)
      · rw [hv] at h38
        have hin : k ≤ j := Nat.le_of_not_lt (fun hh => h38 (nI_lt hh (by omega)))
        refine vV_iload_n Cx 3 dX4_comes_64 rfl rfl ?_
        exact vV_iret Cx hr hlk dX4_comes_65 (by rw [vlp_done hin] at h3; exact h3) (by rfl)
      · rw [hv] at h38
        have hlt : j < k := (nI_ltI (by omega) (by omega)).mp h38
        refine vV_iload Cx dX4_comes_41 rfl ?_
        refine vV_aload_n Cx 0 dX4_comes_43 rfl rfl ?_
        refine vU_get Cx hinX4 0 rfl rfl 3 (by decide) u2_230 rfl dX4_comes_44 ?_
        refine vV_icmp_lt (tgt := 58) Cx dX4_comes_47 (by decide) (fun h47 => ?_) (fun h47 => ?_)
        · refine vV_iinc Cx dX4_comes_58 rfl (vinc _) (by decide) ?_
          refine vV_goto (tgt := 35) Cx dX4_comes_61 (by decide) ?_
          exact ih (j + 1) k _ hv hk (by omega) (by omega) (by rw [← h3, vlp_step hlt]; exact congrArg (vlp _ k (j + 1)) (by first | rfl | (clear Cx hr hlk; simp_all [-Int32.not_lt, -Int32.not_le])))
        · refine vV_iload_n Cx 3 dX4_comes_50 rfl rfl ?_
          refine vV_iload_n Cx 3 dX4_comes_51 rfl rfl ?_
          refine vV_iconst (v := 3) Cx dX4_comes_52 (by decide) ?_
          refine vV_iadd Cx dX4_comes_53 ?_
          refine vV_iconst (v := 4) Cx dX4_comes_54 (by decide) ?_
          refine vV_idiv Cx dX4_comes_55 (by decide) ?_
          refine vV_isub Cx dX4_comes_56 ?_
          refine vV_istore_n Cx 3 dX4_comes_57 rfl (by decide) ?_
          refine vV_iinc Cx dX4_comes_58 rfl (vinc _) (by decide) ?_
          refine vV_goto (tgt := 35) Cx dX4_comes_61 (by decide) ?_
          exact ih (j + 1) k _ hv hk (by omega) (by omega) (by rw [← h3, vlp_step hlt]; exact congrArg (vlp _ k (j + 1)) (by first | rfl | (clear Cx hr hlk; simp_all [-Int32.not_lt, -Int32.not_le])))
  refine vV_aload_n Cx 0 dX4_comes_0 rfl rfl ?_
  refine vV_iconst (v := 0) Cx dX4_comes_1 (by decide) ?_
  refine vU_put Cx hinX4 tyX4_ok nmX4 0 rfl rfl 15 (by decide) u3_2 rfl (by decide +kernel) (Nat.le_of_ble_eq_true rfl) dX4_comes_2 np_thrown ?_
  refine vV_iload_n Cx 1 dX4_comes_5 rfl rfl ?_
  refine vV_iconst (v := 0) Cx dX4_comes_6 (by decide) ?_
  refine vV_aload_n Cx 0 dX4_comes_7 rfl rfl ?_
  refine vU_get Cx hinX4 0 rfl rfl 0 (by decide) u2_227 rfl dX4_comes_8 ?_
  refine vV_callSi Cx (KX4_in (ad := ad) _ _ _ _) (cwS 3 Cx.1.2.2.2.2 (uGS u3_53 u3_54 u1_7 u3_55) rfl rfl rfl hdX4_in ⟨Nat.le_of_ble_eq_true rfl, Nat.le_of_ble_eq_true rfl⟩) rfl rfl (Nat.le_of_ble_eq_true rfl) ⟨Nat.zero_le _, Nat.zero_le _⟩ dX4_comes_11 ?_
  refine vV_if_eq (tgt := 28) Cx dX4_comes_14 (by decide) (fun h14 => ?_) (fun h14 => ?_)
  · refine vV_iconst (v := -1) Cx dX4_comes_28 (by decide) ?_
    exact vV_iret Cx hr hlk dX4_comes_29 (by simp [ma_comes, h14]) (by rfl)
  · refine vV_iload_n Cx 2 dX4_comes_17 rfl rfl ?_
    refine vV_iconst (v := 0) Cx dX4_comes_18 (by decide) ?_
    refine vV_sipush (v := 2000) Cx dX4_comes_19 (by decide) ?_
    refine vV_callSi Cx (KX4_in (ad := ad) _ _ _ _) (cwS 3 Cx.1.2.2.2.2 (uGS u3_53 u3_54 u1_7 u3_55) rfl rfl rfl hdX4_in ⟨Nat.le_of_ble_eq_true rfl, Nat.le_of_ble_eq_true rfl⟩) rfl rfl (Nat.le_of_ble_eq_true rfl) ⟨Nat.zero_le _, Nat.zero_le _⟩ dX4_comes_22 ?_
    refine vV_if_ne (tgt := 30) Cx dX4_comes_25 (by decide) (fun h25 => ?_) (fun h25 => ?_)
    · refine vV_iload_n Cx 2 dX4_comes_30 rfl rfl ?_
      refine vV_istore_n Cx 3 dX4_comes_31 rfl (by decide) ?_
      refine vV_iconst (v := 0) Cx dX4_comes_32 (by decide) ?_
      refine vV_istore Cx dX4_comes_33 (by decide) ?_
      obtain ⟨k, hk, hv⟩ : ∃ k, k ≤ np ∧ v = nI k := by rw [hp] at h14; exact isW_nI h14 (by omega)
      exact Lp 8 0 k _ hv (by omega) (by omega) (by omega) (by rw [ma_comes, if_neg h14, if_neg h25, hv, nI_clamp (by omega)])
    · refine vV_iconst (v := -1) Cx dX4_comes_28 (by decide) ?_
      exact vV_iret Cx hr hlk dX4_comes_29 (by simp [ma_comes, h14, h25]) (by rfl)
theorem m_lev_8 (E : mT) : m_lev E 8 = E 8 := vlp_inv (P := fun Z : mT => Z 8 = E 8) (fun i a _ ha => by simp [f_lev, cS_ne, ha]) (7 - 0) 0 E rfl rfl
def me_mtn (E : mT) (v : Int32) : mT := cS (m_lev (cS E 8 0 v)) 8 1 (if v < m_lev (cS E 8 0 v) 8 1 then v else m_lev (cS E 8 0 v) 8 1)
theorem me_mtn_2 (E : mT) (v : Int32) : me_mtn E v 8 2 = E 8 2 := by
  unfold me_mtn
  rw [cS_at]
  unfold upd
  rw [if_neg (by decide), m_lev_8, cS_at]
  rfl
abbrev rX4_mountain : Room := { frames := 3, cells := 0, slots := 0, locals := 66 }
set_option maxRecDepth 100000 in
set_option maxHeartbeats 4000000 in
theorem KX4_mountain {l : Launch} {D : va_G} {cI cZ : ClassId} {ad : Nat → Nat} {A : Nat → Prop} {E C N : mT} {n : Nat} (hn : E 8 2 = nI n) (h12n : n ≤ 12) (v : Int32) : vKi l D (vtys cI cZ) A yX4_mountain (uT yX4_mountain cX4_mountain 2 (some .boolean)) rX4_mountain (wN cI cZ ad E C N) [.ref (ad 0), .int v] (isW v 1 6) (wN cI cZ ad (if isW v 1 6 = 0 then E else me_mtn E v) (if isW v 1 6 = 0 then C else m_beg (me_mtn E v) n C) (cS N 2 0 0)) := by
  refine vKi_of (cc := cX4_mountain) (maxL := 2) (ret := some .boolean) (by decide) rfl rfl (Nat.le_of_ble_eq_true rfl) ?_
  intro p e s m below meth c Cx hr hlk
  refine vV_aload_n Cx 0 dX4_mountain_0 rfl rfl ?_
  refine vV_iconst (v := 0) Cx dX4_mountain_1 (by decide) ?_
  refine vU_put Cx hinX4 tyX4_ok nmX4 0 rfl rfl 15 (by decide) u3_2 rfl (by decide +kernel) (Nat.le_of_ble_eq_true rfl) dX4_mountain_2 np_thrown ?_
  refine vV_iload_n Cx 1 dX4_mountain_5 rfl rfl ?_
  refine vV_iconst (v := 1) Cx dX4_mountain_6 (by decide) ?_
  refine vV_bipush (v := 6) Cx dX4_mountain_7 (by decide) ?_
  refine vV_callSi Cx (KX4_in (ad := ad) _ _ _ _) (cwS 3 Cx.1.2.2.2.2 (uGS u3_53 u3_54 u1_7 u3_55) rfl rfl rfl hdX4_in ⟨Nat.le_of_ble_eq_true rfl, Nat.le_of_ble_eq_true rfl⟩) rfl rfl (Nat.le_of_ble_eq_true rfl) ⟨Nat.zero_le _, Nat.zero_le _⟩ dX4_mountain_9 ?_
  refine vV_if_ne (tgt := 17) Cx dX4_mountain_12 (by decide) (fun h12 => ?_) (fun h12 => ?_)
  · refine vV_aload_n Cx 0 dX4_mountain_17 rfl rfl ?_
    refine vV_iload_n Cx 1 dX4_mountain_18 rfl rfl ?_
    refine vU_put Cx hinX4 tyX4_ok nmX4 0 rfl rfl 0 (by decide) u2_227 rfl (by decide +kernel) (Nat.le_of_ble_eq_true rfl) dX4_mountain_19 np_pitches ?_
    refine vV_aload_n Cx 0 dX4_mountain_22 rfl rfl ?_
    refine vV_callVv Cx (KX4_levelAll) (cwV 0 Cx.1.2.2.2.2 (uGV u2_223 u2_225 us_16 u1_7 u2_226) rfl rfl rfl hdX4_levelAll ⟨Nat.le_of_ble_eq_true rfl, Nat.le_of_ble_eq_true rfl⟩) 0 rfl rfl rfl rfl (Nat.le_of_ble_eq_true rfl) ⟨Nat.zero_le _, Nat.zero_le _⟩ dX4_mountain_23 ?_
    refine vV_aload_n Cx 0 dX4_mountain_26 rfl rfl ?_
    refine vV_aload_n Cx 0 dX4_mountain_27 rfl rfl ?_
    refine vU_get Cx hinX4 0 rfl rfl 3 (by decide) u2_230 rfl dX4_mountain_28 ?_
    refine vV_iload_n Cx 1 dX4_mountain_31 rfl rfl ?_
    refine vU_mmin Cx u3_56 u1_32 u1_3 u1_33 (Nat.le_of_ble_eq_true rfl) (Nat.le_of_ble_eq_true rfl) (Nat.zero_le _) (Nat.zero_le _) dX4_mountain_32 ?_
    refine vU_put Cx hinX4 tyX4_ok nmX4 0 rfl rfl 3 (by decide) u2_230 rfl (by decide +kernel) (Nat.le_of_ble_eq_true rfl) dX4_mountain_35 np_high ?_
    refine vV_aload_n Cx 0 dX4_mountain_38 rfl rfl ?_
    refine vV_callVv Cx (KX4_beginAll (E := me_mtn E v) ((me_mtn_2 E v).trans hn) h12n) (cwV 0 Cx.1.2.2.2.2 (uGV u3_57 u3_59 us_17 u1_7 u3_60) rfl rfl rfl hdX4_beginAll ⟨Nat.le_of_ble_eq_true rfl, Nat.le_of_ble_eq_true rfl⟩) 0 rfl rfl rfl rfl (Nat.le_of_ble_eq_true rfl) ⟨Nat.zero_le _, Nat.zero_le _⟩ dX4_mountain_39 ?_
    refine vV_iconst (v := 1) Cx dX4_mountain_42 (by decide) ?_
    exact vV_zret Cx hr hlk dX4_mountain_43 (by first | rfl | decide) (by exact (isW_ne.resolve_left h12).symm) (by simp [h12])
  · refine vV_iconst (v := 0) Cx dX4_mountain_15 (by decide) ?_
    exact vV_zret Cx hr hlk dX4_mountain_16 (by first | rfl | decide) (by simp [h12]) (by simp [h12])
abbrev rX4_pitch : Room := { frames := 2, cells := 0, slots := 0, locals := 43 }
set_option maxRecDepth 100000 in
set_option maxHeartbeats 4000000 in
theorem KX4_pitch {l : Launch} {D : va_G} {cI cZ : ClassId} {ad : Nat → Nat} {A : Nat → Prop} {E C N : mT} {np : Nat} (hp : E 8 0 = nI np) (hp6 : np ≤ 6) (v x y : Int32) : vKi l D (vtys cI cZ) A yX4_pitch (uT yX4_pitch cX4_pitch 4 (some .boolean)) rX4_pitch (wN cI cZ ad E C N) [.ref (ad 0), .int v, .int x, .int y] (r_pitch E v x y) (wN cI cZ ad (e_pitch E v x y) (C) (cS N 2 0 0)) := by
  refine vKi_of (cc := cX4_pitch) (maxL := 4) (ret := some .boolean) (by decide) rfl rfl (Nat.le_of_ble_eq_true rfl) ?_
  intro p e s m below meth c Cx hr hlk
  refine vV_aload_n Cx 0 dX4_pitch_0 rfl rfl ?_
  refine vV_iconst (v := 0) Cx dX4_pitch_1 (by decide) ?_
  refine vU_put Cx hinX4 tyX4_ok nmX4 0 rfl rfl 15 (by decide) u3_2 rfl (by decide +kernel) (Nat.le_of_ble_eq_true rfl) dX4_pitch_2 np_thrown ?_
  refine vV_aload_n Cx 0 dX4_pitch_5 rfl rfl ?_
  refine vV_iload_n Cx 1 dX4_pitch_6 rfl rfl ?_
  refine vV_callVi Cx (KX4_isPitch v) (cwV 1 Cx.1.2.2.2.2 (uGV u3_73 u3_75 us_20 u1_7 u3_76) rfl rfl rfl hdX4_isPitch ⟨Nat.le_of_ble_eq_true rfl, Nat.le_of_ble_eq_true rfl⟩) 0 rfl rfl rfl rfl (Nat.le_of_ble_eq_true rfl) ⟨Nat.zero_le _, Nat.zero_le _⟩ dX4_pitch_7 ?_
  refine vV_if_eq (tgt := 33) Cx dX4_pitch_10 (by decide) (fun h10 => ?_) (fun h10 => ?_)
  · refine vV_iconst (v := 0) Cx dX4_pitch_33 (by decide) ?_
    exact vV_zret Cx hr hlk dX4_pitch_34 (by first | rfl | decide) (by clear Cx hr hlk; simp_all [r_pitch]) (by first | (simp [e_pitch, r_pitch, h10]; done) | (simp [e_pitch, r_pitch, h10]; rfl))
  · refine vV_iload_n Cx 2 dX4_pitch_13 rfl rfl ?_
    refine vV_iconst (v := 1) Cx dX4_pitch_14 (by decide) ?_
    refine vV_bipush (v := 8) Cx dX4_pitch_15 (by decide) ?_
    refine vV_callSi Cx (KX4_in (ad := ad) _ _ _ _) (cwS 3 Cx.1.2.2.2.2 (uGS u3_53 u3_54 u1_7 u3_55) rfl rfl rfl hdX4_in ⟨Nat.le_of_ble_eq_true rfl, Nat.le_of_ble_eq_true rfl⟩) rfl rfl (Nat.le_of_ble_eq_true rfl) ⟨Nat.zero_le _, Nat.zero_le _⟩ dX4_pitch_17 ?_
    refine vV_if_eq (tgt := 33) Cx dX4_pitch_20 (by decide) (fun h20 => ?_) (fun h20 => ?_)
    · refine vV_iconst (v := 0) Cx dX4_pitch_33 (by decide) ?_
      exact vV_zret Cx hr hlk dX4_pitch_34 (by first | rfl | decide) (by clear Cx hr hlk; simp_all [r_pitch]) (by first | (simp [e_pitch, r_pitch, h10, h20]; done) | (simp [e_pitch, r_pitch, h10, h20]; rfl))
    · refine vV_iload_n Cx 3 dX4_pitch_23 rfl rfl ?_
      refine vV_iconst (v := 1) Cx dX4_pitch_24 (by decide) ?_
      refine vV_bipush (v := 6) Cx dX4_pitch_25 (by decide) ?_
      refine vV_callSi Cx (KX4_in (ad := ad) _ _ _ _) (cwS 3 Cx.1.2.2.2.2 (uGS u3_53 u3_54 u1_7 u3_55) rfl rfl rfl hdX4_in ⟨Nat.le_of_ble_eq_true rfl, Nat.le_of_ble_eq_true rfl⟩) rfl rfl (Nat.le_of_ble_eq_true rfl) ⟨Nat.zero_le _, Nat.zero_le _⟩ dX4_pitch_27 ?_
      refine vV_if_ne (tgt := 35) Cx dX4_pitch_30 (by decide) (fun h30 => ?_) (fun h30 => ?_)
      · have hi : vix v 7 v.toNatClampNeg := by rw [hp] at h10; obtain ⟨j, hj, rfl⟩ := isW_nI1 h10 (by omega); exact ⟨(vix_nI (n := 7) (by omega) (by decide)).1, rfl⟩
        refine vV_aload_n Cx 0 dX4_pitch_35 rfl rfl ?_
        refine vU_get Cx hinX4 0 rfl rfl 1 (by decide) u2_228 rfl dX4_pitch_36 ?_
        refine vV_iload_n Cx 1 dX4_pitch_39 rfl rfl ?_
        refine vV_iload_n Cx 2 dX4_pitch_40 rfl rfl ?_
        refine vV_iast Cx 1 0 rfl rfl (by assumption) dX4_pitch_41 nk_length ?_
        refine vV_aload_n Cx 0 dX4_pitch_42 rfl rfl ?_
        refine vU_get Cx hinX4 0 rfl rfl 2 (by decide) u2_229 rfl dX4_pitch_43 ?_
        refine vV_iload_n Cx 1 dX4_pitch_46 rfl rfl ?_
        refine vV_iload_n Cx 3 dX4_pitch_47 rfl rfl ?_
        refine vV_iast Cx 2 0 rfl rfl (by assumption) dX4_pitch_48 nk_width ?_
        refine vV_iconst (v := 1) Cx dX4_pitch_49 (by decide) ?_
        exact vV_zret Cx hr hlk dX4_pitch_50 (by first | rfl | decide) (by clear Cx hr hlk; simp_all [r_pitch]) (by first | (simp [e_pitch, r_pitch, h10, h20, h30]; done) | (simp [e_pitch, r_pitch, h10, h20, h30]; rfl))
      · refine vV_iconst (v := 0) Cx dX4_pitch_33 (by decide) ?_
        exact vV_zret Cx hr hlk dX4_pitch_34 (by first | rfl | decide) (by clear Cx hr hlk; simp_all [r_pitch]) (by first | (simp [e_pitch, r_pitch, h10, h20, h30]; done) | (simp [e_pitch, r_pitch, h10, h20, h30]; rfl))
abbrev rX4_high : Room := { frames := 1, cells := 0, slots := 0, locals := 22 }
set_option maxRecDepth 100000 in
set_option maxHeartbeats 4000000 in
theorem KX4_high {l : Launch} {D : va_G} {cI cZ : ClassId} {ad : Nat → Nat} {A : Nat → Prop} {E C N : mT} (v : Int32) : vKi l D (vtys cI cZ) A yX4_high (uT yX4_high cX4_high 3 (some .int)) rX4_high (wN cI cZ ad E C N) [.ref (ad 0), .int v] (if isW v 0 (E 8 0) = 0 then -1 else E 8 1) (wN cI cZ ad (if isW v 0 (E 8 0) = 0 then E else cS E 8 1 v) (C) (cS N 2 0 0)) := by
  refine vKi_of (cc := cX4_high) (maxL := 3) (ret := some .int) (by decide) rfl rfl (Nat.le_of_ble_eq_true rfl) ?_
  intro p e s m below meth c Cx hr hlk
  refine vV_aload_n Cx 0 dX4_high_0 rfl rfl ?_
  refine vV_iconst (v := 0) Cx dX4_high_1 (by decide) ?_
  refine vU_put Cx hinX4 tyX4_ok nmX4 0 rfl rfl 15 (by decide) u3_2 rfl (by decide +kernel) (Nat.le_of_ble_eq_true rfl) dX4_high_2 np_thrown ?_
  refine vV_iload_n Cx 1 dX4_high_5 rfl rfl ?_
  refine vV_iconst (v := 0) Cx dX4_high_6 (by decide) ?_
  refine vV_aload_n Cx 0 dX4_high_7 rfl rfl ?_
  refine vU_get Cx hinX4 0 rfl rfl 0 (by decide) u2_227 rfl dX4_high_8 ?_
  refine vV_callSi Cx (KX4_in (ad := ad) _ _ _ _) (cwS 3 Cx.1.2.2.2.2 (uGS u3_53 u3_54 u1_7 u3_55) rfl rfl rfl hdX4_in ⟨Nat.le_of_ble_eq_true rfl, Nat.le_of_ble_eq_true rfl⟩) rfl rfl (Nat.le_of_ble_eq_true rfl) ⟨Nat.zero_le _, Nat.zero_le _⟩ dX4_high_11 ?_
  refine vV_if_ne (tgt := 19) Cx dX4_high_14 (by decide) (fun h14 => ?_) (fun h14 => ?_)
  · refine vV_aload_n Cx 0 dX4_high_19 rfl rfl ?_
    refine vU_get Cx hinX4 0 rfl rfl 3 (by decide) u2_230 rfl dX4_high_20 ?_
    refine vV_istore_n Cx 2 dX4_high_23 rfl (by decide) ?_
    refine vV_aload_n Cx 0 dX4_high_24 rfl rfl ?_
    refine vV_iload_n Cx 1 dX4_high_25 rfl rfl ?_
    refine vU_put Cx hinX4 tyX4_ok nmX4 0 rfl rfl 3 (by decide) u2_230 rfl (by decide +kernel) (Nat.le_of_ble_eq_true rfl) dX4_high_26 np_high ?_
    refine vV_iload_n Cx 2 dX4_high_29 rfl rfl ?_
    exact vV_iret Cx hr hlk dX4_high_30 (by simp [h14]) (by simp [h14])
  · refine vV_iconst (v := -1) Cx dX4_high_17 (by decide) ?_
    exact vV_iret Cx hr hlk dX4_high_18 (by simp [h14]) (by simp [h14])
def mr_wind (f t : Int32) : Int32 := if isW t 0 199 = 0 then 0 else if isW f 0 t = 0 then 0 else 1
def me_wind (E : mT) (f t z : Int32) : mT := if mr_wind f t = 0 then E else vlp (fun h E => cS E 2 h (vp_nar .boolean z)) (t.toNatClampNeg + 1) f.toNatClampNeg E
abbrev rX4_wind : Room := { frames := 1, cells := 0, slots := 0, locals := 22 }
set_option maxRecDepth 100000 in
set_option maxHeartbeats 4000000 in
theorem KX4_wind {l : Launch} {D : va_G} {cI cZ : ClassId} {ad : Nat → Nat} {A : Nat → Prop} {E C N : mT} (f t z : Int32) : vKi l D (vtys cI cZ) A yX4_wind (uT yX4_wind cX4_wind 5 (some .boolean)) rX4_wind (wN cI cZ ad E C N) [.ref (ad 0), .int f, .int t, .int z] (mr_wind f t) (wN cI cZ ad (me_wind E f t z) (C) (cS N 2 0 0)) := by
  refine vKi_of (cc := cX4_wind) (maxL := 5) (ret := some .boolean) (by decide) rfl rfl (Nat.le_of_ble_eq_true rfl) ?_
  intro p e s m below meth c Cx hr hlk
  have Lp : ∀ (fuel i : Nat) (Z : mT), t.toNatClampNeg + 1 - i < fuel → i ≤ t.toNatClampNeg + 1 → t = nI t.toNatClampNeg → t.toNatClampNeg < 200 → mr_wind f t = 1 → vlp (fun h E => cS E 2 h (vp_nar .boolean z)) (t.toNatClampNeg + 1) i Z = me_wind E f t z → vV D (vtys cI cZ) A 5 p l e rX4_wind s m ([.ref (ad 0), .int f, .int t, .int z] : List Value).toArray below meth c 0 0 (MQ below (vQi D A (mr_wind f t) (wN cI cZ ad (me_wind E f t z) (C) (cS N 2 0 0))) ([.ref (ad 0), .int f, .int t, .int z] : List Value).toArray s 0 0 A) (wN cI cZ ad (Z) (C) (cS N 2 0 0)) [.ref (ad 0), .int f, .int t, .int z, .int (nI i)] 30 [] := by
    intro fuel
    induction fuel with
    | zero => intro i Z h2; exact absurd h2 (Nat.not_lt_zero _)
    | succ fuel ih =>
      intro i Z h2 h1 hte ht hrw h3
      refine vV_iload Cx dX4_wind_30 rfl ?_
      refine vV_iload_n Cx 2 dX4_wind_32 rfl rfl ?_
      refine vV_icmp_gt (tgt := 50) Cx dX4_wind_33 (by decide) (fun h33 => ?_) (fun h33 => ?_)
      · have hin : t.toNatClampNeg + 1 ≤ i := by rw [hte] at h33; exact (nI_ltI (by omega) (by omega)).mp h33
        refine vV_iconst (v := 1) Cx dX4_wind_50 (by decide) ?_
        exact vV_zret Cx hr hlk dX4_wind_51 (by first | rfl | decide) (by exact hrw.symm) (by rw [vlp_done hin] at h3; rw [h3])
      · have hlt : i < t.toNatClampNeg + 1 := Nat.lt_of_not_le (fun hh => h33 (by rw [hte]; exact nI_lt hh (by omega)))
        have hi : vix (nI i) 201 i := vix_nI (by omega) (by decide)
        refine vV_aload_n Cx 0 dX4_wind_36 rfl rfl ?_
        refine vU_get Cx hinX4 0 rfl rfl 5 (by decide) u2_232 rfl dX4_wind_37 ?_
        refine vV_iload Cx dX4_wind_40 rfl ?_
        refine vV_iload_n Cx 3 dX4_wind_42 rfl rfl ?_
        refine vV_zast Cx 3 1 rfl rfl (by assumption) dX4_wind_43 nk_windy ?_
        refine vV_iinc Cx dX4_wind_44 rfl (vinc _) (by decide) ?_
        refine vV_goto (tgt := 30) Cx dX4_wind_47 (by decide) ?_
        exact ih (i + 1) _ (by omega) (by omega) hte ht hrw ((vlp_step hlt).symm.trans h3)
  refine vV_aload_n Cx 0 dX4_wind_0 rfl rfl ?_
  refine vV_iconst (v := 0) Cx dX4_wind_1 (by decide) ?_
  refine vU_put Cx hinX4 tyX4_ok nmX4 0 rfl rfl 15 (by decide) u3_2 rfl (by decide +kernel) (Nat.le_of_ble_eq_true rfl) dX4_wind_2 np_thrown ?_
  refine vV_iload_n Cx 2 dX4_wind_5 rfl rfl ?_
  refine vV_iconst (v := 0) Cx dX4_wind_6 (by decide) ?_
  refine vV_sipush (v := 199) Cx dX4_wind_7 (by decide) ?_
  refine vV_callSi Cx (KX4_in (ad := ad) _ _ _ _) (cwS 3 Cx.1.2.2.2.2 (uGS u3_53 u3_54 u1_7 u3_55) rfl rfl rfl hdX4_in ⟨Nat.le_of_ble_eq_true rfl, Nat.le_of_ble_eq_true rfl⟩) rfl rfl (Nat.le_of_ble_eq_true rfl) ⟨Nat.zero_le _, Nat.zero_le _⟩ dX4_wind_10 ?_
  refine vV_if_eq (tgt := 25) Cx dX4_wind_13 (by decide) (fun h13 => ?_) (fun h13 => ?_)
  · refine vV_iconst (v := 0) Cx dX4_wind_25 (by decide) ?_
    exact vV_zret Cx hr hlk dX4_wind_26 (by first | rfl | decide) (by simp [mr_wind, h13]) (by simp [me_wind, mr_wind, h13])
  · refine vV_iload_n Cx 1 dX4_wind_16 rfl rfl ?_
    refine vV_iconst (v := 0) Cx dX4_wind_17 (by decide) ?_
    refine vV_iload_n Cx 2 dX4_wind_18 rfl rfl ?_
    refine vV_callSi Cx (KX4_in (ad := ad) _ _ _ _) (cwS 3 Cx.1.2.2.2.2 (uGS u3_53 u3_54 u1_7 u3_55) rfl rfl rfl hdX4_in ⟨Nat.le_of_ble_eq_true rfl, Nat.le_of_ble_eq_true rfl⟩) rfl rfl (Nat.le_of_ble_eq_true rfl) ⟨Nat.zero_le _, Nat.zero_le _⟩ dX4_wind_19 ?_
    refine vV_if_ne (tgt := 27) Cx dX4_wind_22 (by decide) (fun h22 => ?_) (fun h22 => ?_)
    · refine vV_iload_n Cx 1 dX4_wind_27 rfl rfl ?_
      refine vV_istore Cx dX4_wind_28 (by decide) ?_
      have hr1 : mr_wind f t = 1 := by simp [mr_wind, h13, h22]
      obtain ⟨j, hj, rfl⟩ := isW_nI (k := 199) h13 (by decide)
      obtain ⟨i, hi, rfl⟩ := isW_nI (k := j) h22 (by omega)
      exact Lp (j + 2) i E (by rw [nI_clamp (by omega)]; omega) (by rw [nI_clamp (by omega)]; omega) (by rw [nI_clamp (by omega)]) (by rw [nI_clamp (by omega)]; omega) hr1 (by rw [me_wind, hr1, if_neg (by decide), nI_clamp (n := i) (by omega)])
    · refine vV_iconst (v := 0) Cx dX4_wind_25 (by decide) ?_
      exact vV_zret Cx hr hlk dX4_wind_26 (by first | rfl | decide) (by simp [mr_wind, h13, h22]) (by simp [me_wind, mr_wind, h13, h22])
abbrev rX4_climber : Room := { frames := 2, cells := 0, slots := 0, locals := 45 }
set_option maxRecDepth 100000 in
set_option maxHeartbeats 4000000 in
theorem KX4_climber {l : Launch} {D : va_G} {cI cZ : ClassId} {ad : Nat → Nat} {A : Nat → Prop} {E C N : mT} {n : Nat} (hn : E 8 2 = nI n) (h12n : n ≤ 12) (t q r : Int32) : vKi l D (vtys cI cZ) A yX4_climber (uT yX4_climber cX4_climber 4 (some .int)) rX4_climber (wN cI cZ ad E C N) [.ref (ad 0), .int t, .int q, .int r] (if r_ok3 t q r = 0 ∨ ¬ n < 12 then -1 else nI n) (wN cI cZ ad (if r_ok3 t q r = 0 ∨ ¬ n < 12 then E else e_join E n t q r) (if r_ok3 t q r = 0 ∨ ¬ n < 12 then C else m_lay (e_join E n t q r) (C 9 0) n C) (cS N 2 0 0)) := by
  refine vKi_of (cc := cX4_climber) (maxL := 4) (ret := some .int) (by decide) rfl rfl (Nat.le_of_ble_eq_true rfl) ?_
  intro p e s m below meth c Cx hr hlk
  refine vV_aload_n Cx 0 dX4_climber_0 rfl rfl ?_
  refine vV_iconst (v := 0) Cx dX4_climber_1 (by decide) ?_
  refine vU_put Cx hinX4 tyX4_ok nmX4 0 rfl rfl 15 (by decide) u3_2 rfl (by decide +kernel) (Nat.le_of_ble_eq_true rfl) dX4_climber_2 np_thrown ?_
  refine vV_iload_n Cx 1 dX4_climber_5 rfl rfl ?_
  refine vV_iconst (v := 0) Cx dX4_climber_6 (by decide) ?_
  refine vV_iconst (v := 3) Cx dX4_climber_7 (by decide) ?_
  refine vV_callSi Cx (KX4_in (ad := ad) _ _ _ _) (cwS 3 Cx.1.2.2.2.2 (uGS u3_53 u3_54 u1_7 u3_55) rfl rfl rfl hdX4_in ⟨Nat.le_of_ble_eq_true rfl, Nat.le_of_ble_eq_true rfl⟩) rfl rfl (Nat.le_of_ble_eq_true rfl) ⟨Nat.zero_le _, Nat.zero_le _⟩ dX4_climber_8 ?_
  refine vV_if_eq (tgt := 43) Cx dX4_climber_11 (by decide) (fun h11 => ?_) (fun h11 => ?_)
  · refine vV_iconst (v := -1) Cx dX4_climber_43 (by decide) ?_
    exact vV_iret Cx hr hlk dX4_climber_44 (by first | rfl | (clear Cx hr hlk; simp_all [-Int32.not_lt, -Int32.not_le, r_ok3])) (by first | rfl | (clear Cx hr hlk; simp_all [-Int32.not_lt, -Int32.not_le, r_ok3]))
  · refine vV_iload_n Cx 2 dX4_climber_14 rfl rfl ?_
    refine vV_iconst (v := 0) Cx dX4_climber_15 (by decide) ?_
    refine vV_iconst (v := 4) Cx dX4_climber_16 (by decide) ?_
    refine vV_callSi Cx (KX4_in (ad := ad) _ _ _ _) (cwS 3 Cx.1.2.2.2.2 (uGS u3_53 u3_54 u1_7 u3_55) rfl rfl rfl hdX4_in ⟨Nat.le_of_ble_eq_true rfl, Nat.le_of_ble_eq_true rfl⟩) rfl rfl (Nat.le_of_ble_eq_true rfl) ⟨Nat.zero_le _, Nat.zero_le _⟩ dX4_climber_17 ?_
    refine vV_if_eq (tgt := 43) Cx dX4_climber_20 (by decide) (fun h20 => ?_) (fun h20 => ?_)
    · refine vV_iconst (v := -1) Cx dX4_climber_43 (by decide) ?_
      exact vV_iret Cx hr hlk dX4_climber_44 (by first | rfl | (clear Cx hr hlk; simp_all [-Int32.not_lt, -Int32.not_le, r_ok3])) (by first | rfl | (clear Cx hr hlk; simp_all [-Int32.not_lt, -Int32.not_le, r_ok3]))
    · refine vV_iload_n Cx 3 dX4_climber_23 rfl rfl ?_
      refine vV_iconst (v := 0) Cx dX4_climber_24 (by decide) ?_
      refine vV_sipush (v := 200) Cx dX4_climber_25 (by decide) ?_
      refine vV_callSi Cx (KX4_in (ad := ad) _ _ _ _) (cwS 3 Cx.1.2.2.2.2 (uGS u3_53 u3_54 u1_7 u3_55) rfl rfl rfl hdX4_in ⟨Nat.le_of_ble_eq_true rfl, Nat.le_of_ble_eq_true rfl⟩) rfl rfl (Nat.le_of_ble_eq_true rfl) ⟨Nat.zero_le _, Nat.zero_le _⟩ dX4_climber_28 ?_
      refine vV_if_eq (tgt := 43) Cx dX4_climber_31 (by decide) (fun h31 => ?_) (fun h31 => ?_)
      · refine vV_iconst (v := -1) Cx dX4_climber_43 (by decide) ?_
        exact vV_iret Cx hr hlk dX4_climber_44 (by first | rfl | (clear Cx hr hlk; simp_all [-Int32.not_lt, -Int32.not_le, r_ok3])) (by first | rfl | (clear Cx hr hlk; simp_all [-Int32.not_lt, -Int32.not_le, r_ok3]))
      · refine vV_aload_n Cx 0 dX4_climber_34 rfl rfl ?_
        refine vU_get Cx hinX4 0 rfl rfl 8 (by decide) u2_235 rfl dX4_climber_35 ?_
        refine vV_bipush (v := 12) Cx dX4_climber_38 (by decide) ?_
        refine vV_icmp_ne (tgt := 45) Cx dX4_climber_40 (by decide) (fun h40 => ?_) (fun h40 => ?_)
        · have hlt : n < 12 := by rcases Nat.lt_or_ge n 12 with hh | hh; exact hh; exact absurd (show E 8 2 = 12 by rw [hn, show n = 12 by omega]; rfl) h40
          have hi : vix (E 8 2) 12 n := by rw [hn]; exact vix_nI (by omega) (by decide)
          have hq : vix (nI n + 1 - 1) 12 n := by rw [nI_1, nI_pred]; exact vix_nI (by omega) (by decide)
          have hok : ¬ (r_ok3 t q r = 0 ∨ ¬ n < 12) := by simp [r_ok3, h11, h20, h31, hlt]
          refine vV_aload_n Cx 0 dX4_climber_45 rfl rfl ?_
          refine vU_get Cx hinX4 0 rfl rfl 9 (by decide) u2_236 rfl dX4_climber_46 ?_
          refine vV_aload_n Cx 0 dX4_climber_49 rfl rfl ?_
          refine vU_get Cx hinX4 0 rfl rfl 8 (by decide) u2_235 rfl dX4_climber_50 ?_
          refine vV_iload_n Cx 1 dX4_climber_53 rfl rfl ?_
          refine vV_iast Cx 6 0 rfl rfl (by assumption) dX4_climber_54 nk_team ?_
          refine vV_aload_n Cx 0 dX4_climber_55 rfl rfl ?_
          refine vU_get Cx hinX4 0 rfl rfl 10 (by decide) u2_237 rfl dX4_climber_56 ?_
          refine vV_aload_n Cx 0 dX4_climber_59 rfl rfl ?_
          refine vU_get Cx hinX4 0 rfl rfl 8 (by decide) u2_235 rfl dX4_climber_60 ?_
          refine vV_iload_n Cx 2 dX4_climber_63 rfl rfl ?_
          refine vV_iast Cx 7 0 rfl rfl (by assumption) dX4_climber_64 nk_pace ?_
          refine vV_aload_n Cx 0 dX4_climber_65 rfl rfl ?_
          refine vU_get Cx hinX4 0 rfl rfl 11 (by decide) u2_238 rfl dX4_climber_66 ?_
          refine vV_aload_n Cx 0 dX4_climber_69 rfl rfl ?_
          refine vU_get Cx hinX4 0 rfl rfl 8 (by decide) u2_235 rfl dX4_climber_70 ?_
          refine vV_iload_n Cx 3 dX4_climber_73 rfl rfl ?_
          refine vV_iast Cx 8 0 rfl rfl (by assumption) dX4_climber_74 nk_full ?_
          refine vV_aload_n Cx 0 dX4_climber_75 rfl rfl ?_
          refine vV_dup Cx dX4_climber_76 rfl ?_
          refine vU_get Cx hinX4 0 rfl rfl 8 (by decide) u2_235 rfl dX4_climber_77 ?_
          refine vV_iconst (v := 1) Cx dX4_climber_80 (by decide) ?_
          refine vV_iadd Cx dX4_climber_81 ?_
          refine vU_put Cx hinX4 tyX4_ok nmX4 0 rfl rfl 8 (by decide) u2_235 rfl (by decide +kernel) (Nat.le_of_ble_eq_true rfl) dX4_climber_82 np_climbers ?_
          refine vV_ws (w1 := wN cI cZ ad (e_join E n t q r) C (cS N 2 0 0)) (by rw [e_join, ← hn]; rfl) ?_
          refine vV_aload_n Cx 0 dX4_climber_85 rfl rfl ?_
          refine vV_aload_n Cx 0 dX4_climber_86 rfl rfl ?_
          refine vU_get Cx hinX4 0 rfl rfl 8 (by decide) u2_235 rfl dX4_climber_87 ?_
          refine vV_iconst (v := 1) Cx dX4_climber_90 (by decide) ?_
          refine vV_isub Cx dX4_climber_91 ?_
          refine vV_aload_n Cx 0 dX4_climber_92 rfl rfl ?_
          refine vU_get Cx hinX4 0 rfl rfl 4 (by decide) u2_231 rfl dX4_climber_93 ?_
          refine vV_callVv Cx (KX4_lay (E := e_join E n t q r) hq (C 9 0)) (cwV 2 Cx.1.2.2.2.2 (uGV u3_61 u3_63 us_18 u1_7 u3_64) rfl rfl rfl hdX4_lay ⟨Nat.le_of_ble_eq_true rfl, Nat.le_of_ble_eq_true rfl⟩) 0 rfl rfl rfl rfl (Nat.le_of_ble_eq_true rfl) ⟨Nat.zero_le _, Nat.zero_le _⟩ dX4_climber_96 ?_
          refine vV_aload_n Cx 0 dX4_climber_99 rfl rfl ?_
          refine vU_get Cx hinX4 0 rfl rfl 8 (by decide) u2_235 rfl dX4_climber_100 ?_
          refine vV_iconst (v := 1) Cx dX4_climber_103 (by decide) ?_
          refine vV_isub Cx dX4_climber_104 ?_
          exact vV_iret Cx hr hlk dX4_climber_105 (by rw [if_neg hok]; show nI n + 1 - 1 = nI n; rw [nI_1, nI_pred]) (by rw [if_neg hok, if_neg hok])
        · have hlt : ¬ n < 12 := fun hh => by rw [hn] at h40; have := (nI_eq (by omega) (by decide)).mp (show nI n = nI 12 from h40); omega
          refine vV_iconst (v := -1) Cx dX4_climber_43 (by decide) ?_
          exact vV_iret Cx hr hlk dX4_climber_44 (by first | rfl | (clear Cx hr hlk; simp_all [-Int32.not_lt, -Int32.not_le, r_ok3])) (by first | rfl | (clear Cx hr hlk; simp_all [-Int32.not_lt, -Int32.not_le, r_ok3]))
abbrev rX4_team : Room := { frames := 1, cells := 0, slots := 0, locals := 22 }
set_option maxRecDepth 100000 in
set_option maxHeartbeats 4000000 in
theorem KX4_team {l : Launch} {D : va_G} {cI cZ : ClassId} {ad : Nat → Nat} {A : Nat → Prop} {E C N : mT} (t w v : Int32) : vKi l D (vtys cI cZ) A yX4_team (uT yX4_team cX4_team 5 (some .int)) rX4_team (wN cI cZ ad E C N) [.ref (ad 0), .int t, .int w, .int v] (a_team E t w v) (wN cI cZ ad (e_team E t w v) (C) (cS N 2 0 0)) := by
  refine vKi_of (cc := cX4_team) (maxL := 5) (ret := some .int) (by decide) rfl rfl (Nat.le_of_ble_eq_true rfl) ?_
  intro p e s m below meth c Cx hr hlk
  refine vV_aload_n Cx 0 dX4_team_0 rfl rfl ?_
  refine vV_iconst (v := 0) Cx dX4_team_1 (by decide) ?_
  refine vU_put Cx hinX4 tyX4_ok nmX4 0 rfl rfl 15 (by decide) u3_2 rfl (by decide +kernel) (Nat.le_of_ble_eq_true rfl) dX4_team_2 np_thrown ?_
  refine vV_iload_n Cx 1 dX4_team_5 rfl rfl ?_
  refine vV_iconst (v := 0) Cx dX4_team_6 (by decide) ?_
  refine vV_iconst (v := 3) Cx dX4_team_7 (by decide) ?_
  refine vV_callSi Cx (KX4_in (ad := ad) _ _ _ _) (cwS 3 Cx.1.2.2.2.2 (uGS u3_53 u3_54 u1_7 u3_55) rfl rfl rfl hdX4_in ⟨Nat.le_of_ble_eq_true rfl, Nat.le_of_ble_eq_true rfl⟩) rfl rfl (Nat.le_of_ble_eq_true rfl) ⟨Nat.zero_le _, Nat.zero_le _⟩ dX4_team_8 ?_
  refine vV_if_eq (tgt := 43) Cx dX4_team_11 (by decide) (fun h11 => ?_) (fun h11 => ?_)
  · refine vV_iconst (v := -1) Cx dX4_team_43 (by decide) ?_
    exact vV_iret Cx hr hlk dX4_team_44 (by simp_all [a_team, r_team]) (by simp_all [e_team, r_team])
  · have hi : vix t 4 t.toNatClampNeg := vix_of (M := 3) rfl (isW_in h11).1 (isW_in h11).2
    refine vV_iload_n Cx 2 dX4_team_14 rfl rfl ?_
    refine vV_iconst (v := 0) Cx dX4_team_15 (by decide) ?_
    refine vV_iconst (v := 1) Cx dX4_team_16 (by decide) ?_
    refine vV_callSi Cx (KX4_in (ad := ad) _ _ _ _) (cwS 3 Cx.1.2.2.2.2 (uGS u3_53 u3_54 u1_7 u3_55) rfl rfl rfl hdX4_in ⟨Nat.le_of_ble_eq_true rfl, Nat.le_of_ble_eq_true rfl⟩) rfl rfl (Nat.le_of_ble_eq_true rfl) ⟨Nat.zero_le _, Nat.zero_le _⟩ dX4_team_17 ?_
    refine vV_if_eq (tgt := 43) Cx dX4_team_20 (by decide) (fun h20 => ?_) (fun h20 => ?_)
    · refine vV_iconst (v := -1) Cx dX4_team_43 (by decide) ?_
      exact vV_iret Cx hr hlk dX4_team_44 (by simp_all [a_team, r_team]) (by simp_all [e_team, r_team])
    · refine vV_iload_n Cx 3 dX4_team_23 rfl rfl ?_
      refine vV_iconst (v := 0) Cx dX4_team_24 (by decide) ?_
      refine vV_iload_n Cx 2 dX4_team_25 rfl rfl ?_
      refine vV_if_ne (tgt := 34) Cx dX4_team_26 (by decide) (fun h26 => ?_) (fun h26 => ?_)
      · refine vV_sipush (v := 200) Cx dX4_team_34 (by decide) ?_
        refine vV_callSi Cx (KX4_in (ad := ad) _ _ _ _) (cwS 3 Cx.1.2.2.2.2 (uGS u3_53 u3_54 u1_7 u3_55) rfl rfl rfl hdX4_in ⟨Nat.le_of_ble_eq_true rfl, Nat.le_of_ble_eq_true rfl⟩) rfl rfl (Nat.le_of_ble_eq_true rfl) ⟨Nat.zero_le _, Nat.zero_le _⟩ dX4_team_37 ?_
        refine vV_if_ne (tgt := 45) Cx dX4_team_40 (by decide) (fun h40 => ?_) (fun h40 => ?_)
        · refine vV_iload_n Cx 2 dX4_team_45 rfl rfl ?_
          refine vV_if_ne (tgt := 58) Cx dX4_team_46 (by decide) (fun h46 => ?_) (fun h46 => ?_)
          · refine vV_aload_n Cx 0 dX4_team_58 rfl rfl ?_
            refine vU_get Cx hinX4 0 rfl rfl 7 (by decide) u2_234 rfl dX4_team_59 ?_
            refine vV_iload_n Cx 1 dX4_team_62 rfl rfl ?_
            refine vV_iald Cx 5 0 rfl rfl (by assumption) dX4_team_63 ?_
            refine vV_istore Cx dX4_team_64 (by decide) ?_
            refine vV_iload_n Cx 2 dX4_team_66 rfl rfl ?_
            refine vV_if_ne (tgt := 80) Cx dX4_team_67 (by decide) (fun h67 => ?_) (fun h67 => ?_)
            · refine vV_aload_n Cx 0 dX4_team_80 rfl rfl ?_
              refine vU_get Cx hinX4 0 rfl rfl 7 (by decide) u2_234 rfl dX4_team_81 ?_
              refine vV_iload_n Cx 1 dX4_team_84 rfl rfl ?_
              refine vV_iload_n Cx 3 dX4_team_85 rfl rfl ?_
              refine vV_iast Cx 5 0 rfl rfl (by assumption) dX4_team_86 nk_turn ?_
              refine vV_iload Cx dX4_team_87 rfl ?_
              exact vV_iret Cx hr hlk dX4_team_89 (by simp_all [a_team, r_team]) (by simp_all [e_team, r_team])
            · refine vV_aload_n Cx 0 dX4_team_70 rfl rfl ?_
              refine vU_get Cx hinX4 0 rfl rfl 6 (by decide) u2_233 rfl dX4_team_71 ?_
              refine vV_iload_n Cx 1 dX4_team_74 rfl rfl ?_
              refine vV_iload_n Cx 3 dX4_team_75 rfl rfl ?_
              refine vV_iast Cx 4 0 rfl rfl (by assumption) dX4_team_76 nk_start ?_
              refine vV_goto (tgt := 87) Cx dX4_team_77 (by decide) ?_
              refine vV_iload Cx dX4_team_87 rfl ?_
              exact vV_iret Cx hr hlk dX4_team_89 (by simp_all [a_team, r_team]) (by simp_all [e_team, r_team])
          · refine vV_aload_n Cx 0 dX4_team_49 rfl rfl ?_
            refine vU_get Cx hinX4 0 rfl rfl 6 (by decide) u2_233 rfl dX4_team_50 ?_
            refine vV_iload_n Cx 1 dX4_team_53 rfl rfl ?_
            refine vV_iald Cx 4 0 rfl rfl (by assumption) dX4_team_54 ?_
            refine vV_goto (tgt := 64) Cx dX4_team_55 (by decide) ?_
            refine vV_istore Cx dX4_team_64 (by decide) ?_
            refine vV_iload_n Cx 2 dX4_team_66 rfl rfl ?_
            refine vV_if_ne (tgt := 80) Cx dX4_team_67 (by decide) (fun h67 => ?_) (fun h67 => ?_)
            · refine vV_aload_n Cx 0 dX4_team_80 rfl rfl ?_
              refine vU_get Cx hinX4 0 rfl rfl 7 (by decide) u2_234 rfl dX4_team_81 ?_
              refine vV_iload_n Cx 1 dX4_team_84 rfl rfl ?_
              refine vV_iload_n Cx 3 dX4_team_85 rfl rfl ?_
              refine vV_iast Cx 5 0 rfl rfl (by assumption) dX4_team_86 nk_turn ?_
              refine vV_iload Cx dX4_team_87 rfl ?_
              exact vV_iret Cx hr hlk dX4_team_89 (by simp_all [a_team, r_team]) (by simp_all [e_team, r_team])
            · refine vV_aload_n Cx 0 dX4_team_70 rfl rfl ?_
              refine vU_get Cx hinX4 0 rfl rfl 6 (by decide) u2_233 rfl dX4_team_71 ?_
              refine vV_iload_n Cx 1 dX4_team_74 rfl rfl ?_
              refine vV_iload_n Cx 3 dX4_team_75 rfl rfl ?_
              refine vV_iast Cx 4 0 rfl rfl (by assumption) dX4_team_76 nk_start ?_
              refine vV_goto (tgt := 87) Cx dX4_team_77 (by decide) ?_
              refine vV_iload Cx dX4_team_87 rfl ?_
              exact vV_iret Cx hr hlk dX4_team_89 (by simp_all [a_team, r_team]) (by simp_all [e_team, r_team])
        · refine vV_iconst (v := -1) Cx dX4_team_43 (by decide) ?_
          exact vV_iret Cx hr hlk dX4_team_44 (by simp_all [a_team, r_team]) (by simp_all [e_team, r_team])
      · refine vV_bipush (v := 100) Cx dX4_team_29 (by decide) ?_
        refine vV_goto (tgt := 37) Cx dX4_team_31 (by decide) ?_
        refine vV_callSi Cx (KX4_in (ad := ad) _ _ _ _) (cwS 3 Cx.1.2.2.2.2 (uGS u3_53 u3_54 u1_7 u3_55) rfl rfl rfl hdX4_in ⟨Nat.le_of_ble_eq_true rfl, Nat.le_of_ble_eq_true rfl⟩) rfl rfl (Nat.le_of_ble_eq_true rfl) ⟨Nat.zero_le _, Nat.zero_le _⟩ dX4_team_37 ?_
        refine vV_if_ne (tgt := 45) Cx dX4_team_40 (by decide) (fun h40 => ?_) (fun h40 => ?_)
        · refine vV_iload_n Cx 2 dX4_team_45 rfl rfl ?_
          refine vV_if_ne (tgt := 58) Cx dX4_team_46 (by decide) (fun h46 => ?_) (fun h46 => ?_)
          · refine vV_aload_n Cx 0 dX4_team_58 rfl rfl ?_
            refine vU_get Cx hinX4 0 rfl rfl 7 (by decide) u2_234 rfl dX4_team_59 ?_
            refine vV_iload_n Cx 1 dX4_team_62 rfl rfl ?_
            refine vV_iald Cx 5 0 rfl rfl (by assumption) dX4_team_63 ?_
            refine vV_istore Cx dX4_team_64 (by decide) ?_
            refine vV_iload_n Cx 2 dX4_team_66 rfl rfl ?_
            refine vV_if_ne (tgt := 80) Cx dX4_team_67 (by decide) (fun h67 => ?_) (fun h67 => ?_)
            · refine vV_aload_n Cx 0 dX4_team_80 rfl rfl ?_
              refine vU_get Cx hinX4 0 rfl rfl 7 (by decide) u2_234 rfl dX4_team_81 ?_
              refine vV_iload_n Cx 1 dX4_team_84 rfl rfl ?_
              refine vV_iload_n Cx 3 dX4_team_85 rfl rfl ?_
              refine vV_iast Cx 5 0 rfl rfl (by assumption) dX4_team_86 nk_turn ?_
              refine vV_iload Cx dX4_team_87 rfl ?_
              exact vV_iret Cx hr hlk dX4_team_89 (by simp_all [a_team, r_team]) (by simp_all [e_team, r_team])
            · refine vV_aload_n Cx 0 dX4_team_70 rfl rfl ?_
              refine vU_get Cx hinX4 0 rfl rfl 6 (by decide) u2_233 rfl dX4_team_71 ?_
              refine vV_iload_n Cx 1 dX4_team_74 rfl rfl ?_
              refine vV_iload_n Cx 3 dX4_team_75 rfl rfl ?_
              refine vV_iast Cx 4 0 rfl rfl (by assumption) dX4_team_76 nk_start ?_
              refine vV_goto (tgt := 87) Cx dX4_team_77 (by decide) ?_
              refine vV_iload Cx dX4_team_87 rfl ?_
              exact vV_iret Cx hr hlk dX4_team_89 (by simp_all [a_team, r_team]) (by simp_all [e_team, r_team])
          · refine vV_aload_n Cx 0 dX4_team_49 rfl rfl ?_
            refine vU_get Cx hinX4 0 rfl rfl 6 (by decide) u2_233 rfl dX4_team_50 ?_
            refine vV_iload_n Cx 1 dX4_team_53 rfl rfl ?_
            refine vV_iald Cx 4 0 rfl rfl (by assumption) dX4_team_54 ?_
            refine vV_goto (tgt := 64) Cx dX4_team_55 (by decide) ?_
            refine vV_istore Cx dX4_team_64 (by decide) ?_
            refine vV_iload_n Cx 2 dX4_team_66 rfl rfl ?_
            refine vV_if_ne (tgt := 80) Cx dX4_team_67 (by decide) (fun h67 => ?_) (fun h67 => ?_)
            · refine vV_aload_n Cx 0 dX4_team_80 rfl rfl ?_
              refine vU_get Cx hinX4 0 rfl rfl 7 (by decide) u2_234 rfl dX4_team_81 ?_
              refine vV_iload_n Cx 1 dX4_team_84 rfl rfl ?_
              refine vV_iload_n Cx 3 dX4_team_85 rfl rfl ?_
              refine vV_iast Cx 5 0 rfl rfl (by assumption) dX4_team_86 nk_turn ?_
              refine vV_iload Cx dX4_team_87 rfl ?_
              exact vV_iret Cx hr hlk dX4_team_89 (by simp_all [a_team, r_team]) (by simp_all [e_team, r_team])
            · refine vV_aload_n Cx 0 dX4_team_70 rfl rfl ?_
              refine vU_get Cx hinX4 0 rfl rfl 6 (by decide) u2_233 rfl dX4_team_71 ?_
              refine vV_iload_n Cx 1 dX4_team_74 rfl rfl ?_
              refine vV_iload_n Cx 3 dX4_team_75 rfl rfl ?_
              refine vV_iast Cx 4 0 rfl rfl (by assumption) dX4_team_76 nk_start ?_
              refine vV_goto (tgt := 87) Cx dX4_team_77 (by decide) ?_
              refine vV_iload Cx dX4_team_87 rfl ?_
              exact vV_iret Cx hr hlk dX4_team_89 (by simp_all [a_team, r_team]) (by simp_all [e_team, r_team])
        · refine vV_iconst (v := -1) Cx dX4_team_43 (by decide) ?_
          exact vV_iret Cx hr hlk dX4_team_44 (by simp_all [a_team, r_team]) (by simp_all [e_team, r_team])
abbrev rX4_begin : Room := { frames := 3, cells := 0, slots := 0, locals := 66 }
set_option maxRecDepth 100000 in
set_option maxHeartbeats 4000000 in
theorem KX4_begin {l : Launch} {D : va_G} {cI cZ : ClassId} {ad : Nat → Nat} {A : Nat → Prop} {E C N : mT} {n : Nat} (hn : E 8 2 = nI n) (h12n : n ≤ 12) : vKi l D (vtys cI cZ) A yX4_begin (uT yX4_begin cX4_begin 1 (some .int)) rX4_begin (wN cI cZ ad E C N) [.ref (ad 0)] (nI n) (wN cI cZ ad (E) (m_beg E n C) (cS N 2 0 0)) := by
  refine vKi_of (cc := cX4_begin) (maxL := 1) (ret := some .int) (by decide) rfl rfl (Nat.le_of_ble_eq_true rfl) ?_
  intro p e s m below meth c Cx hr hlk
  refine vV_aload_n Cx 0 dX4_begin_0 rfl rfl ?_
  refine vV_iconst (v := 0) Cx dX4_begin_1 (by decide) ?_
  refine vU_put Cx hinX4 tyX4_ok nmX4 0 rfl rfl 15 (by decide) u3_2 rfl (by decide +kernel) (Nat.le_of_ble_eq_true rfl) dX4_begin_2 np_thrown ?_
  refine vV_aload_n Cx 0 dX4_begin_5 rfl rfl ?_
  refine vV_callVv Cx (KX4_beginAll hn h12n) (cwV 0 Cx.1.2.2.2.2 (uGV u3_57 u3_59 us_17 u1_7 u3_60) rfl rfl rfl hdX4_beginAll ⟨Nat.le_of_ble_eq_true rfl, Nat.le_of_ble_eq_true rfl⟩) 0 rfl rfl rfl rfl (Nat.le_of_ble_eq_true rfl) ⟨Nat.zero_le _, Nat.zero_le _⟩ dX4_begin_6 ?_
  refine vV_aload_n Cx 0 dX4_begin_9 rfl rfl ?_
  refine vU_get Cx hinX4 0 rfl rfl 8 (by decide) u2_235 rfl dX4_begin_10 ?_
  exact vV_iret Cx hr hlk dX4_begin_13 (by exact hn) (by rfl)
