/-! the reference: an hour -/
def m_ok (E : mT) (q d : Int32) (i : Nat) (C : mT) : Bool := decide (C 2 i = 0 ∧ C 0 i = (if d = 0 then 0 else 2) ∧ C 1 i = (if d = 0 then q else q + 1) ∧ ¬ (d = 0 ∧ q = 0 ∧ C 9 0 < E 6 (tm E i)))
def f_ff (E : mT) (q d : Int32) (C : mT) (i : Nat) (a : Int32) : Int32 := if m_ok E q d i C = true then (if a = -1 then nI i else if C 6 i < C 6 a.toNatClampNeg then nI i else a) else a
def m_fil (E : mT) (n : Nat) (q d : Int32) (C : mT) : Int32 := vlp (f_ff E q d C) n 0 (-1)
theorem f_ff_ix {E C : mT} {q d : Int32} {n : Nat} (h12 : n ≤ 12) {i : Nat} {a : Int32} (hi : i < n) (ha : a = -1 ∨ vix a 12 a.toNatClampNeg) : f_ff E q d C i a = -1 ∨ vix (f_ff E q d C i a) 12 (f_ff E q d C i a).toNatClampNeg := by
  have hv : vix (nI i) 12 (nI i).toNatClampNeg := ⟨(vix_nI (n := 12) (by omega) (by decide)).1, rfl⟩
  unfold f_ff
  split
  · split
    · exact Or.inr hv
    · split
      · exact Or.inr hv
      · exact ha
  · exact ha
theorem m_fil_ix {E C : mT} {q d : Int32} {n : Nat} (h12 : n ≤ 12) (h : ¬ m_fil E n q d C = -1) : vix (m_fil E n q d C) 12 (m_fil E n q d C).toNatClampNeg := by
  have := vlp_inv (P := fun a : Int32 => a = -1 ∨ vix a 12 a.toNatClampNeg) (f := f_ff E q d C) (n := n) (fun i a hi ha => f_ff_ix h12 hi ha) (n - 0) 0 (-1) rfl (Or.inl rfl)
  exact this.resolve_left h
def m_so1 (h : Int32) (f : Nat) (C : mT) : mT := cS (cS C 2 f (if C 3 f = 0 then 2 * h else h)) 6 f (-1)
def m_so (E : mT) (n q : Nat) : Nat → mT → mT
  | 0, C => C
  | k + 1, C => if m_fil E n (nI q) 1 C = -1 then (if m_fil E n (nI q) 0 C = -1 then C else m_so E n q k (m_so1 (E 0 q + E 4 (m_fil E n (nI q) 0 C).toNatClampNeg) (m_fil E n (nI q) 0 C).toNatClampNeg C)) else m_so E n q k (m_so1 (E 0 q) (m_fil E n (nI q) 1 C).toNatClampNeg C)
theorem m_so_s (E : mT) (n q w k : Nat) (C : mT) (h : k < w) : m_so E n q (w - k) C = if m_fil E n (nI q) 1 C = -1 then (if m_fil E n (nI q) 0 C = -1 then C else m_so E n q (w - (k + 1)) (m_so1 (E 0 q + E 4 (m_fil E n (nI q) 0 C).toNatClampNeg) (m_fil E n (nI q) 0 C).toNatClampNeg C)) else m_so E n q (w - (k + 1)) (m_so1 (E 0 q) (m_fil E n (nI q) 1 C).toNatClampNeg C) := by rw [show w - k = (w - (k + 1)) + 1 by omega]; rfl
abbrev rX4_firstFor : Room := { frames := 2, cells := 0, slots := 0, locals := 43 }
set_option maxRecDepth 100000 in
set_option maxHeartbeats 4000000 in
theorem KX4_firstFor {l : Launch} {D : va_G} {cI cZ : ClassId} {ad : Nat → Nat} {A : Nat → Prop} {E C N : mT} {n : Nat} (hn : E 8 2 = nI n) (h12n : n ≤ 12) (ht : ∀ i, i < n → vix (E 3 i) 4 (tm E i)) (q d : Int32) : vKi l D (vtys cI cZ) A yX4_firstFor (uT yX4_firstFor cX4_firstFor 5 (some .int)) rX4_firstFor (wN cI cZ ad E C N) [.ref (ad 0), .int q, .int d] (m_fil E n q d C) (wN cI cZ ad E C N) := by
  refine vKi_of (cc := cX4_firstFor) (maxL := 5) (ret := some .int) (by decide) rfl rfl (Nat.le_of_ble_eq_true rfl) ?_
  intro p e s m below meth c Cx hr hlk
  have Lp : ∀ (fuel i : Nat) (a : Int32), i ≤ n → n - i < fuel → (a = -1 ∨ vix a 12 a.toNatClampNeg) → vlp (f_ff E q d C) n i a = m_fil E n q d C → vV D (vtys cI cZ) A 5 p l e rX4_firstFor s m ([.ref (ad 0), .int q, .int d] : List Value).toArray below meth c 0 0 (MQ below (vQi D A (m_fil E n q d C) (wN cI cZ ad E C N)) ([.ref (ad 0), .int q, .int d] : List Value).toArray s 0 0 A) (wN cI cZ ad E C N) [.ref (ad 0), .int q, .int d, .int a, .int (nI i)] 5 [] := by
    intro fuel
    induction fuel with
    | zero => intro i a h1 h2; exact absurd h2 (Nat.not_lt_zero _)
    | succ fuel ih =>
      intro i a h1 h2 ha h3
      refine vV_iload Cx dX4_firstFor_5 rfl ?_
      refine vV_aload_n Cx 0 dX4_firstFor_7 rfl rfl ?_
      refine vU_get Cx hinX4 0 rfl rfl 8 (by decide) u2_235 rfl dX4_firstFor_8 ?_
      refine vV_icmp_ge (tgt := 128) Cx dX4_firstFor_11 (by decide) (fun h11 => ?_) (fun h11 => ?_)
      · rw [hn] at h11
        have hin := vix_ge h11 (by omega) h1
        refine vV_iload_n Cx 3 dX4_firstFor_128 rfl rfl ?_
        exact vV_iret Cx hr hlk dX4_firstFor_129 (by rw [hin, vlp_done (Nat.le_refl _)] at h3; exact h3) (by rfl)
      · rw [hn] at h11
        have hlt := vix_lt h11 (by omega) h1
        have hi : vix (nI i) 12 i := vix_nI (by omega) (by decide)
        have ht2 := ht i hlt
        refine vV_aload_n Cx 0 dX4_firstFor_14 rfl rfl ?_
        refine vV_iload Cx dX4_firstFor_15 rfl ?_
        refine vV_callVi Cx (KX4_isAtCamp hi) (cwV 1 Cx.1.2.2.2.2 (uGV u3_109 u3_111 us_23 u1_7 u3_112) rfl rfl rfl hdX4_isAtCamp ⟨Nat.le_of_ble_eq_true rfl, Nat.le_of_ble_eq_true rfl⟩) 0 rfl rfl rfl rfl (Nat.le_of_ble_eq_true rfl) ⟨Nat.zero_le _, Nat.zero_le _⟩ dX4_firstFor_17 ?_
        refine vV_if_eq (tgt := 122) Cx dX4_firstFor_20 (by decide) (fun h20 => ?_) (fun h20 => ?_)
        · refine vV_iinc Cx dX4_firstFor_122 rfl (vinc _) (by decide) ?_
          refine vV_goto (tgt := 5) Cx dX4_firstFor_125 (by decide) ?_
          refine ih (i + 1) _ (by omega) (by omega) ?_ (by rw [← h3, vlp_step hlt]; exact congrArg (vlp _ n (i + 1)) (by first | rfl | (clear Cx hr hlk; simp_all [-Int32.not_lt, -Int32.not_le, f_ff, m_ok, m_ac])))
          first | exact ha | exact Or.inr ⟨hi.1, rfl⟩
        · refine vV_aload_n Cx 0 dX4_firstFor_23 rfl rfl ?_
          refine vV_iload Cx dX4_firstFor_24 rfl ?_
          refine vV_iconst (v := 0) Cx dX4_firstFor_26 (by decide) ?_
          refine vV_callVi Cx (KX4_get hi v7_0) (cwV 2 Cx.1.2.2.2.2 (uGV u3_113 u3_115 us_24 u1_7 u3_116) rfl rfl rfl hdX4_get ⟨Nat.le_of_ble_eq_true rfl, Nat.le_of_ble_eq_true rfl⟩) 0 rfl rfl rfl rfl (Nat.le_of_ble_eq_true rfl) ⟨Nat.zero_le _, Nat.zero_le _⟩ dX4_firstFor_27 ?_
          refine vV_iload_n Cx 2 dX4_firstFor_30 rfl rfl ?_
          refine vV_if_eq (tgt := 38) Cx dX4_firstFor_31 (by decide) (fun h31 => ?_) (fun h31 => ?_)
          · refine vV_iconst (v := 0) Cx dX4_firstFor_38 (by decide) ?_
            refine vV_icmp_ne (tgt := 122) Cx dX4_firstFor_39 (by decide) (fun h39 => ?_) (fun h39 => ?_)
            · refine vV_iinc Cx dX4_firstFor_122 rfl (vinc _) (by decide) ?_
              refine vV_goto (tgt := 5) Cx dX4_firstFor_125 (by decide) ?_
              refine ih (i + 1) _ (by omega) (by omega) ?_ (by rw [← h3, vlp_step hlt]; exact congrArg (vlp _ n (i + 1)) (by first | rfl | (clear Cx hr hlk; simp_all [-Int32.not_lt, -Int32.not_le, f_ff, m_ok, m_ac])))
              first | exact ha | exact Or.inr ⟨hi.1, rfl⟩
            · refine vV_aload_n Cx 0 dX4_firstFor_42 rfl rfl ?_
              refine vV_iload Cx dX4_firstFor_43 rfl ?_
              refine vV_iconst (v := 1) Cx dX4_firstFor_45 (by decide) ?_
              refine vV_callVi Cx (KX4_get hi v7_1) (cwV 2 Cx.1.2.2.2.2 (uGV u3_113 u3_115 us_24 u1_7 u3_116) rfl rfl rfl hdX4_get ⟨Nat.le_of_ble_eq_true rfl, Nat.le_of_ble_eq_true rfl⟩) 0 rfl rfl rfl rfl (Nat.le_of_ble_eq_true rfl) ⟨Nat.zero_le _, Nat.zero_le _⟩ dX4_firstFor_46 ?_
              refine vV_iload_n Cx 2 dX4_firstFor_49 rfl rfl ?_
              refine vV_if_eq (tgt := 59) Cx dX4_firstFor_50 (by decide) (fun h50 => ?_) (fun h50 => ?_)
              · refine vV_iload_n Cx 1 dX4_firstFor_59 rfl rfl ?_
                refine vV_icmp_eq (tgt := 66) Cx dX4_firstFor_60 (by decide) (fun h60 => ?_) (fun h60 => ?_)
                · refine vV_iload_n Cx 2 dX4_firstFor_66 rfl rfl ?_
                  refine vV_if_ne (tgt := 96) Cx dX4_firstFor_67 (by decide) (fun h67 => ?_) (fun h67 => ?_)
                  · refine vV_iload_n Cx 3 dX4_firstFor_96 rfl rfl ?_
                    refine vV_iconst (v := -1) Cx dX4_firstFor_97 (by decide) ?_
                    refine vV_icmp_eq (tgt := 119) Cx dX4_firstFor_98 (by decide) (fun h98 => ?_) (fun h98 => ?_)
                    · refine vV_iload Cx dX4_firstFor_119 rfl ?_
                      refine vV_istore_n Cx 3 dX4_firstFor_121 rfl (by decide) ?_
                      refine vV_iinc Cx dX4_firstFor_122 rfl (vinc _) (by decide) ?_
                      refine vV_goto (tgt := 5) Cx dX4_firstFor_125 (by decide) ?_
                      refine ih (i + 1) _ (by omega) (by omega) ?_ (by rw [← h3, vlp_step hlt]; exact congrArg (vlp _ n (i + 1)) (by first | rfl | (clear Cx hr hlk; simp_all [-Int32.not_lt, -Int32.not_le, f_ff, m_ok, m_ac])))
                      first | exact ha | exact Or.inr ⟨hi.1, rfl⟩
                    · have ha2 := ha.resolve_left h98
                      refine vV_aload_n Cx 0 dX4_firstFor_101 rfl rfl ?_
                      refine vV_iload Cx dX4_firstFor_102 rfl ?_
                      refine vV_bipush (v := 6) Cx dX4_firstFor_104 (by decide) ?_
                      refine vV_callVi Cx (KX4_get hi v7_6) (cwV 2 Cx.1.2.2.2.2 (uGV u3_113 u3_115 us_24 u1_7 u3_116) rfl rfl rfl hdX4_get ⟨Nat.le_of_ble_eq_true rfl, Nat.le_of_ble_eq_true rfl⟩) 0 rfl rfl rfl rfl (Nat.le_of_ble_eq_true rfl) ⟨Nat.zero_le _, Nat.zero_le _⟩ dX4_firstFor_106 ?_
                      refine vV_aload_n Cx 0 dX4_firstFor_109 rfl rfl ?_
                      refine vV_iload_n Cx 3 dX4_firstFor_110 rfl rfl ?_
                      refine vV_bipush (v := 6) Cx dX4_firstFor_111 (by decide) ?_
                      refine vV_callVi Cx (KX4_get ha2 v7_6) (cwV 2 Cx.1.2.2.2.2 (uGV u3_113 u3_115 us_24 u1_7 u3_116) rfl rfl rfl hdX4_get ⟨Nat.le_of_ble_eq_true rfl, Nat.le_of_ble_eq_true rfl⟩) 0 rfl rfl rfl rfl (Nat.le_of_ble_eq_true rfl) ⟨Nat.zero_le _, Nat.zero_le _⟩ dX4_firstFor_113 ?_
                      refine vV_icmp_ge (tgt := 122) Cx dX4_firstFor_116 (by decide) (fun h116 => ?_) (fun h116 => ?_)
                      · refine vV_iinc Cx dX4_firstFor_122 rfl (vinc _) (by decide) ?_
                        refine vV_goto (tgt := 5) Cx dX4_firstFor_125 (by decide) ?_
                        refine ih (i + 1) _ (by omega) (by omega) ?_ (by rw [← h3, vlp_step hlt]; exact congrArg (vlp _ n (i + 1)) (by first | rfl | (clear Cx hr hlk; simp_all [-Int32.not_lt, -Int32.not_le, f_ff, m_ok, m_ac])))
                        first | exact ha | exact Or.inr ⟨hi.1, rfl⟩
                      · refine vV_iload Cx dX4_firstFor_119 rfl ?_
                        refine vV_istore_n Cx 3 dX4_firstFor_121 rfl (by decide) ?_
                        refine vV_iinc Cx dX4_firstFor_122 rfl (vinc _) (by decide) ?_
                        refine vV_goto (tgt := 5) Cx dX4_firstFor_125 (by decide) ?_
                        refine ih (i + 1) _ (by omega) (by omega) ?_ (by rw [← h3, vlp_step hlt]; exact congrArg (vlp _ n (i + 1)) (by first | rfl | (clear Cx hr hlk; simp_all [-Int32.not_lt, -Int32.not_le, f_ff, m_ok, m_ac])))
                        first | exact ha | exact Or.inr ⟨hi.1, rfl⟩
                  · refine vV_iload_n Cx 1 dX4_firstFor_70 rfl rfl ?_
                    refine vV_if_ne (tgt := 96) Cx dX4_firstFor_71 (by decide) (fun h71 => ?_) (fun h71 => ?_)
                    · refine vV_iload_n Cx 3 dX4_firstFor_96 rfl rfl ?_
                      refine vV_iconst (v := -1) Cx dX4_firstFor_97 (by decide) ?_
                      refine vV_icmp_eq (tgt := 119) Cx dX4_firstFor_98 (by decide) (fun h98 => ?_) (fun h98 => ?_)
                      · refine vV_iload Cx dX4_firstFor_119 rfl ?_
                        refine vV_istore_n Cx 3 dX4_firstFor_121 rfl (by decide) ?_
                        refine vV_iinc Cx dX4_firstFor_122 rfl (vinc _) (by decide) ?_
                        refine vV_goto (tgt := 5) Cx dX4_firstFor_125 (by decide) ?_
                        refine ih (i + 1) _ (by omega) (by omega) ?_ (by rw [← h3, vlp_step hlt]; exact congrArg (vlp _ n (i + 1)) (by first | rfl | (clear Cx hr hlk; simp_all [-Int32.not_lt, -Int32.not_le, f_ff, m_ok, m_ac])))
                        first | exact ha | exact Or.inr ⟨hi.1, rfl⟩
                      · have ha2 := ha.resolve_left h98
                        refine vV_aload_n Cx 0 dX4_firstFor_101 rfl rfl ?_
                        refine vV_iload Cx dX4_firstFor_102 rfl ?_
                        refine vV_bipush (v := 6) Cx dX4_firstFor_104 (by decide) ?_
                        refine vV_callVi Cx (KX4_get hi v7_6) (cwV 2 Cx.1.2.2.2.2 (uGV u3_113 u3_115 us_24 u1_7 u3_116) rfl rfl rfl hdX4_get ⟨Nat.le_of_ble_eq_true rfl, Nat.le_of_ble_eq_true rfl⟩) 0 rfl rfl rfl rfl (Nat.le_of_ble_eq_true rfl) ⟨Nat.zero_le _, Nat.zero_le _⟩ dX4_firstFor_106 ?_
                        refine vV_aload_n Cx 0 dX4_firstFor_109 rfl rfl ?_
                        refine vV_iload_n Cx 3 dX4_firstFor_110 rfl rfl ?_
                        refine vV_bipush (v := 6) Cx dX4_firstFor_111 (by decide) ?_
                        refine vV_callVi Cx (KX4_get ha2 v7_6) (cwV 2 Cx.1.2.2.2.2 (uGV u3_113 u3_115 us_24 u1_7 u3_116) rfl rfl rfl hdX4_get ⟨Nat.le_of_ble_eq_true rfl, Nat.le_of_ble_eq_true rfl⟩) 0 rfl rfl rfl rfl (Nat.le_of_ble_eq_true rfl) ⟨Nat.zero_le _, Nat.zero_le _⟩ dX4_firstFor_113 ?_
                        refine vV_icmp_ge (tgt := 122) Cx dX4_firstFor_116 (by decide) (fun h116 => ?_) (fun h116 => ?_)
                        · refine vV_iinc Cx dX4_firstFor_122 rfl (vinc _) (by decide) ?_
                          refine vV_goto (tgt := 5) Cx dX4_firstFor_125 (by decide) ?_
                          refine ih (i + 1) _ (by omega) (by omega) ?_ (by rw [← h3, vlp_step hlt]; exact congrArg (vlp _ n (i + 1)) (by first | rfl | (clear Cx hr hlk; simp_all [-Int32.not_lt, -Int32.not_le, f_ff, m_ok, m_ac])))
                          first | exact ha | exact Or.inr ⟨hi.1, rfl⟩
                        · refine vV_iload Cx dX4_firstFor_119 rfl ?_
                          refine vV_istore_n Cx 3 dX4_firstFor_121 rfl (by decide) ?_
                          refine vV_iinc Cx dX4_firstFor_122 rfl (vinc _) (by decide) ?_
                          refine vV_goto (tgt := 5) Cx dX4_firstFor_125 (by decide) ?_
                          refine ih (i + 1) _ (by omega) (by omega) ?_ (by rw [← h3, vlp_step hlt]; exact congrArg (vlp _ n (i + 1)) (by first | rfl | (clear Cx hr hlk; simp_all [-Int32.not_lt, -Int32.not_le, f_ff, m_ok, m_ac])))
                          first | exact ha | exact Or.inr ⟨hi.1, rfl⟩
                    · refine vV_aload_n Cx 0 dX4_firstFor_74 rfl rfl ?_
                      refine vU_get Cx hinX4 0 rfl rfl 4 (by decide) u2_231 rfl dX4_firstFor_75 ?_
                      refine vV_aload_n Cx 0 dX4_firstFor_78 rfl rfl ?_
                      refine vU_get Cx hinX4 0 rfl rfl 6 (by decide) u2_233 rfl dX4_firstFor_79 ?_
                      refine vV_aload_n Cx 0 dX4_firstFor_82 rfl rfl ?_
                      refine vU_get Cx hinX4 0 rfl rfl 9 (by decide) u2_236 rfl dX4_firstFor_83 ?_
                      refine vV_iload Cx dX4_firstFor_86 rfl ?_
                      refine vV_iald Cx 6 0 rfl rfl (by assumption) dX4_firstFor_88 ?_
                      refine vV_iald Cx 4 0 rfl rfl (by assumption) dX4_firstFor_89 ?_
                      refine vV_icmp_ge (tgt := 96) Cx dX4_firstFor_90 (by decide) (fun h90 => ?_) (fun h90 => ?_)
                      · refine vV_iload_n Cx 3 dX4_firstFor_96 rfl rfl ?_
                        refine vV_iconst (v := -1) Cx dX4_firstFor_97 (by decide) ?_
                        refine vV_icmp_eq (tgt := 119) Cx dX4_firstFor_98 (by decide) (fun h98 => ?_) (fun h98 => ?_)
                        · refine vV_iload Cx dX4_firstFor_119 rfl ?_
                          refine vV_istore_n Cx 3 dX4_firstFor_121 rfl (by decide) ?_
                          refine vV_iinc Cx dX4_firstFor_122 rfl (vinc _) (by decide) ?_
                          refine vV_goto (tgt := 5) Cx dX4_firstFor_125 (by decide) ?_
                          refine ih (i + 1) _ (by omega) (by omega) ?_ (by rw [← h3, vlp_step hlt]; exact congrArg (vlp _ n (i + 1)) (by first | rfl | (clear Cx hr hlk; simp_all [-Int32.not_lt, -Int32.not_le, f_ff, m_ok, m_ac])))
                          first | exact ha | exact Or.inr ⟨hi.1, rfl⟩
                        · have ha2 := ha.resolve_left h98
                          refine vV_aload_n Cx 0 dX4_firstFor_101 rfl rfl ?_
                          refine vV_iload Cx dX4_firstFor_102 rfl ?_
                          refine vV_bipush (v := 6) Cx dX4_firstFor_104 (by decide) ?_
                          refine vV_callVi Cx (KX4_get hi v7_6) (cwV 2 Cx.1.2.2.2.2 (uGV u3_113 u3_115 us_24 u1_7 u3_116) rfl rfl rfl hdX4_get ⟨Nat.le_of_ble_eq_true rfl, Nat.le_of_ble_eq_true rfl⟩) 0 rfl rfl rfl rfl (Nat.le_of_ble_eq_true rfl) ⟨Nat.zero_le _, Nat.zero_le _⟩ dX4_firstFor_106 ?_
                          refine vV_aload_n Cx 0 dX4_firstFor_109 rfl rfl ?_
                          refine vV_iload_n Cx 3 dX4_firstFor_110 rfl rfl ?_
                          refine vV_bipush (v := 6) Cx dX4_firstFor_111 (by decide) ?_
                          refine vV_callVi Cx (KX4_get ha2 v7_6) (cwV 2 Cx.1.2.2.2.2 (uGV u3_113 u3_115 us_24 u1_7 u3_116) rfl rfl rfl hdX4_get ⟨Nat.le_of_ble_eq_true rfl, Nat.le_of_ble_eq_true rfl⟩) 0 rfl rfl rfl rfl (Nat.le_of_ble_eq_true rfl) ⟨Nat.zero_le _, Nat.zero_le _⟩ dX4_firstFor_113 ?_
                          refine vV_icmp_ge (tgt := 122) Cx dX4_firstFor_116 (by decide) (fun h116 => ?_) (fun h116 => ?_)
                          · refine vV_iinc Cx dX4_firstFor_122 rfl (vinc _) (by decide) ?_
                            refine vV_goto (tgt := 5) Cx dX4_firstFor_125 (by decide) ?_
                            refine ih (i + 1) _ (by omega) (by omega) ?_ (by rw [← h3, vlp_step hlt]; exact congrArg (vlp _ n (i + 1)) (by first | rfl | (clear Cx hr hlk; simp_all [-Int32.not_lt, -Int32.not_le, f_ff, m_ok, m_ac])))
                            first | exact ha | exact Or.inr ⟨hi.1, rfl⟩
                          · refine vV_iload Cx dX4_firstFor_119 rfl ?_
                            refine vV_istore_n Cx 3 dX4_firstFor_121 rfl (by decide) ?_
                            refine vV_iinc Cx dX4_firstFor_122 rfl (vinc _) (by decide) ?_
                            refine vV_goto (tgt := 5) Cx dX4_firstFor_125 (by decide) ?_
                            refine ih (i + 1) _ (by omega) (by omega) ?_ (by rw [← h3, vlp_step hlt]; exact congrArg (vlp _ n (i + 1)) (by first | rfl | (clear Cx hr hlk; simp_all [-Int32.not_lt, -Int32.not_le, f_ff, m_ok, m_ac])))
                            first | exact ha | exact Or.inr ⟨hi.1, rfl⟩
                      · refine vV_goto (tgt := 122) Cx dX4_firstFor_93 (by decide) ?_
                        refine vV_iinc Cx dX4_firstFor_122 rfl (vinc _) (by decide) ?_
                        refine vV_goto (tgt := 5) Cx dX4_firstFor_125 (by decide) ?_
                        refine ih (i + 1) _ (by omega) (by omega) ?_ (by rw [← h3, vlp_step hlt]; exact congrArg (vlp _ n (i + 1)) (by first | rfl | (clear Cx hr hlk; simp_all [-Int32.not_lt, -Int32.not_le, f_ff, m_ok, m_ac])))
                        first | exact ha | exact Or.inr ⟨hi.1, rfl⟩
                · refine vV_goto (tgt := 122) Cx dX4_firstFor_63 (by decide) ?_
                  refine vV_iinc Cx dX4_firstFor_122 rfl (vinc _) (by decide) ?_
                  refine vV_goto (tgt := 5) Cx dX4_firstFor_125 (by decide) ?_
                  refine ih (i + 1) _ (by omega) (by omega) ?_ (by rw [← h3, vlp_step hlt]; exact congrArg (vlp _ n (i + 1)) (by first | rfl | (clear Cx hr hlk; simp_all [-Int32.not_lt, -Int32.not_le, f_ff, m_ok, m_ac])))
                  first | exact ha | exact Or.inr ⟨hi.1, rfl⟩
              · refine vV_iload_n Cx 1 dX4_firstFor_53 rfl rfl ?_
                refine vV_iconst (v := 1) Cx dX4_firstFor_54 (by decide) ?_
                refine vV_iadd Cx dX4_firstFor_55 ?_
                refine vV_goto (tgt := 60) Cx dX4_firstFor_56 (by decide) ?_
                refine vV_icmp_eq (tgt := 66) Cx dX4_firstFor_60 (by decide) (fun h60 => ?_) (fun h60 => ?_)
                · refine vV_iload_n Cx 2 dX4_firstFor_66 rfl rfl ?_
                  refine vV_if_ne (tgt := 96) Cx dX4_firstFor_67 (by decide) (fun h67 => ?_) (fun h67 => ?_)
                  · refine vV_iload_n Cx 3 dX4_firstFor_96 rfl rfl ?_
                    refine vV_iconst (v := -1) Cx dX4_firstFor_97 (by decide) ?_
                    refine vV_icmp_eq (tgt := 119) Cx dX4_firstFor_98 (by decide) (fun h98 => ?_) (fun h98 => ?_)
                    · refine vV_iload Cx dX4_firstFor_119 rfl ?_
                      refine vV_istore_n Cx 3 dX4_firstFor_121 rfl (by decide) ?_
                      refine vV_iinc Cx dX4_firstFor_122 rfl (vinc _) (by decide) ?_
                      refine vV_goto (tgt := 5) Cx dX4_firstFor_125 (by decide) ?_
                      refine ih (i + 1) _ (by omega) (by omega) ?_ (by rw [← h3, vlp_step hlt]; exact congrArg (vlp _ n (i + 1)) (by first | rfl | (clear Cx hr hlk; simp_all [-Int32.not_lt, -Int32.not_le, f_ff, m_ok, m_ac])))
                      first | exact ha | exact Or.inr ⟨hi.1, rfl⟩
                    · have ha2 := ha.resolve_left h98
                      refine vV_aload_n Cx 0 dX4_firstFor_101 rfl rfl ?_
                      refine vV_iload Cx dX4_firstFor_102 rfl ?_
                      refine vV_bipush (v := 6) Cx dX4_firstFor_104 (by decide) ?_
                      refine vV_callVi Cx (KX4_get hi v7_6) (cwV 2 Cx.1.2.2.2.2 (uGV u3_113 u3_115 us_24 u1_7 u3_116) rfl rfl rfl hdX4_get ⟨Nat.le_of_ble_eq_true rfl, Nat.le_of_ble_eq_true rfl⟩) 0 rfl rfl rfl rfl (Nat.le_of_ble_eq_true rfl) ⟨Nat.zero_le _, Nat.zero_le _⟩ dX4_firstFor_106 ?_
                      refine vV_aload_n Cx 0 dX4_firstFor_109 rfl rfl ?_
                      refine vV_iload_n Cx 3 dX4_firstFor_110 rfl rfl ?_
                      refine vV_bipush (v := 6) Cx dX4_firstFor_111 (by decide) ?_
                      refine vV_callVi Cx (KX4_get ha2 v7_6) (cwV 2 Cx.1.2.2.2.2 (uGV u3_113 u3_115 us_24 u1_7 u3_116) rfl rfl rfl hdX4_get ⟨Nat.le_of_ble_eq_true rfl, Nat.le_of_ble_eq_true rfl⟩) 0 rfl rfl rfl rfl (Nat.le_of_ble_eq_true rfl) ⟨Nat.zero_le _, Nat.zero_le _⟩ dX4_firstFor_113 ?_
                      refine vV_icmp_ge (tgt := 122) Cx dX4_firstFor_116 (by decide) (fun h116 => ?_) (fun h116 => ?_)
                      · refine vV_iinc Cx dX4_firstFor_122 rfl (vinc _) (by decide) ?_
                        refine vV_goto (tgt := 5) Cx dX4_firstFor_125 (by decide) ?_
                        refine ih (i + 1) _ (by omega) (by omega) ?_ (by rw [← h3, vlp_step hlt]; exact congrArg (vlp _ n (i + 1)) (by first | rfl | (clear Cx hr hlk; simp_all [-Int32.not_lt, -Int32.not_le, f_ff, m_ok, m_ac])))
                        first | exact ha | exact Or.inr ⟨hi.1, rfl⟩
                      · refine vV_iload Cx dX4_firstFor_119 rfl ?_
                        refine vV_istore_n Cx 3 dX4_firstFor_121 rfl (by decide) ?_
                        refine vV_iinc Cx dX4_firstFor_122 rfl (vinc _) (by decide) ?_
                        refine vV_goto (tgt := 5) Cx dX4_firstFor_125 (by decide) ?_
                        refine ih (i + 1) _ (by omega) (by omega) ?_ (by rw [← h3, vlp_step hlt]; exact congrArg (vlp _ n (i + 1)) (by first | rfl | (clear Cx hr hlk; simp_all [-Int32.not_lt, -Int32.not_le, f_ff, m_ok, m_ac])))
                        first | exact ha | exact Or.inr ⟨hi.1, rfl⟩
                  · refine vV_iload_n Cx 1 dX4_firstFor_70 rfl rfl ?_
                    refine vV_if_ne (tgt := 96) Cx dX4_firstFor_71 (by decide) (fun h71 => ?_) (fun h71 => ?_)
                    · refine vV_iload_n Cx 3 dX4_firstFor_96 rfl rfl ?_
                      refine vV_iconst (v := -1) Cx dX4_firstFor_97 (by decide) ?_
                      refine vV_icmp_eq (tgt := 119) Cx dX4_firstFor_98 (by decide) (fun h98 => ?_) (fun h98 => ?_)
                      · refine vV_iload Cx dX4_firstFor_119 rfl ?_
                        refine vV_istore_n Cx 3 dX4_firstFor_121 rfl (by decide) ?_
                        refine vV_iinc Cx dX4_firstFor_122 rfl (vinc _) (by decide) ?_
                        refine vV_goto (tgt := 5) Cx dX4_firstFor_125 (by decide) ?_
                        refine ih (i + 1) _ (by omega) (by omega) ?_ (by rw [← h3, vlp_step hlt]; exact congrArg (vlp _ n (i + 1)) (by first | rfl | (clear Cx hr hlk; simp_all [-Int32.not_lt, -Int32.not_le, f_ff, m_ok, m_ac])))
                        first | exact ha | exact Or.inr ⟨hi.1, rfl⟩
                      · have ha2 := ha.resolve_left h98
                        refine vV_aload_n Cx 0 dX4_firstFor_101 rfl rfl ?_
                        refine vV_iload Cx dX4_firstFor_102 rfl ?_
                        refine vV_bipush (v := 6) Cx dX4_firstFor_104 (by decide) ?_
                        refine vV_callVi Cx (KX4_get hi v7_6) (cwV 2 Cx.1.2.2.2.2 (uGV u3_113 u3_115 us_24 u1_7 u3_116) rfl rfl rfl hdX4_get ⟨Nat.le_of_ble_eq_true rfl, Nat.le_of_ble_eq_true rfl⟩) 0 rfl rfl rfl rfl (Nat.le_of_ble_eq_true rfl) ⟨Nat.zero_le _, Nat.zero_le _⟩ dX4_firstFor_106 ?_
                        refine vV_aload_n Cx 0 dX4_firstFor_109 rfl rfl ?_
                        refine vV_iload_n Cx 3 dX4_firstFor_110 rfl rfl ?_
                        refine vV_bipush (v := 6) Cx dX4_firstFor_111 (by decide) ?_
                        refine vV_callVi Cx (KX4_get ha2 v7_6) (cwV 2 Cx.1.2.2.2.2 (uGV u3_113 u3_115 us_24 u1_7 u3_116) rfl rfl rfl hdX4_get ⟨Nat.le_of_ble_eq_true rfl, Nat.le_of_ble_eq_true rfl⟩) 0 rfl rfl rfl rfl (Nat.le_of_ble_eq_true rfl) ⟨Nat.zero_le _, Nat.zero_le _⟩ dX4_firstFor_113 ?_
                        refine vV_icmp_ge (tgt := 122) Cx dX4_firstFor_116 (by decide) (fun h116 => ?_) (fun h116 => ?_)
                        · refine vV_iinc Cx dX4_firstFor_122 rfl (vinc _) (by decide) ?_
                          refine vV_goto (tgt := 5) Cx dX4_firstFor_125 (by decide) ?_
                          refine ih (i + 1) _ (by omega) (by omega) ?_ (by rw [← h3, vlp_step hlt]; exact congrArg (vlp _ n (i + 1)) (by first | rfl | (clear Cx hr hlk; simp_all [-Int32.not_lt, -Int32.not_le, f_ff, m_ok, m_ac])))
                          first | exact ha | exact Or.inr ⟨hi.1, rfl⟩
                        · refine vV_iload Cx dX4_firstFor_119 rfl ?_
                          refine vV_istore_n Cx 3 dX4_firstFor_121 rfl (by decide) ?_
                          refine vV_iinc Cx dX4_firstFor_122 rfl (vinc _) (by decide) ?_
                          refine vV_goto (tgt := 5) Cx dX4_firstFor_125 (by decide) ?_
                          refine ih (i + 1) _ (by omega) (by omega) ?_ (by rw [← h3, vlp_step hlt]; exact congrArg (vlp _ n (i + 1)) (by first | rfl | (clear Cx hr hlk; simp_all [-Int32.not_lt, -Int32.not_le, f_ff, m_ok, m_ac])))
                          first | exact ha | exact Or.inr ⟨hi.1, rfl⟩
                    · refine vV_aload_n Cx 0 dX4_firstFor_74 rfl rfl ?_
                      refine vU_get Cx hinX4 0 rfl rfl 4 (by decide) u2_231 rfl dX4_firstFor_75 ?_
                      refine vV_aload_n Cx 0 dX4_firstFor_78 rfl rfl ?_
                      refine vU_get Cx hinX4 0 rfl rfl 6 (by decide) u2_233 rfl dX4_firstFor_79 ?_
                      refine vV_aload_n Cx 0 dX4_firstFor_82 rfl rfl ?_
                      refine vU_get Cx hinX4 0 rfl rfl 9 (by decide) u2_236 rfl dX4_firstFor_83 ?_
                      refine vV_iload Cx dX4_firstFor_86 rfl ?_
                      refine vV_iald Cx 6 0 rfl rfl (by assumption) dX4_firstFor_88 ?_
                      refine vV_iald Cx 4 0 rfl rfl (by assumption) dX4_firstFor_89 ?_
                      refine vV_icmp_ge (tgt := 96) Cx dX4_firstFor_90 (by decide) (fun h90 => ?_) (fun h90 => ?_)
                      · refine vV_iload_n Cx 3 dX4_firstFor_96 rfl rfl ?_
                        refine vV_iconst (v := -1) Cx dX4_firstFor_97 (by decide) ?_
                        refine vV_icmp_eq (tgt := 119) Cx dX4_firstFor_98 (by decide) (fun h98 => ?_) (fun h98 => ?_)
                        · refine vV_iload Cx dX4_firstFor_119 rfl ?_
                          refine vV_istore_n Cx 3 dX4_firstFor_121 rfl (by decide) ?_
                          refine vV_iinc Cx dX4_firstFor_122 rfl (vinc _) (by decide) ?_
                          refine vV_goto (tgt := 5) Cx dX4_firstFor_125 (by decide) ?_
                          refine ih (i + 1) _ (by omega) (by omega) ?_ (by rw [← h3, vlp_step hlt]; exact congrArg (vlp _ n (i + 1)) (by first | rfl | (clear Cx hr hlk; simp_all [-Int32.not_lt, -Int32.not_le, f_ff, m_ok, m_ac])))
                          first | exact ha | exact Or.inr ⟨hi.1, rfl⟩
                        · have ha2 := ha.resolve_left h98
                          refine vV_aload_n Cx 0 dX4_firstFor_101 rfl rfl ?_
                          refine vV_iload Cx dX4_firstFor_102 rfl ?_
                          refine vV_bipush (v := 6) Cx dX4_firstFor_104 (by decide) ?_
                          refine vV_callVi Cx (KX4_get hi v7_6) (cwV 2 Cx.1.2.2.2.2 (uGV u3_113 u3_115 us_24 u1_7 u3_116) rfl rfl rfl hdX4_get ⟨Nat.le_of_ble_eq_true rfl, Nat.le_of_ble_eq_true rfl⟩) 0 rfl rfl rfl rfl (Nat.le_of_ble_eq_true rfl) ⟨Nat.zero_le _, Nat.zero_le _⟩ dX4_firstFor_106 ?_
                          refine vV_aload_n Cx 0 dX4_firstFor_109 rfl rfl ?_
                          refine vV_iload_n Cx 3 dX4_firstFor_110 rfl rfl ?_
                          refine vV_bipush (v := 6) Cx dX4_firstFor_111 (by decide) ?_
                          refine vV_callVi Cx (KX4_get ha2 v7_6) (cwV 2 Cx.1.2.2.2.2 (uGV u3_113 u3_115 us_24 u1_7 u3_116) rfl rfl rfl hdX4_get ⟨Nat.le_of_ble_eq_true rfl, Nat.le_of_ble_eq_true rfl⟩) 0 rfl rfl rfl rfl (Nat.le_of_ble_eq_true rfl) ⟨Nat.zero_le _, Nat.zero_le _⟩ dX4_firstFor_113 ?_
                          refine vV_icmp_ge (tgt := 122) Cx dX4_firstFor_116 (by decide) (fun h116 => ?_) (fun h116 => ?_)
                          · refine vV_iinc Cx dX4_firstFor_122 rfl (vinc _) (by decide) ?_
                            refine vV_goto (tgt := 5) Cx dX4_firstFor_125 (by decide) ?_
                            refine ih (i + 1) _ (by omega) (by omega) ?_ (by rw [← h3, vlp_step hlt]; exact congrArg (vlp _ n (i + 1)) (by first | rfl | (clear Cx hr hlk; simp_all [-Int32.not_lt, -Int32.not_le, f_ff, m_ok, m_ac])))
                            first | exact ha | exact Or.inr ⟨hi.1, rfl⟩
                          · refine vV_iload Cx dX4_firstFor_119 rfl ?_
                            refine vV_istore_n Cx 3 dX4_firstFor_121 rfl (by decide) ?_
                            refine vV_iinc Cx dX4_firstFor_122 rfl (vinc _) (by decide) ?_
                            refine vV_goto (tgt := 5) Cx dX4_firstFor_125 (by decide) ?_
                            refine ih (i + 1) _ (by omega) (by omega) ?_ (by rw [← h3, vlp_step hlt]; exact congrArg (vlp _ n (i + 1)) (by first | rfl | (clear Cx hr hlk; simp_all [-Int32.not_lt, -Int32.not_le, f_ff, m_ok, m_ac])))
                            first | exact ha | exact Or.inr ⟨hi.1, rfl⟩
                      · refine vV_goto (tgt := 122) Cx dX4_firstFor_93 (by decide) ?_
                        refine vV_iinc Cx dX4_firstFor_122 rfl (vinc _) (by decide) ?_
                        refine vV_goto (tgt := 5) Cx dX4_firstFor_125 (by decide) ?_
                        refine ih (i + 1) _ (by omega) (by omega) ?_ (by rw [← h3, vlp_step hlt]; exact congrArg (vlp _ n (i + 1)) (by first | rfl | (clear Cx hr hlk; simp_all [-Int32.not_lt, -Int32.not_le, f_ff, m_ok, m_ac])))
                        first | exact ha | exact Or.inr ⟨hi.1, rfl⟩
                · refine vV_goto (tgt := 122) Cx dX4_firstFor_63 (by decide) ?_
                  refine vV_iinc Cx dX4_firstFor_122 rfl (vinc _) (by decide) ?_
                  refine vV_goto (tgt := 5) Cx dX4_firstFor_125 (by decide) ?_
                  refine ih (i + 1) _ (by omega) (by omega) ?_ (by rw [← h3, vlp_step hlt]; exact congrArg (vlp _ n (i + 1)) (by first | rfl | (clear Cx hr hlk; simp_all [-Int32.not_lt, -Int32.not_le, f_ff, m_ok, m_ac])))
                  first | exact ha | exact Or.inr ⟨hi.1, rfl⟩
          · refine vV_iconst (v := 2) Cx dX4_firstFor_34 (by decide) ?_
            refine vV_goto (tgt := 39) Cx dX4_firstFor_35 (by decide) ?_
            refine vV_icmp_ne (tgt := 122) Cx dX4_firstFor_39 (by decide) (fun h39 => ?_) (fun h39 => ?_)
            · refine vV_iinc Cx dX4_firstFor_122 rfl (vinc _) (by decide) ?_
              refine vV_goto (tgt := 5) Cx dX4_firstFor_125 (by decide) ?_
              refine ih (i + 1) _ (by omega) (by omega) ?_ (by rw [← h3, vlp_step hlt]; exact congrArg (vlp _ n (i + 1)) (by first | rfl | (clear Cx hr hlk; simp_all [-Int32.not_lt, -Int32.not_le, f_ff, m_ok, m_ac])))
              first | exact ha | exact Or.inr ⟨hi.1, rfl⟩
            · refine vV_aload_n Cx 0 dX4_firstFor_42 rfl rfl ?_
              refine vV_iload Cx dX4_firstFor_43 rfl ?_
              refine vV_iconst (v := 1) Cx dX4_firstFor_45 (by decide) ?_
              refine vV_callVi Cx (KX4_get hi v7_1) (cwV 2 Cx.1.2.2.2.2 (uGV u3_113 u3_115 us_24 u1_7 u3_116) rfl rfl rfl hdX4_get ⟨Nat.le_of_ble_eq_true rfl, Nat.le_of_ble_eq_true rfl⟩) 0 rfl rfl rfl rfl (Nat.le_of_ble_eq_true rfl) ⟨Nat.zero_le _, Nat.zero_le _⟩ dX4_firstFor_46 ?_
              refine vV_iload_n Cx 2 dX4_firstFor_49 rfl rfl ?_
              refine vV_if_eq (tgt := 59) Cx dX4_firstFor_50 (by decide) (fun h50 => ?_) (fun h50 => ?_)
              · refine vV_iload_n Cx 1 dX4_firstFor_59 rfl rfl ?_
                refine vV_icmp_eq (tgt := 66) Cx dX4_firstFor_60 (by decide) (fun h60 => ?_) (fun h60 => ?_)
                · refine vV_iload_n Cx 2 dX4_firstFor_66 rfl rfl ?_
                  refine vV_if_ne (tgt := 96) Cx dX4_firstFor_67 (by decide) (fun h67 => ?_) (fun h67 => ?_)
                  · refine vV_iload_n Cx 3 dX4_firstFor_96 rfl rfl ?_
                    refine vV_iconst (v := -1) Cx dX4_firstFor_97 (by decide) ?_
                    refine vV_icmp_eq (tgt := 119) Cx dX4_firstFor_98 (by decide) (fun h98 => ?_) (fun h98 => ?_)
                    · refine vV_iload Cx dX4_firstFor_119 rfl ?_
                      refine vV_istore_n Cx 3 dX4_firstFor_121 rfl (by decide) ?_
                      refine vV_iinc Cx dX4_firstFor_122 rfl (vinc _) (by decide) ?_
                      refine vV_goto (tgt := 5) Cx dX4_firstFor_125 (by decide) ?_
                      refine ih (i + 1) _ (by omega) (by omega) ?_ (by rw [← h3, vlp_step hlt]; exact congrArg (vlp _ n (i + 1)) (by first | rfl | (clear Cx hr hlk; simp_all [-Int32.not_lt, -Int32.not_le, f_ff, m_ok, m_ac])))
                      first | exact ha | exact Or.inr ⟨hi.1, rfl⟩
                    · have ha2 := ha.resolve_left h98
                      refine vV_aload_n Cx 0 dX4_firstFor_101 rfl rfl ?_
                      refine vV_iload Cx dX4_firstFor_102 rfl ?_
                      refine vV_bipush (v := 6) Cx dX4_firstFor_104 (by decide) ?_
                      refine vV_callVi Cx (KX4_get hi v7_6) (cwV 2 Cx.1.2.2.2.2 (uGV u3_113 u3_115 us_24 u1_7 u3_116) rfl rfl rfl hdX4_get ⟨Nat.le_of_ble_eq_true rfl, Nat.le_of_ble_eq_true rfl⟩) 0 rfl rfl rfl rfl (Nat.le_of_ble_eq_true rfl) ⟨Nat.zero_le _, Nat.zero_le _⟩ dX4_firstFor_106 ?_
                      refine vV_aload_n Cx 0 dX4_firstFor_109 rfl rfl ?_
                      refine vV_iload_n Cx 3 dX4_firstFor_110 rfl rfl ?_
                      refine vV_bipush (v := 6) Cx dX4_firstFor_111 (by decide) ?_
                      refine vV_callVi Cx (KX4_get ha2 v7_6) (cwV 2 Cx.1.2.2.2.2 (uGV u3_113 u3_115 us_24 u1_7 u3_116) rfl rfl rfl hdX4_get ⟨Nat.le_of_ble_eq_true rfl, Nat.le_of_ble_eq_true rfl⟩) 0 rfl rfl rfl rfl (Nat.le_of_ble_eq_true rfl) ⟨Nat.zero_le _, Nat.zero_le _⟩ dX4_firstFor_113 ?_
                      refine vV_icmp_ge (tgt := 122) Cx dX4_firstFor_116 (by decide) (fun h116 => ?_) (fun h116 => ?_)
                      · refine vV_iinc Cx dX4_firstFor_122 rfl (vinc _) (by decide) ?_
                        refine vV_goto (tgt := 5) Cx dX4_firstFor_125 (by decide) ?_
                        refine ih (i + 1) _ (by omega) (by omega) ?_ (by rw [← h3, vlp_step hlt]; exact congrArg (vlp _ n (i + 1)) (by first | rfl | (clear Cx hr hlk; simp_all [-Int32.not_lt, -Int32.not_le, f_ff, m_ok, m_ac])))
                        first | exact ha | exact Or.inr ⟨hi.1, rfl⟩
                      · refine vV_iload Cx dX4_firstFor_119 rfl ?_
                        refine vV_istore_n Cx 3 dX4_firstFor_121 rfl (by decide) ?_
                        refine vV_iinc Cx dX4_firstFor_122 rfl (vinc _) (by decide) ?_
                        refine vV_goto (tgt := 5) Cx dX4_firstFor_125 (by decide) ?_
                        refine ih (i + 1) _ (by omega) (by omega) ?_ (by rw [← h3, vlp_step hlt]; exact congrArg (vlp _ n (i + 1)) (by first | rfl | (clear Cx hr hlk; simp_all [-Int32.not_lt, -Int32.not_le, f_ff, m_ok, m_ac])))
                        first | exact ha | exact Or.inr ⟨hi.1, rfl⟩
                  · refine vV_iload_n Cx 1 dX4_firstFor_70 rfl rfl ?_
                    refine vV_if_ne (tgt := 96) Cx dX4_firstFor_71 (by decide) (fun h71 => ?_) (fun h71 => ?_)
                    · refine vV_iload_n Cx 3 dX4_firstFor_96 rfl rfl ?_
                      refine vV_iconst (v := -1) Cx dX4_firstFor_97 (by decide) ?_
                      refine vV_icmp_eq (tgt := 119) Cx dX4_firstFor_98 (by decide) (fun h98 => ?_) (fun h98 => ?_)
                      · refine vV_iload Cx dX4_firstFor_119 rfl ?_
                        refine vV_istore_n Cx 3 dX4_firstFor_121 rfl (by decide) ?_
                        refine vV_iinc Cx dX4_firstFor_122 rfl (vinc _) (by decide) ?_
                        refine vV_goto (tgt := 5) Cx dX4_firstFor_125 (by decide) ?_
                        refine ih (i + 1) _ (by omega) (by omega) ?_ (by rw [← h3, vlp_step hlt]; exact congrArg (vlp _ n (i + 1)) (by first | rfl | (clear Cx hr hlk; simp_all [-Int32.not_lt, -Int32.not_le, f_ff, m_ok, m_ac])))
                        first | exact ha | exact Or.inr ⟨hi.1, rfl⟩
                      · have ha2 := ha.resolve_left h98
                        refine vV_aload_n Cx 0 dX4_firstFor_101 rfl rfl ?_
                        refine vV_iload Cx dX4_firstFor_102 rfl ?_
                        refine vV_bipush (v := 6) Cx dX4_firstFor_104 (by decide) ?_
                        refine vV_callVi Cx (KX4_get hi v7_6) (cwV 2 Cx.1.2.2.2.2 (uGV u3_113 u3_115 us_24 u1_7 u3_116) rfl rfl rfl hdX4_get ⟨Nat.le_of_ble_eq_true rfl, Nat.le_of_ble_eq_true rfl⟩) 0 rfl rfl rfl rfl (Nat.le_of_ble_eq_true rfl) ⟨Nat.zero_le _, Nat.zero_le _⟩ dX4_firstFor_106 ?_
                        refine vV_aload_n Cx 0 dX4_firstFor_109 rfl rfl ?_
                        refine vV_iload_n Cx 3 dX4_firstFor_110 rfl rfl ?_
                        refine vV_bipush (v := 6) Cx dX4_firstFor_111 (by decide) ?_
                        refine vV_callVi Cx (KX4_get ha2 v7_6) (cwV 2 Cx.1.2.2.2.2 (uGV u3_113 u3_115 us_24 u1_7 u3_116) rfl rfl rfl hdX4_get ⟨Nat.le_of_ble_eq_true rfl, Nat.le_of_ble_eq_true rfl⟩) 0 rfl rfl rfl rfl (Nat.le_of_ble_eq_true rfl) ⟨Nat.zero_le _, Nat.zero_le _⟩ dX4_firstFor_113 ?_
                        refine vV_icmp_ge (tgt := 122) Cx dX4_firstFor_116 (by decide) (fun h116 => ?_) (fun h116 => ?_)
                        · refine vV_iinc Cx dX4_firstFor_122 rfl (vinc _) (by decide) ?_
                          refine vV_goto (tgt := 5) Cx dX4_firstFor_125 (by decide) ?_
                          refine ih (i + 1) _ (by omega) (by omega) ?_ (by rw [← h3, vlp_step hlt]; exact congrArg (vlp _ n (i + 1)) (by first | rfl | (clear Cx hr hlk; simp_all [-Int32.not_lt, -Int32.not_le, f_ff, m_ok, m_ac])))
                          first | exact ha | exact Or.inr ⟨hi.1, rfl⟩
                        · refine vV_iload Cx dX4_firstFor_119 rfl ?_
                          refine vV_istore_n Cx 3 dX4_firstFor_121 rfl (by decide) ?_
                          refine vV_iinc Cx dX4_firstFor_122 rfl (vinc _) (by decide) ?_
                          refine vV_goto (tgt := 5) Cx dX4_firstFor_125 (by decide) ?_
                          refine ih (i + 1) _ (by omega) (by omega) ?_ (by rw [← h3, vlp_step hlt]; exact congrArg (vlp _ n (i + 1)) (by first | rfl | (clear Cx hr hlk; simp_all [-Int32.not_lt, -Int32.not_le, f_ff, m_ok, m_ac])))
                          first | exact ha | exact Or.inr ⟨hi.1, rfl⟩
                    · refine vV_aload_n Cx 0 dX4_firstFor_74 rfl rfl ?_
                      refine vU_get Cx hinX4 0 rfl rfl 4 (by decide) u2_231 rfl dX4_firstFor_75 ?_
                      refine vV_aload_n Cx 0 dX4_firstFor_78 rfl rfl ?_
                      refine vU_get Cx hinX4 0 rfl rfl 6 (by decide) u2_233 rfl dX4_firstFor_79 ?_
                      refine vV_aload_n Cx 0 dX4_firstFor_82 rfl rfl ?_
                      refine vU_get Cx hinX4 0 rfl rfl 9 (by decide) u2_236 rfl dX4_firstFor_83 ?_
                      refine vV_iload Cx dX4_firstFor_86 rfl ?_
                      refine vV_iald Cx 6 0 rfl rfl (by assumption) dX4_firstFor_88 ?_
                      refine vV_iald Cx 4 0 rfl rfl (by assumption) dX4_firstFor_89 ?_
                      refine vV_icmp_ge (tgt := 96) Cx dX4_firstFor_90 (by decide) (fun h90 => ?_) (fun h90 => ?_)
                      · refine vV_iload_n Cx 3 dX4_firstFor_96 rfl rfl ?_
                        refine vV_iconst (v := -1) Cx dX4_firstFor_97 (by decide) ?_
                        refine vV_icmp_eq (tgt := 119) Cx dX4_firstFor_98 (by decide) (fun h98 => ?_) (fun h98 => ?_)
                        · refine vV_iload Cx dX4_firstFor_119 rfl ?_
                          refine vV_istore_n Cx 3 dX4_firstFor_121 rfl (by decide) ?_
                          refine vV_iinc Cx dX4_firstFor_122 rfl (vinc _) (by decide) ?_
                          refine vV_goto (tgt := 5) Cx dX4_firstFor_125 (by decide) ?_
                          refine ih (i + 1) _ (by omega) (by omega) ?_ (by rw [← h3, vlp_step hlt]; exact congrArg (vlp _ n (i + 1)) (by first | rfl | (clear Cx hr hlk; simp_all [-Int32.not_lt, -Int32.not_le, f_ff, m_ok, m_ac])))
                          first | exact ha | exact Or.inr ⟨hi.1, rfl⟩
                        · have ha2 := ha.resolve_left h98
                          refine vV_aload_n Cx 0 dX4_firstFor_101 rfl rfl ?_
                          refine vV_iload Cx dX4_firstFor_102 rfl ?_
                          refine vV_bipush (v := 6) Cx dX4_firstFor_104 (by decide) ?_
                          refine vV_callVi Cx (KX4_get hi v7_6) (cwV 2 Cx.1.2.2.2.2 (uGV u3_113 u3_115 us_24 u1_7 u3_116) rfl rfl rfl hdX4_get ⟨Nat.le_of_ble_eq_true rfl, Nat.le_of_ble_eq_true rfl⟩) 0 rfl rfl rfl rfl (Nat.le_of_ble_eq_true rfl) ⟨Nat.zero_le _, Nat.zero_le _⟩ dX4_firstFor_106 ?_
                          refine vV_aload_n Cx 0 dX4_firstFor_109 rfl rfl ?_
                          refine vV_iload_n Cx 3 dX4_firstFor_110 rfl rfl ?_
                          refine vV_bipush (v := 6) Cx dX4_firstFor_111 (by decide) ?_
                          refine vV_callVi Cx (KX4_get ha2 v7_6) (cwV 2 Cx.1.2.2.2.2 (uGV u3_113 u3_115 us_24 u1_7 u3_116) rfl rfl rfl hdX4_get ⟨Nat.le_of_ble_eq_true rfl, Nat.le_of_ble_eq_true rfl⟩) 0 rfl rfl rfl rfl (Nat.le_of_ble_eq_true rfl) ⟨Nat.zero_le _, Nat.zero_le _⟩ dX4_firstFor_113 ?_
                          refine vV_icmp_ge (tgt := 122) Cx dX4_firstFor_116 (by decide) (fun h116 => ?_) (fun h116 => ?_)
                          · refine vV_iinc Cx dX4_firstFor_122 rfl (vinc _) (by decide) ?_
                            refine vV_goto (tgt := 5) Cx dX4_firstFor_125 (by decide) ?_
                            refine ih (i + 1) _ (by omega) (by omega) ?_ (by rw [← h3, vlp_step hlt]; exact congrArg (vlp _ n (i + 1)) (by first | rfl | (clear Cx hr hlk; simp_all [-Int32.not_lt, -Int32.not_le, f_ff, m_ok, m_ac])))
                            first | exact ha | exact Or.inr ⟨hi.1, rfl⟩
                          · refine vV_iload Cx dX4_firstFor_119 rfl ?_
                            refine vV_istore_n Cx 3 dX4_firstFor_121 rfl (by decide) ?_
                            refine vV_iinc Cx dX4_firstFor_122 rfl (vinc _) (by decide) ?_
                            refine vV_goto (tgt := 5) Cx dX4_firstFor_125 (by decide) ?_
                            refine ih (i + 1) _ (by omega) (by omega) ?_ (by rw [← h3, vlp_step hlt]; exact congrArg (vlp _ n (i + 1)) (by first | rfl | (clear Cx hr hlk; simp_all [-Int32.not_lt, -Int32.not_le, f_ff, m_ok, m_ac])))
                            first | exact ha | exact Or.inr ⟨hi.1, rfl⟩
                      · refine vV_goto (tgt := 122) Cx dX4_firstFor_93 (by decide) ?_
                        refine vV_iinc Cx dX4_firstFor_122 rfl (vinc _) (by decide) ?_
                        refine vV_goto (tgt := 5) Cx dX4_firstFor_125 (by decide) ?_
                        refine ih (i + 1) _ (by omega) (by omega) ?_ (by rw [← h3, vlp_step hlt]; exact congrArg (vlp _ n (i + 1)) (by first | rfl | (clear Cx hr hlk; simp_all [-Int32.not_lt, -Int32.not_le, f_ff, m_ok, m_ac])))
                        first | exact ha | exact Or.inr ⟨hi.1, rfl⟩
                · refine vV_goto (tgt := 122) Cx dX4_firstFor_63 (by decide) ?_
                  refine vV_iinc Cx dX4_firstFor_122 rfl (vinc _) (by decide) ?_
                  refine vV_goto (tgt := 5) Cx dX4_firstFor_125 (by decide) ?_
                  refine ih (i + 1) _ (by omega) (by omega) ?_ (by rw [← h3, vlp_step hlt]; exact congrArg (vlp _ n (i + 1)) (by first | rfl | (clear Cx hr hlk; simp_all [-Int32.not_lt, -Int32.not_le, f_ff, m_ok, m_ac])))
                  first | exact ha | exact Or.inr ⟨hi.1, rfl⟩
              · refine vV_iload_n Cx 1 dX4_firstFor_53 rfl rfl ?_
                refine vV_iconst (v := 1) Cx dX4_firstFor_54 (by decide) ?_
                refine vV_iadd Cx dX4_firstFor_55 ?_
                refine vV_goto (tgt := 60) Cx dX4_firstFor_56 (by decide) ?_
                refine vV_icmp_eq (tgt := 66) Cx dX4_firstFor_60 (by decide) (fun h60 => ?_) (fun h60 => ?_)
                · refine vV_iload_n Cx 2 dX4_firstFor_66 rfl rfl ?_
                  refine vV_if_ne (tgt := 96) Cx dX4_firstFor_67 (by decide) (fun h67 => ?_) (fun h67 => ?_)
                  · refine vV_iload_n Cx 3 dX4_firstFor_96 rfl rfl ?_
                    refine vV_iconst (v := -1) Cx dX4_firstFor_97 (by decide) ?_
                    refine vV_icmp_eq (tgt := 119) Cx dX4_firstFor_98 (by decide) (fun h98 => ?_) (fun h98 => ?_)
                    · refine vV_iload Cx dX4_firstFor_119 rfl ?_
                      refine vV_istore_n Cx 3 dX4_firstFor_121 rfl (by decide) ?_
                      refine vV_iinc Cx dX4_firstFor_122 rfl (vinc _) (by decide) ?_
                      refine vV_goto (tgt := 5) Cx dX4_firstFor_125 (by decide) ?_
                      refine ih (i + 1) _ (by omega) (by omega) ?_ (by rw [← h3, vlp_step hlt]; exact congrArg (vlp _ n (i + 1)) (by first | rfl | (clear Cx hr hlk; simp_all [-Int32.not_lt, -Int32.not_le, f_ff, m_ok, m_ac])))
                      first | exact ha | exact Or.inr ⟨hi.1, rfl⟩
                    · have ha2 := ha.resolve_left h98
                      refine vV_aload_n Cx 0 dX4_firstFor_101 rfl rfl ?_
                      refine vV_iload Cx dX4_firstFor_102 rfl ?_
                      refine vV_bipush (v := 6) Cx dX4_firstFor_104 (by decide) ?_
                      refine vV_callVi Cx (KX4_get hi v7_6) (cwV 2 Cx.1.2.2.2.2 (uGV u3_113 u3_115 us_24 u1_7 u3_116) rfl rfl rfl hdX4_get ⟨Nat.le_of_ble_eq_true rfl, Nat.le_of_ble_eq_true rfl⟩) 0 rfl rfl rfl rfl (Nat.le_of_ble_eq_true rfl) ⟨Nat.zero_le _, Nat.zero_le _⟩ dX4_firstFor_106 ?_
                      refine vV_aload_n Cx 0 dX4_firstFor_109 rfl rfl ?_
                      refine vV_iload_n Cx 3 dX4_firstFor_110 rfl rfl ?_
                      refine vV_bipush (v := 6) Cx dX4_firstFor_111 (by decide) ?_
                      refine vV_callVi Cx (KX4_get ha2 v7_6) (cwV 2 Cx.1.2.2.2.2 (uGV u3_113 u3_115 us_24 u1_7 u3_116) rfl rfl rfl hdX4_get ⟨Nat.le_of_ble_eq_true rfl, Nat.le_of_ble_eq_true rfl⟩) 0 rfl rfl rfl rfl (Nat.le_of_ble_eq_true rfl) ⟨Nat.zero_le _, Nat.zero_le _⟩ dX4_firstFor_113 ?_
                      refine vV_icmp_ge (tgt := 122) Cx dX4_firstFor_116 (by decide) (fun h116 => ?_) (fun h116 => ?_)
                      · refine vV_iinc Cx dX4_firstFor_122 rfl (vinc _) (by decide) ?_
                        refine vV_goto (tgt := 5) Cx dX4_firstFor_125 (by decide) ?_
                        refine ih (i + 1) _ (by omega) (by omega) ?_ (by rw [← h3, vlp_step hlt]; exact congrArg (vlp _ n (i + 1)) (by first | rfl | (clear Cx hr hlk; simp_all [-Int32.not_lt, -Int32.not_le, f_ff, m_ok, m_ac])))
                        first | exact ha | exact Or.inr ⟨hi.1, rfl⟩
                      · refine vV_iload Cx dX4_firstFor_119 rfl ?_
                        refine vV_istore_n Cx 3 dX4_firstFor_121 rfl (by decide) ?_
                        refine vV_iinc Cx dX4_firstFor_122 rfl (vinc _) (by decide) ?_
                        refine vV_goto (tgt := 5) Cx dX4_firstFor_125 (by decide) ?_
                        refine ih (i + 1) _ (by omega) (by omega) ?_ (by rw [← h3, vlp_step hlt]; exact congrArg (vlp _ n (i + 1)) (by first | rfl | (clear Cx hr hlk; simp_all [-Int32.not_lt, -Int32.not_le, f_ff, m_ok, m_ac])))
                        first | exact ha | exact Or.inr ⟨hi.1, rfl⟩
                  · refine vV_iload_n Cx 1 dX4_firstFor_70 rfl rfl ?_
                    refine vV_if_ne (tgt := 96) Cx dX4_firstFor_71 (by decide) (fun h71 => ?_) (fun h71 => ?_)
                    · refine vV_iload_n Cx 3 dX4_firstFor_96 rfl rfl ?_
                      refine vV_iconst (v := -1) Cx dX4_firstFor_97 (by decide) ?_
                      refine vV_icmp_eq (tgt := 119) Cx dX4_firstFor_98 (by decide) (fun h98 => ?_) (fun h98 => ?_)
                      · refine vV_iload Cx dX4_firstFor_119 rfl ?_
                        refine vV_istore_n Cx 3 dX4_firstFor_121 rfl (by decide) ?_
                        refine vV_iinc Cx dX4_firstFor_122 rfl (vinc _) (by decide) ?_
                        refine vV_goto (tgt := 5) Cx dX4_firstFor_125 (by decide) ?_
                        refine ih (i + 1) _ (by omega) (by omega) ?_ (by rw [← h3, vlp_step hlt]; exact congrArg (vlp _ n (i + 1)) (by first | rfl | (clear Cx hr hlk; simp_all [-Int32.not_lt, -Int32.not_le, f_ff, m_ok, m_ac])))
                        first | exact ha | exact Or.inr ⟨hi.1, rfl⟩
                      · have ha2 := ha.resolve_left h98
                        refine vV_aload_n Cx 0 dX4_firstFor_101 rfl rfl ?_
                        refine vV_iload Cx dX4_firstFor_102 rfl ?_
                        refine vV_bipush (v := 6) Cx dX4_firstFor_104 (by decide) ?_
                        refine vV_callVi Cx (KX4_get hi v7_6) (cwV 2 Cx.1.2.2.2.2 (uGV u3_113 u3_115 us_24 u1_7 u3_116) rfl rfl rfl hdX4_get ⟨Nat.le_of_ble_eq_true rfl, Nat.le_of_ble_eq_true rfl⟩) 0 rfl rfl rfl rfl (Nat.le_of_ble_eq_true rfl) ⟨Nat.zero_le _, Nat.zero_le _⟩ dX4_firstFor_106 ?_
                        refine vV_aload_n Cx 0 dX4_firstFor_109 rfl rfl ?_
                        refine vV_iload_n Cx 3 dX4_firstFor_110 rfl rfl ?_
                        refine vV_bipush (v := 6) Cx dX4_firstFor_111 (by decide) ?_
                        refine vV_callVi Cx (KX4_get ha2 v7_6) (cwV 2 Cx.1.2.2.2.2 (uGV u3_113 u3_115 us_24 u1_7 u3_116) rfl rfl rfl hdX4_get ⟨Nat.le_of_ble_eq_true rfl, Nat.le_of_ble_eq_true rfl⟩) 0 rfl rfl rfl rfl (Nat.le_of_ble_eq_true rfl) ⟨Nat.zero_le _, Nat.zero_le _⟩ dX4_firstFor_113 ?_
                        refine vV_icmp_ge (tgt := 122) Cx dX4_firstFor_116 (by decide) (fun h116 => ?_) (fun h116 => ?_)
                        · refine vV_iinc Cx dX4_firstFor_122 rfl (vinc _) (by decide) ?_
                          refine vV_goto (tgt := 5) Cx dX4_firstFor_125 (by decide) ?_
                          refine ih (i + 1) _ (by omega) (by omega) ?_ (by rw [← h3, vlp_step hlt]; exact congrArg (vlp _ n (i + 1)) (by first | rfl | (clear Cx hr hlk; simp_all [-Int32.not_lt, -Int32.not_le, f_ff, m_ok, m_ac])))
                          first | exact ha | exact Or.inr ⟨hi.1, rfl⟩
                        · refine vV_iload Cx dX4_firstFor_119 rfl ?_
                          refine vV_istore_n Cx 3 dX4_firstFor_121 rfl (by decide) ?_
                          refine vV_iinc Cx dX4_firstFor_122 rfl (vinc _) (by decide) ?_
                          refine vV_goto (tgt := 5) Cx dX4_firstFor_125 (by decide) ?_
                          refine ih (i + 1) _ (by omega) (by omega) ?_ (by rw [← h3, vlp_step hlt]; exact congrArg (vlp _ n (i + 1)) (by first | rfl | (clear Cx hr hlk; simp_all [-Int32.not_lt, -Int32.not_le, f_ff, m_ok, m_ac])))
                          first | exact ha | exact Or.inr ⟨hi.1, rfl⟩
                    · refine vV_aload_n Cx 0 dX4_firstFor_74 rfl rfl ?_
                      refine vU_get Cx hinX4 0 rfl rfl 4 (by decide) u2_231 rfl dX4_firstFor_75 ?_
                      refine vV_aload_n Cx 0 dX4_firstFor_78 rfl rfl ?_
                      refine vU_get Cx hinX4 0 rfl rfl 6 (by decide) u2_233 rfl dX4_firstFor_79 ?_
                      refine vV_aload_n Cx 0 dX4_firstFor_82 rfl rfl ?_
                      refine vU_get Cx hinX4 0 rfl rfl 9 (by decide) u2_236 rfl dX4_firstFor_83 ?_
                      refine vV_iload Cx dX4_firstFor_86 rfl ?_
                      refine vV_iald Cx 6 0 rfl rfl (by assumption) dX4_firstFor_88 ?_
                      refine vV_iald Cx 4 0 rfl rfl (by assumption) dX4_firstFor_89 ?_
                      refine vV_icmp_ge (tgt := 96) Cx dX4_firstFor_90 (by decide) (fun h90 => ?_) (fun h90 => ?_)
                      · refine vV_iload_n Cx 3 dX4_firstFor_96 rfl rfl ?_
                        refine vV_iconst (v := -1) Cx dX4_firstFor_97 (by decide) ?_
                        refine vV_icmp_eq (tgt := 119) Cx dX4_firstFor_98 (by decide) (fun h98 => ?_) (fun h98 => ?_)
                        · refine vV_iload Cx dX4_firstFor_119 rfl ?_
                          refine vV_istore_n Cx 3 dX4_firstFor_121 rfl (by decide) ?_
                          refine vV_iinc Cx dX4_firstFor_122 rfl (vinc _) (by decide) ?_
                          refine vV_goto (tgt := 5) Cx dX4_firstFor_125 (by decide) ?_
                          refine ih (i + 1) _ (by omega) (by omega) ?_ (by rw [← h3, vlp_step hlt]; exact congrArg (vlp _ n (i + 1)) (by first | rfl | (clear Cx hr hlk; simp_all [-Int32.not_lt, -Int32.not_le, f_ff, m_ok, m_ac])))
                          first | exact ha | exact Or.inr ⟨hi.1, rfl⟩
                        · have ha2 := ha.resolve_left h98
                          refine vV_aload_n Cx 0 dX4_firstFor_101 rfl rfl ?_
                          refine vV_iload Cx dX4_firstFor_102 rfl ?_
                          refine vV_bipush (v := 6) Cx dX4_firstFor_104 (by decide) ?_
                          refine vV_callVi Cx (KX4_get hi v7_6) (cwV 2 Cx.1.2.2.2.2 (uGV u3_113 u3_115 us_24 u1_7 u3_116) rfl rfl rfl hdX4_get ⟨Nat.le_of_ble_eq_true rfl, Nat.le_of_ble_eq_true rfl⟩) 0 rfl rfl rfl rfl (Nat.le_of_ble_eq_true rfl) ⟨Nat.zero_le _, Nat.zero_le _⟩ dX4_firstFor_106 ?_
                          refine vV_aload_n Cx 0 dX4_firstFor_109 rfl rfl ?_
                          refine vV_iload_n Cx 3 dX4_firstFor_110 rfl rfl ?_
                          refine vV_bipush (v := 6) Cx dX4_firstFor_111 (by decide) ?_
                          refine vV_callVi Cx (KX4_get ha2 v7_6) (cwV 2 Cx.1.2.2.2.2 (uGV u3_113 u3_115 us_24 u1_7 u3_116) rfl rfl rfl hdX4_get ⟨Nat.le_of_ble_eq_true rfl, Nat.le_of_ble_eq_true rfl⟩) 0 rfl rfl rfl rfl (Nat.le_of_ble_eq_true rfl) ⟨Nat.zero_le _, Nat.zero_le _⟩ dX4_firstFor_113 ?_
                          refine vV_icmp_ge (tgt := 122) Cx dX4_firstFor_116 (by decide) (fun h116 => ?_) (fun h116 => ?_)
                          · refine vV_iinc Cx dX4_firstFor_122 rfl (vinc _) (by decide) ?_
                            refine vV_goto (tgt := 5) Cx dX4_firstFor_125 (by decide) ?_
                            refine ih (i + 1) _ (by omega) (by omega) ?_ (by rw [← h3, vlp_step hlt]; exact congrArg (vlp _ n (i + 1)) (by first | rfl | (clear Cx hr hlk; simp_all [-Int32.not_lt, -Int32.not_le, f_ff, m_ok, m_ac])))
                            first | exact ha | exact Or.inr ⟨hi.1, rfl⟩
                          · refine vV_iload Cx dX4_firstFor_119 rfl ?_
                            refine vV_istore_n Cx 3 dX4_firstFor_121 rfl (by decide) ?_
                            refine vV_iinc Cx dX4_firstFor_122 rfl (vinc _) (by decide) ?_
                            refine vV_goto (tgt := 5) Cx dX4_firstFor_125 (by decide) ?_
                            refine ih (i + 1) _ (by omega) (by omega) ?_ (by rw [← h3, vlp_step hlt]; exact congrArg (vlp _ n (i + 1)) (by first | rfl | (clear Cx hr hlk; simp_all [-Int32.not_lt, -Int32.not_le, f_ff, m_ok, m_ac])))
                            first | exact ha | exact Or.inr ⟨hi.1, rfl⟩
                      · refine vV_goto (tgt := 122) Cx dX4_firstFor_93 (by decide) ?_
                        refine vV_iinc Cx dX4_firstFor_122 rfl (vinc _) (by decide) ?_
                        refine vV_goto (tgt := 5) Cx dX4_firstFor_125 (by decide) ?_
                        refine ih (i + 1) _ (by omega) (by omega) ?_ (by rw [← h3, vlp_step hlt]; exact congrArg (vlp _ n (i + 1)) (by first | rfl | (clear Cx hr hlk; simp_all [-Int32.not_lt, -Int32.not_le, f_ff, m_ok, m_ac])))
                        first | exact ha | exact Or.inr ⟨hi.1, rfl⟩
                · refine vV_goto (tgt := 122) Cx dX4_firstFor_63 (by decide) ?_
                  refine vV_iinc Cx dX4_firstFor_122 rfl (vinc _) (by decide) ?_
                  refine vV_goto (tgt := 5) Cx dX4_firstFor_125 (by decide) ?_
                  refine ih (i + 1) _ (by omega) (by omega) ?_ (by rw [← h3, vlp_step hlt]; exact congrArg (vlp _ n (i + 1)) (by first | rfl | (clear Cx hr hlk; simp_all [-Int32.not_lt, -Int32.not_le, f_ff, m_ok, m_ac])))
                  first | exact ha | exact Or.inr ⟨hi.1, rfl⟩
  refine vV_iconst (v := -1) Cx dX4_firstFor_0 (by decide) ?_
  refine vV_istore_n Cx 3 dX4_firstFor_1 rfl (by decide) ?_
  refine vV_iconst (v := 0) Cx dX4_firstFor_2 (by decide) ?_
  refine vV_istore Cx dX4_firstFor_3 (by decide) ?_
  exact Lp (n + 1) 0 _ (by omega) (by omega) (Or.inl rfl) rfl
abbrev rX4_startOn : Room := { frames := 3, cells := 0, slots := 0, locals := 67 }
set_option maxRecDepth 100000 in
set_option maxHeartbeats 4000000 in
theorem KX4_startOn {l : Launch} {D : va_G} {cI cZ : ClassId} {ad : Nat → Nat} {A : Nat → Prop} {E C N : mT} {n : Nat} (hn : E 8 2 = nI n) (h12n : n ≤ 12) (ht : ∀ i, i < n → vix (E 3 i) 4 (tm E i)) {q : Nat} (hq : q < 6) (hwq : E 1 q = nI (wd E q) ∧ wd E q ≤ 6) : vKv l D (vtys cI cZ) A yX4_startOn (uT yX4_startOn cX4_startOn 6 (none)) rX4_startOn (wN cI cZ ad E C N) [.ref (ad 0), .int (nI q)] (wN cI cZ ad (E) (m_so E n q (wd E q) C) (N)) := by
  refine vKv_of (cc := cX4_startOn) (maxL := 6) (ret := none) (by decide) rfl rfl (Nat.le_of_ble_eq_true rfl) ?_
  intro p e s m below meth c Cx hr hlk
  have hq7 : vix (nI q) 7 q := vix_nI (by omega) (by decide)
  have Lp : ∀ (fuel i : Nat) (Z : mT), i ≤ wd E q → wd E q - i < fuel → m_so E n q (wd E q - i) Z = m_so E n q (wd E q) C → vV D (vtys cI cZ) A 6 p l e rX4_startOn s m ([.ref (ad 0), .int (nI q)] : List Value).toArray below meth c 0 0 (MQ below (vQv D A (wN cI cZ ad (E) (m_so E n q (wd E q) C) (N))) ([.ref (ad 0), .int (nI q)] : List Value).toArray s 0 0 A) (wN cI cZ ad (E) (Z) (N)) [.ref (ad 0), .int (nI q), .int (nI i)] 2 [] := by
    intro fuel
    induction fuel with
    | zero => intro i Z h1 h2; exact absurd h2 (Nat.not_lt_zero _)
    | succ fuel ih =>
      intro i Z h1 h2 h3
      refine vV_iload_n Cx 2 dX4_startOn_2 rfl rfl ?_
      refine vV_aload_n Cx 0 dX4_startOn_3 rfl rfl ?_
      refine vU_get Cx hinX4 0 rfl rfl 2 (by decide) u2_229 rfl dX4_startOn_4 ?_
      refine vV_iload_n Cx 1 dX4_startOn_7 rfl rfl ?_
      refine vV_iald Cx 2 0 rfl rfl (by assumption) dX4_startOn_8 ?_
      refine vV_icmp_ge (tgt := 115) Cx dX4_startOn_9 (by decide) (fun h9 => ?_) (fun h9 => ?_)
      · rw [hwq.1] at h9
        have hin := vix_ge h9 (by omega) h1
        exact vV_vret Cx hr hlk dX4_startOn_115 (by exact congrArg (fun z => wN cI cZ ad E z N) (by rw [hin, Nat.sub_self] at h3; exact h3))
      · rw [hwq.1] at h9
        have hlt := vix_lt h9 (by omega) h1
        rw [m_so_s E n q (wd E q) i Z hlt] at h3
        refine vV_aload_n Cx 0 dX4_startOn_12 rfl rfl ?_
        refine vV_iload_n Cx 1 dX4_startOn_13 rfl rfl ?_
        refine vV_iconst (v := 1) Cx dX4_startOn_14 (by decide) ?_
        refine vV_callVi Cx (KX4_firstFor hn h12n ht _ _) (cwV 2 Cx.1.2.2.2.2 (uGV u3_129 u3_131 us_28 u1_7 u3_132) rfl rfl rfl hdX4_firstFor ⟨Nat.le_of_ble_eq_true rfl, Nat.le_of_ble_eq_true rfl⟩) 0 rfl rfl rfl rfl (Nat.le_of_ble_eq_true rfl) ⟨Nat.zero_le _, Nat.zero_le _⟩ dX4_startOn_15 ?_
        refine vV_istore_n Cx 3 dX4_startOn_18 rfl (by decide) ?_
        refine vV_iload_n Cx 3 dX4_startOn_19 rfl rfl ?_
        refine vV_iconst (v := -1) Cx dX4_startOn_20 (by decide) ?_
        refine vV_icmp_eq (tgt := 28) Cx dX4_startOn_21 (by decide) (fun h21 => ?_) (fun h21 => ?_)
        · rw [if_pos h21] at h3
          refine vV_iconst (v := 0) Cx dX4_startOn_28 (by decide) ?_
          refine vV_istore Cx dX4_startOn_29 (by decide) ?_
          refine vV_iload Cx dX4_startOn_31 rfl ?_
          refine vV_if_ne (tgt := 43) Cx dX4_startOn_33 (by decide) (fun h33 => ?_) (fun h33 => ?_)
          · exact absurd rfl h33
          · refine vV_aload_n Cx 0 dX4_startOn_36 rfl rfl ?_
            refine vV_iload_n Cx 1 dX4_startOn_37 rfl rfl ?_
            refine vV_iconst (v := 0) Cx dX4_startOn_38 (by decide) ?_
            refine vV_callVi Cx (KX4_firstFor hn h12n ht _ _) (cwV 2 Cx.1.2.2.2.2 (uGV u3_129 u3_131 us_28 u1_7 u3_132) rfl rfl rfl hdX4_firstFor ⟨Nat.le_of_ble_eq_true rfl, Nat.le_of_ble_eq_true rfl⟩) 0 rfl rfl rfl rfl (Nat.le_of_ble_eq_true rfl) ⟨Nat.zero_le _, Nat.zero_le _⟩ dX4_startOn_39 ?_
            refine vV_istore_n Cx 3 dX4_startOn_42 rfl (by decide) ?_
            refine vV_iload_n Cx 3 dX4_startOn_43 rfl rfl ?_
            refine vV_iconst (v := -1) Cx dX4_startOn_44 (by decide) ?_
            refine vV_icmp_ne (tgt := 49) Cx dX4_startOn_45 (by decide) (fun h45 => ?_) (fun h45 => ?_)
            · rw [if_neg h45] at h3
              have hf := m_fil_ix h12n h45
              refine vV_iload Cx dX4_startOn_49 rfl ?_
              refine vV_if_eq (tgt := 63) Cx dX4_startOn_51 (by decide) (fun h51 => ?_) (fun h51 => ?_)
              · refine vV_aload_n Cx 0 dX4_startOn_63 rfl rfl ?_
                refine vU_get Cx hinX4 0 rfl rfl 1 (by decide) u2_228 rfl dX4_startOn_64 ?_
                refine vV_iload_n Cx 1 dX4_startOn_67 rfl rfl ?_
                refine vV_iald Cx 1 0 rfl rfl (by assumption) dX4_startOn_68 ?_
                refine vV_aload_n Cx 0 dX4_startOn_69 rfl rfl ?_
                refine vU_get Cx hinX4 0 rfl rfl 10 (by decide) u2_237 rfl dX4_startOn_70 ?_
                refine vV_iload_n Cx 3 dX4_startOn_73 rfl rfl ?_
                refine vV_iald Cx 7 0 rfl rfl (by assumption) dX4_startOn_74 ?_
                refine vV_iadd Cx dX4_startOn_75 ?_
                refine vV_istore Cx dX4_startOn_76 (by decide) ?_
                refine vV_aload_n Cx 0 dX4_startOn_78 rfl rfl ?_
                refine vV_iload_n Cx 3 dX4_startOn_79 rfl rfl ?_
                refine vV_iconst (v := 2) Cx dX4_startOn_80 (by decide) ?_
                refine vV_aload_n Cx 0 dX4_startOn_81 rfl rfl ?_
                refine vV_iload_n Cx 3 dX4_startOn_82 rfl rfl ?_
                refine vV_callVi Cx (KX4_isWeak hf) (cwV 1 Cx.1.2.2.2.2 (uGV u3_121 u3_123 us_26 u1_7 u3_124) rfl rfl rfl hdX4_isWeak ⟨Nat.le_of_ble_eq_true rfl, Nat.le_of_ble_eq_true rfl⟩) 0 rfl rfl rfl rfl (Nat.le_of_ble_eq_true rfl) ⟨Nat.zero_le _, Nat.zero_le _⟩ dX4_startOn_83 ?_
                refine vV_if_eq (tgt := 96) Cx dX4_startOn_86 (by decide) (fun h86 => ?_) (fun h86 => ?_)
                · refine vV_iload Cx dX4_startOn_96 rfl ?_
                  refine vV_callVv Cx (KX4_put hf v7_2 _) (cwV 3 Cx.1.2.2.2.2 (uGV u3_65 u3_67 us_19 u1_7 u3_68) rfl rfl rfl hdX4_put ⟨Nat.le_of_ble_eq_true rfl, Nat.le_of_ble_eq_true rfl⟩) 0 rfl rfl rfl rfl (Nat.le_of_ble_eq_true rfl) ⟨Nat.zero_le _, Nat.zero_le _⟩ dX4_startOn_98 ?_
                  refine vV_aload_n Cx 0 dX4_startOn_101 rfl rfl ?_
                  refine vV_iload_n Cx 3 dX4_startOn_102 rfl rfl ?_
                  refine vV_bipush (v := 6) Cx dX4_startOn_103 (by decide) ?_
                  refine vV_iconst (v := -1) Cx dX4_startOn_105 (by decide) ?_
                  refine vV_callVv Cx (KX4_put hf v7_6 _) (cwV 3 Cx.1.2.2.2.2 (uGV u3_65 u3_67 us_19 u1_7 u3_68) rfl rfl rfl hdX4_put ⟨Nat.le_of_ble_eq_true rfl, Nat.le_of_ble_eq_true rfl⟩) 0 rfl rfl rfl rfl (Nat.le_of_ble_eq_true rfl) ⟨Nat.zero_le _, Nat.zero_le _⟩ dX4_startOn_106 ?_
                  refine vV_iinc Cx dX4_startOn_109 rfl (vinc _) (by decide) ?_
                  refine vV_goto (tgt := 2) Cx dX4_startOn_112 (by decide) ?_
                  refine vV_take 3 rfl ?_
                  exact ih (i + 1) _ (by omega) (by omega) ((congrArg (m_so E n q _) (by first | rfl | (clear Cx hr hlk; simp_all [-Int32.not_lt, -Int32.not_le, m_so1, m_wk, cS_same, cS_ne]))).trans h3)
                · refine vV_iconst (v := 2) Cx dX4_startOn_89 (by decide) ?_
                  refine vV_iload Cx dX4_startOn_90 rfl ?_
                  refine vV_imul Cx dX4_startOn_92 ?_
                  refine vV_goto (tgt := 98) Cx dX4_startOn_93 (by decide) ?_
                  refine vV_callVv Cx (KX4_put hf v7_2 _) (cwV 3 Cx.1.2.2.2.2 (uGV u3_65 u3_67 us_19 u1_7 u3_68) rfl rfl rfl hdX4_put ⟨Nat.le_of_ble_eq_true rfl, Nat.le_of_ble_eq_true rfl⟩) 0 rfl rfl rfl rfl (Nat.le_of_ble_eq_true rfl) ⟨Nat.zero_le _, Nat.zero_le _⟩ dX4_startOn_98 ?_
                  refine vV_aload_n Cx 0 dX4_startOn_101 rfl rfl ?_
                  refine vV_iload_n Cx 3 dX4_startOn_102 rfl rfl ?_
                  refine vV_bipush (v := 6) Cx dX4_startOn_103 (by decide) ?_
                  refine vV_iconst (v := -1) Cx dX4_startOn_105 (by decide) ?_
                  refine vV_callVv Cx (KX4_put hf v7_6 _) (cwV 3 Cx.1.2.2.2.2 (uGV u3_65 u3_67 us_19 u1_7 u3_68) rfl rfl rfl hdX4_put ⟨Nat.le_of_ble_eq_true rfl, Nat.le_of_ble_eq_true rfl⟩) 0 rfl rfl rfl rfl (Nat.le_of_ble_eq_true rfl) ⟨Nat.zero_le _, Nat.zero_le _⟩ dX4_startOn_106 ?_
                  refine vV_iinc Cx dX4_startOn_109 rfl (vinc _) (by decide) ?_
                  refine vV_goto (tgt := 2) Cx dX4_startOn_112 (by decide) ?_
                  refine vV_take 3 rfl ?_
                  exact ih (i + 1) _ (by omega) (by omega) ((congrArg (m_so E n q _) (by first | rfl | (clear Cx hr hlk; simp_all [-Int32.not_lt, -Int32.not_le, m_so1, m_wk, cS_same, cS_ne]))).trans h3)
              · exact absurd rfl h51
            · rw [if_pos h45] at h3
              exact vV_vret Cx hr hlk dX4_startOn_48 (by exact congrArg (fun z => wN cI cZ ad E z N) (by exact h3))
        · rw [if_neg h21] at h3
          refine vV_iconst (v := 1) Cx dX4_startOn_24 (by decide) ?_
          refine vV_goto (tgt := 29) Cx dX4_startOn_25 (by decide) ?_
          refine vV_istore Cx dX4_startOn_29 (by decide) ?_
          refine vV_iload Cx dX4_startOn_31 rfl ?_
          refine vV_if_ne (tgt := 43) Cx dX4_startOn_33 (by decide) (fun h33 => ?_) (fun h33 => ?_)
          · refine vV_iload_n Cx 3 dX4_startOn_43 rfl rfl ?_
            refine vV_iconst (v := -1) Cx dX4_startOn_44 (by decide) ?_
            refine vV_icmp_ne (tgt := 49) Cx dX4_startOn_45 (by decide) (fun h45 => ?_) (fun h45 => ?_)
            · have hf := m_fil_ix h12n h45
              refine vV_iload Cx dX4_startOn_49 rfl ?_
              refine vV_if_eq (tgt := 63) Cx dX4_startOn_51 (by decide) (fun h51 => ?_) (fun h51 => ?_)
              · exact absurd h51 (by decide)
              · refine vV_aload_n Cx 0 dX4_startOn_54 rfl rfl ?_
                refine vU_get Cx hinX4 0 rfl rfl 1 (by decide) u2_228 rfl dX4_startOn_55 ?_
                refine vV_iload_n Cx 1 dX4_startOn_58 rfl rfl ?_
                refine vV_iald Cx 1 0 rfl rfl (by assumption) dX4_startOn_59 ?_
                refine vV_goto (tgt := 76) Cx dX4_startOn_60 (by decide) ?_
                refine vV_istore Cx dX4_startOn_76 (by decide) ?_
                refine vV_aload_n Cx 0 dX4_startOn_78 rfl rfl ?_
                refine vV_iload_n Cx 3 dX4_startOn_79 rfl rfl ?_
                refine vV_iconst (v := 2) Cx dX4_startOn_80 (by decide) ?_
                refine vV_aload_n Cx 0 dX4_startOn_81 rfl rfl ?_
                refine vV_iload_n Cx 3 dX4_startOn_82 rfl rfl ?_
                refine vV_callVi Cx (KX4_isWeak hf) (cwV 1 Cx.1.2.2.2.2 (uGV u3_121 u3_123 us_26 u1_7 u3_124) rfl rfl rfl hdX4_isWeak ⟨Nat.le_of_ble_eq_true rfl, Nat.le_of_ble_eq_true rfl⟩) 0 rfl rfl rfl rfl (Nat.le_of_ble_eq_true rfl) ⟨Nat.zero_le _, Nat.zero_le _⟩ dX4_startOn_83 ?_
                refine vV_if_eq (tgt := 96) Cx dX4_startOn_86 (by decide) (fun h86 => ?_) (fun h86 => ?_)
                · refine vV_iload Cx dX4_startOn_96 rfl ?_
                  refine vV_callVv Cx (KX4_put hf v7_2 _) (cwV 3 Cx.1.2.2.2.2 (uGV u3_65 u3_67 us_19 u1_7 u3_68) rfl rfl rfl hdX4_put ⟨Nat.le_of_ble_eq_true rfl, Nat.le_of_ble_eq_true rfl⟩) 0 rfl rfl rfl rfl (Nat.le_of_ble_eq_true rfl) ⟨Nat.zero_le _, Nat.zero_le _⟩ dX4_startOn_98 ?_
                  refine vV_aload_n Cx 0 dX4_startOn_101 rfl rfl ?_
                  refine vV_iload_n Cx 3 dX4_startOn_102 rfl rfl ?_
                  refine vV_bipush (v := 6) Cx dX4_startOn_103 (by decide) ?_
                  refine vV_iconst (v := -1) Cx dX4_startOn_105 (by decide) ?_
                  refine vV_callVv Cx (KX4_put hf v7_6 _) (cwV 3 Cx.1.2.2.2.2 (uGV u3_65 u3_67 us_19 u1_7 u3_68) rfl rfl rfl hdX4_put ⟨Nat.le_of_ble_eq_true rfl, Nat.le_of_ble_eq_true rfl⟩) 0 rfl rfl rfl rfl (Nat.le_of_ble_eq_true rfl) ⟨Nat.zero_le _, Nat.zero_le _⟩ dX4_startOn_106 ?_
                  refine vV_iinc Cx dX4_startOn_109 rfl (vinc _) (by decide) ?_
                  refine vV_goto (tgt := 2) Cx dX4_startOn_112 (by decide) ?_
                  refine vV_take 3 rfl ?_
                  exact ih (i + 1) _ (by omega) (by omega) ((congrArg (m_so E n q _) (by first | rfl | (clear Cx hr hlk; simp_all [-Int32.not_lt, -Int32.not_le, m_so1, m_wk, cS_same, cS_ne]))).trans h3)
                · refine vV_iconst (v := 2) Cx dX4_startOn_89 (by decide) ?_
                  refine vV_iload Cx dX4_startOn_90 rfl ?_
                  refine vV_imul Cx dX4_startOn_92 ?_
                  refine vV_goto (tgt := 98) Cx dX4_startOn_93 (by decide) ?_
                  refine vV_callVv Cx (KX4_put hf v7_2 _) (cwV 3 Cx.1.2.2.2.2 (uGV u3_65 u3_67 us_19 u1_7 u3_68) rfl rfl rfl hdX4_put ⟨Nat.le_of_ble_eq_true rfl, Nat.le_of_ble_eq_true rfl⟩) 0 rfl rfl rfl rfl (Nat.le_of_ble_eq_true rfl) ⟨Nat.zero_le _, Nat.zero_le _⟩ dX4_startOn_98 ?_
                  refine vV_aload_n Cx 0 dX4_startOn_101 rfl rfl ?_
                  refine vV_iload_n Cx 3 dX4_startOn_102 rfl rfl ?_
                  refine vV_bipush (v := 6) Cx dX4_startOn_103 (by decide) ?_
                  refine vV_iconst (v := -1) Cx dX4_startOn_105 (by decide) ?_
                  refine vV_callVv Cx (KX4_put hf v7_6 _) (cwV 3 Cx.1.2.2.2.2 (uGV u3_65 u3_67 us_19 u1_7 u3_68) rfl rfl rfl hdX4_put ⟨Nat.le_of_ble_eq_true rfl, Nat.le_of_ble_eq_true rfl⟩) 0 rfl rfl rfl rfl (Nat.le_of_ble_eq_true rfl) ⟨Nat.zero_le _, Nat.zero_le _⟩ dX4_startOn_106 ?_
                  refine vV_iinc Cx dX4_startOn_109 rfl (vinc _) (by decide) ?_
                  refine vV_goto (tgt := 2) Cx dX4_startOn_112 (by decide) ?_
                  refine vV_take 3 rfl ?_
                  exact ih (i + 1) _ (by omega) (by omega) ((congrArg (m_so E n q _) (by first | rfl | (clear Cx hr hlk; simp_all [-Int32.not_lt, -Int32.not_le, m_so1, m_wk, cS_same, cS_ne]))).trans h3)
            · exact absurd h45 h21
          · exact absurd h33 (by decide)
  refine vV_iconst (v := 0) Cx dX4_startOn_0 (by decide) ?_
  refine vV_istore_n Cx 2 dX4_startOn_1 rfl (by decide) ?_
  exact Lp (wd E q + 1) 0 _ (by omega) (by omega) rfl
