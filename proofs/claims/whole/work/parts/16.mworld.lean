/-! the cells of the reference, over the same words as the class's: E what was told, C the climbers (now[7 c + w] is C w c), N: 0 aside, 1 starts, 2: thrown, three tried -/
def nw (C : mT) : Nat → Int32 := fun j => C (j % 7) (j / 7)
theorem nw_at (C : mT) {w i : Nat} (h : w < 7) : nw C (7 * i + w) = C w i := by
  unfold nw
  rw [show (7 * i + w) % 7 = w by omega, show (7 * i + w) / 7 = i by omega]
theorem nw_up (C : mT) {w i : Nat} (h : w < 7) (x : Int32) : upd (nw C) (7 * i + w) x = nw (cS C w i x) := by
  funext j
  by_cases h1 : j % 7 = w
  · by_cases h2 : j / 7 = i
    · have : j = 7 * i + w := by omega
      simp [upd, nw, this, cS, show (7 * i + w) % 7 = w by omega, show (7 * i + w) / 7 = i by omega]
    · have : j ≠ 7 * i + w := by omega
      simp [upd, nw, this, cS, h1, h2]
  · have : j ≠ 7 * i + w := by omega
    rw [show nw (cS C w i x) j = C (j % 7) (j / 7) from congrFun (cS_ne h1) _]
    simp [upd, nw, this]
theorem nw_hour (C : mT) (x : Int32) : nw (cS C 9 0 x) = nw C := by
  funext j
  exact congrFun (cS_ne (by omega)) _
def wN (cI cZ : ClassId) (ad : Nat → Nat) (E C N : mT) : va_W := [(ad 0, .inr (4, [.int (E 8 0), .ref (ad 1), .ref (ad 2), .int (E 8 1), .int (C 9 0), .ref (ad 3), .ref (ad 4), .ref (ad 5), .int (E 8 2), .ref (ad 6), .ref (ad 7), .ref (ad 8), .ref (ad 9), .ref (ad 10), .ref (ad 11), .int (N 2 0), .int (N 2 1), .int (N 2 2), .int (N 2 3)])),
  (ad 1, .inl (cI, 7, .inl (E 0))),
  (ad 2, .inl (cI, 7, .inl (E 1))),
  (ad 3, .inl (cZ, 201, .inl (E 2))),
  (ad 4, .inl (cI, 4, .inl (E 6))),
  (ad 5, .inl (cI, 4, .inl (E 7))),
  (ad 6, .inl (cI, 12, .inl (E 3))),
  (ad 7, .inl (cI, 12, .inl (E 4))),
  (ad 8, .inl (cI, 12, .inl (E 5))),
  (ad 9, .inl (cI, 84, .inl (nw C))),
  (ad 10, .inl (cI, 84, .inl (N 0))),
  (ad 11, .inl (cI, 4, .inl (N 1)))]
theorem nk_length {cI cZ : ClassId} {ad : Nat → Nat} {E C N : mT} {j : Nat} {x : Int32} : (wN cI cZ ad E C N).set 1 (ad 1, .inl (cI, 7, .inl (upd (E 0) j x))) = wN cI cZ ad (cS E 0 j x) C N := rfl
theorem nk_width {cI cZ : ClassId} {ad : Nat → Nat} {E C N : mT} {j : Nat} {x : Int32} : (wN cI cZ ad E C N).set 2 (ad 2, .inl (cI, 7, .inl (upd (E 1) j x))) = wN cI cZ ad (cS E 1 j x) C N := rfl
theorem nk_windy {cI cZ : ClassId} {ad : Nat → Nat} {E C N : mT} {j : Nat} {x : Int32} : (wN cI cZ ad E C N).set 3 (ad 3, .inl (cZ, 201, .inl (upd (E 2) j x))) = wN cI cZ ad (cS E 2 j x) C N := rfl
theorem nk_start {cI cZ : ClassId} {ad : Nat → Nat} {E C N : mT} {j : Nat} {x : Int32} : (wN cI cZ ad E C N).set 4 (ad 4, .inl (cI, 4, .inl (upd (E 6) j x))) = wN cI cZ ad (cS E 6 j x) C N := rfl
theorem nk_turn {cI cZ : ClassId} {ad : Nat → Nat} {E C N : mT} {j : Nat} {x : Int32} : (wN cI cZ ad E C N).set 5 (ad 5, .inl (cI, 4, .inl (upd (E 7) j x))) = wN cI cZ ad (cS E 7 j x) C N := rfl
theorem nk_team {cI cZ : ClassId} {ad : Nat → Nat} {E C N : mT} {j : Nat} {x : Int32} : (wN cI cZ ad E C N).set 6 (ad 6, .inl (cI, 12, .inl (upd (E 3) j x))) = wN cI cZ ad (cS E 3 j x) C N := rfl
theorem nk_pace {cI cZ : ClassId} {ad : Nat → Nat} {E C N : mT} {j : Nat} {x : Int32} : (wN cI cZ ad E C N).set 7 (ad 7, .inl (cI, 12, .inl (upd (E 4) j x))) = wN cI cZ ad (cS E 4 j x) C N := rfl
theorem nk_full {cI cZ : ClassId} {ad : Nat → Nat} {E C N : mT} {j : Nat} {x : Int32} : (wN cI cZ ad E C N).set 8 (ad 8, .inl (cI, 12, .inl (upd (E 5) j x))) = wN cI cZ ad (cS E 5 j x) C N := rfl
theorem nk_now0 {cI cZ : ClassId} {ad : Nat → Nat} {E C N : mT} {i w : Nat} (h : w < 7) {x : Int32} : (wN cI cZ ad E C N).set 9 (ad 9, .inl (cI, 84, .inl (upd (nw C) (7 * i + w) x))) = wN cI cZ ad E (cS C w i x) N := by
  rw [nw_up C h]
  have h9 : cS C w i x 9 0 = C 9 0 := congrFun (cS_ne (by omega)) 0
  unfold wN
  rw [h9]
  rfl
theorem nk_aside {cI cZ : ClassId} {ad : Nat → Nat} {E C N : mT} {j : Nat} {x : Int32} : (wN cI cZ ad E C N).set 10 (ad 10, .inl (cI, 84, .inl (upd (N 0) j x))) = wN cI cZ ad E C (cS N 0 j x) := rfl
theorem nk_starts {cI cZ : ClassId} {ad : Nat → Nat} {E C N : mT} {j : Nat} {x : Int32} : (wN cI cZ ad E C N).set 11 (ad 11, .inl (cI, 4, .inl (upd (N 1) j x))) = wN cI cZ ad E C (cS N 1 j x) := rfl
theorem np_pitches {cI cZ : ClassId} {ad : Nat → Nat} {E C N : mT} {x : Int32} : (wN cI cZ ad E C N).set 0 (ad 0, .inr (4, [.int x, .ref (ad 1), .ref (ad 2), .int (E 8 1), .int (C 9 0), .ref (ad 3), .ref (ad 4), .ref (ad 5), .int (E 8 2), .ref (ad 6), .ref (ad 7), .ref (ad 8), .ref (ad 9), .ref (ad 10), .ref (ad 11), .int (N 2 0), .int (N 2 1), .int (N 2 2), .int (N 2 3)])) = wN cI cZ ad (cS E 8 0 x) C N := rfl
theorem np_high {cI cZ : ClassId} {ad : Nat → Nat} {E C N : mT} {x : Int32} : (wN cI cZ ad E C N).set 0 (ad 0, .inr (4, [.int (E 8 0), .ref (ad 1), .ref (ad 2), .int x, .int (C 9 0), .ref (ad 3), .ref (ad 4), .ref (ad 5), .int (E 8 2), .ref (ad 6), .ref (ad 7), .ref (ad 8), .ref (ad 9), .ref (ad 10), .ref (ad 11), .int (N 2 0), .int (N 2 1), .int (N 2 2), .int (N 2 3)])) = wN cI cZ ad (cS E 8 1 x) C N := rfl
theorem np_climbers {cI cZ : ClassId} {ad : Nat → Nat} {E C N : mT} {x : Int32} : (wN cI cZ ad E C N).set 0 (ad 0, .inr (4, [.int (E 8 0), .ref (ad 1), .ref (ad 2), .int (E 8 1), .int (C 9 0), .ref (ad 3), .ref (ad 4), .ref (ad 5), .int x, .ref (ad 6), .ref (ad 7), .ref (ad 8), .ref (ad 9), .ref (ad 10), .ref (ad 11), .int (N 2 0), .int (N 2 1), .int (N 2 2), .int (N 2 3)])) = wN cI cZ ad (cS E 8 2 x) C N := rfl
theorem np_thrown {cI cZ : ClassId} {ad : Nat → Nat} {E C N : mT} {x : Int32} : (wN cI cZ ad E C N).set 0 (ad 0, .inr (4, [.int (E 8 0), .ref (ad 1), .ref (ad 2), .int (E 8 1), .int (C 9 0), .ref (ad 3), .ref (ad 4), .ref (ad 5), .int (E 8 2), .ref (ad 6), .ref (ad 7), .ref (ad 8), .ref (ad 9), .ref (ad 10), .ref (ad 11), .int x, .int (N 2 1), .int (N 2 2), .int (N 2 3)])) = wN cI cZ ad E C (cS N 2 0 x) := rfl
theorem np_triedSummits {cI cZ : ClassId} {ad : Nat → Nat} {E C N : mT} {x : Int32} : (wN cI cZ ad E C N).set 0 (ad 0, .inr (4, [.int (E 8 0), .ref (ad 1), .ref (ad 2), .int (E 8 1), .int (C 9 0), .ref (ad 3), .ref (ad 4), .ref (ad 5), .int (E 8 2), .ref (ad 6), .ref (ad 7), .ref (ad 8), .ref (ad 9), .ref (ad 10), .ref (ad 11), .int (N 2 0), .int x, .int (N 2 2), .int (N 2 3)])) = wN cI cZ ad E C (cS N 2 1 x) := rfl
theorem np_triedStranded {cI cZ : ClassId} {ad : Nat → Nat} {E C N : mT} {x : Int32} : (wN cI cZ ad E C N).set 0 (ad 0, .inr (4, [.int (E 8 0), .ref (ad 1), .ref (ad 2), .int (E 8 1), .int (C 9 0), .ref (ad 3), .ref (ad 4), .ref (ad 5), .int (E 8 2), .ref (ad 6), .ref (ad 7), .ref (ad 8), .ref (ad 9), .ref (ad 10), .ref (ad 11), .int (N 2 0), .int (N 2 1), .int x, .int (N 2 3)])) = wN cI cZ ad E C (cS N 2 2 x) := rfl
theorem np_triedWaits {cI cZ : ClassId} {ad : Nat → Nat} {E C N : mT} {x : Int32} : (wN cI cZ ad E C N).set 0 (ad 0, .inr (4, [.int (E 8 0), .ref (ad 1), .ref (ad 2), .int (E 8 1), .int (C 9 0), .ref (ad 3), .ref (ad 4), .ref (ad 5), .int (E 8 2), .ref (ad 6), .ref (ad 7), .ref (ad 8), .ref (ad 9), .ref (ad 10), .ref (ad 11), .int (N 2 0), .int (N 2 1), .int (N 2 2), .int x])) = wN cI cZ ad E C (cS N 2 3 x) := rfl
theorem np_hour {cI cZ : ClassId} {ad : Nat → Nat} {E C N : mT} {x : Int32} : (wN cI cZ ad E C N).set 0 (ad 0, .inr (4, [.int (E 8 0), .ref (ad 1), .ref (ad 2), .int (E 8 1), .int x, .ref (ad 3), .ref (ad 4), .ref (ad 5), .int (E 8 2), .ref (ad 6), .ref (ad 7), .ref (ad 8), .ref (ad 9), .ref (ad 10), .ref (ad 11), .int (N 2 0), .int (N 2 1), .int (N 2 2), .int (N 2 3)])) = wN cI cZ ad E (cS C 9 0 x) N := by
  unfold wN
  rw [nw_hour]
  rfl
theorem v7_0 : vix (0 : Int32) 7 0 := vix_nI (n := 7) (j := 0) (by decide) (by decide)
theorem v7_1 : vix (1 : Int32) 7 1 := vix_nI (n := 7) (j := 1) (by decide) (by decide)
theorem v7_2 : vix (2 : Int32) 7 2 := vix_nI (n := 7) (j := 2) (by decide) (by decide)
theorem v7_3 : vix (3 : Int32) 7 3 := vix_nI (n := 7) (j := 3) (by decide) (by decide)
theorem v7_4 : vix (4 : Int32) 7 4 := vix_nI (n := 7) (j := 4) (by decide) (by decide)
theorem v7_5 : vix (5 : Int32) 7 5 := vix_nI (n := 7) (j := 5) (by decide) (by decide)
theorem v7_6 : vix (6 : Int32) 7 6 := vix_nI (n := 7) (j := 6) (by decide) (by decide)
theorem v7_84 {x y : Int32} {i w : Nat} (hi : vix x 12 i) (hw : vix y 7 w) : vix (7 * x + y) 84 (7 * i + w) := by
  obtain ⟨a, ha, rfl⟩ := vp_in_of hi.1 (by decide)
  obtain ⟨b, hb, rfl⟩ := vp_in_of hw.1 (by decide)
  have e1 : a = i := (nI_clamp (by omega)).symm.trans hi.2
  have e2 : b = w := (nI_clamp (by omega)).symm.trans hw.2
  subst e1; subst e2
  rw [show (7 : Int32) = nI 7 from rfl, pk_mul, nI_add]
  exact vix_nI (by omega) (by decide)
theorem vix_w {x : Int32} {n w : Nat} (h : vix x n w) (hn : n < 2 ^ 31) : w < n := by
  obtain ⟨a, ha, rfl⟩ := vp_in_of h.1 hn
  have e1 : a = w := (nI_clamp (by omega)).symm.trans h.2
  omega
theorem vV_wN {D : va_G} {tys : List (ClassId × FieldType)} {A : Nat → Prop} {nL : Nat} {p : Program} {l : Launch} {e : Env} {R : Room} {s : State} {m : MethodId} {args : Array Value} {below : List Frame} {meth : Method} {c : Code} {cells slots : Nat} {Q : State → Prop} {L : List Value} {pc : Nat} {st : List Value} {cI cZ : ClassId} {ad : Nat → Nat} {E C1 C2 N : mT} (h : C1 = C2) (k : vV D tys A nL p l e R s m args below meth c cells slots Q (wN cI cZ ad E C1 N) L pc st) : vV D tys A nL p l e R s m args below meth c cells slots Q (wN cI cZ ad E C2 N) L pc st := by subst h; exact k
