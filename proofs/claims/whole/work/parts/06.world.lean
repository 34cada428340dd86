/-! the cells of the class: E what was told (0 length, 1 width, 2 windy, 3 team, 4 pace, 5 breath, 6 start, 7 turn; 8: pitches, high, size), C the climb, T the trial (0 state, 1 camp, 2 toGo, 3 breath, 4 summit, 5 waits, 6 since, 7 wanted, 8 place; 9: hour), S the starts of the trial -/
abbrev mT : Type := Nat → Nat → Int32
def cS (C : mT) (k j : Nat) (x : Int32) : mT := fun q => bif Nat.beq q k then upd (C k) j x else C q
abbrev vtys (cI cZ : ClassId) : List (ClassId × FieldType) := [(cI, .int), (cZ, .boolean)]
def wR (cI cZ : ClassId) (ad : Nat → Nat) (E C T : mT) (S : Nat → Int32) : va_W := [(ad 0, .inr (3, [.ref (ad 1), .ref (ad 5), .ref (ad 11), .ref (ad 21)])),
  (ad 1, .inr (2, [.int (E 8 0), .int (E 8 1), .ref (ad 2), .ref (ad 3), .ref (ad 4)])),
  (ad 2, .inl (cI, 6, .inl (E 0))),
  (ad 3, .inl (cI, 6, .inl (E 1))),
  (ad 4, .inl (cZ, 200, .inl (E 2))),
  (ad 5, .inr (1, [.int (E 8 2), .ref (ad 6), .ref (ad 7), .ref (ad 8), .ref (ad 9), .ref (ad 10)])),
  (ad 6, .inl (cI, 12, .inl (E 3))),
  (ad 7, .inl (cI, 12, .inl (E 4))),
  (ad 8, .inl (cI, 12, .inl (E 5))),
  (ad 9, .inl (cI, 4, .inl (E 6))),
  (ad 10, .inl (cI, 4, .inl (E 7))),
  (ad 11, .inr (0, [.ref (ad 1), .ref (ad 5), .ref (ad 9), .int (C 9 0), .ref (ad 12), .ref (ad 13), .ref (ad 14), .ref (ad 15), .ref (ad 16), .ref (ad 17), .ref (ad 18), .ref (ad 19), .ref (ad 20)])),
  (ad 12, .inl (cI, 12, .inl (C 0))),
  (ad 13, .inl (cI, 12, .inl (C 1))),
  (ad 14, .inl (cI, 12, .inl (C 2))),
  (ad 15, .inl (cI, 12, .inl (C 3))),
  (ad 16, .inl (cI, 12, .inl (C 6))),
  (ad 17, .inl (cI, 12, .inl (C 4))),
  (ad 18, .inl (cI, 12, .inl (C 5))),
  (ad 19, .inl (cI, 12, .inl (C 7))),
  (ad 20, .inl (cI, 12, .inl (C 8))),
  (ad 21, .inr (0, [.ref (ad 1), .ref (ad 5), .ref (ad 31), .int (T 9 0), .ref (ad 22), .ref (ad 23), .ref (ad 24), .ref (ad 25), .ref (ad 26), .ref (ad 27), .ref (ad 28), .ref (ad 29), .ref (ad 30)])),
  (ad 22, .inl (cI, 12, .inl (T 0))),
  (ad 23, .inl (cI, 12, .inl (T 1))),
  (ad 24, .inl (cI, 12, .inl (T 2))),
  (ad 25, .inl (cI, 12, .inl (T 3))),
  (ad 26, .inl (cI, 12, .inl (T 6))),
  (ad 27, .inl (cI, 12, .inl (T 4))),
  (ad 28, .inl (cI, 12, .inl (T 5))),
  (ad 29, .inl (cI, 12, .inl (T 7))),
  (ad 30, .inl (cI, 12, .inl (T 8))),
  (ad 31, .inl (cI, 4, .inl S))]
/-- the same, seen from one of the two climbs: b 1 the climb, 2 the trial; C its own cells, X the other one's -/
def wB (cI cZ : ClassId) (ad : Nat → Nat) (b : Nat) (E C X : mT) (S : Nat → Int32) : va_W := bif Nat.beq b 1 then wR cI cZ ad E C X S else wR cI cZ ad E X C S
def pb (b : Nat) : Nat := bif Nat.beq b 1 then 11 else 21
def ps (b : Nat) : Nat := bif Nat.beq b 1 then 9 else 31
def Sb (b : Nat) (E : mT) (S : Nat → Int32) : Nat → Int32 := bif Nat.beq b 1 then E 6 else S
theorem lkO {cI cZ : ClassId} {ad : Nat → Nat} {b : Nat} {E C X : mT} {S : Nat → Int32} (hb : b = 1 ∨ b = 2) : (wB cI cZ ad b E C X S)[pb b]? = some (ad (pb b), .inr (0, [.ref (ad 1), .ref (ad 5), .ref (ad (ps b)), .int (C 9 0), .ref (ad (pb b + 1)), .ref (ad (pb b + 2)), .ref (ad (pb b + 3)), .ref (ad (pb b + 4)), .ref (ad (pb b + 5)), .ref (ad (pb b + 6)), .ref (ad (pb b + 7)), .ref (ad (pb b + 8)), .ref (ad (pb b + 9))])) := by rcases hb with rfl | rfl <;> rfl
theorem lkS {cI cZ : ClassId} {ad : Nat → Nat} {b : Nat} {E C X : mT} {S : Nat → Int32} (hb : b = 1 ∨ b = 2) : (wB cI cZ ad b E C X S)[ps b]? = some (ad (ps b), .inl (cI, 4, .inl (Sb b E S))) := by rcases hb with rfl | rfl <;> rfl
theorem lk_state {cI cZ : ClassId} {ad : Nat → Nat} {b : Nat} {E C X : mT} {S : Nat → Int32} (hb : b = 1 ∨ b = 2) : (wB cI cZ ad b E C X S)[pb b + 1]? = some (ad (pb b + 1), .inl (cI, 12, .inl (C 0))) := by rcases hb with rfl | rfl <;> rfl
theorem sk_state {cI cZ : ClassId} {ad : Nat → Nat} {b : Nat} {E C X : mT} {S : Nat → Int32} (hb : b = 1 ∨ b = 2) {j : Nat} {x : Int32} : (wB cI cZ ad b E C X S).set (pb b + 1) (ad (pb b + 1), .inl (cI, 12, .inl (upd (C 0) j x))) = wB cI cZ ad b E (cS C 0 j x) X S := by rcases hb with rfl | rfl <;> rfl
theorem lk_camp {cI cZ : ClassId} {ad : Nat → Nat} {b : Nat} {E C X : mT} {S : Nat → Int32} (hb : b = 1 ∨ b = 2) : (wB cI cZ ad b E C X S)[pb b + 2]? = some (ad (pb b + 2), .inl (cI, 12, .inl (C 1))) := by rcases hb with rfl | rfl <;> rfl
theorem sk_camp {cI cZ : ClassId} {ad : Nat → Nat} {b : Nat} {E C X : mT} {S : Nat → Int32} (hb : b = 1 ∨ b = 2) {j : Nat} {x : Int32} : (wB cI cZ ad b E C X S).set (pb b + 2) (ad (pb b + 2), .inl (cI, 12, .inl (upd (C 1) j x))) = wB cI cZ ad b E (cS C 1 j x) X S := by rcases hb with rfl | rfl <;> rfl
theorem lk_toGo {cI cZ : ClassId} {ad : Nat → Nat} {b : Nat} {E C X : mT} {S : Nat → Int32} (hb : b = 1 ∨ b = 2) : (wB cI cZ ad b E C X S)[pb b + 3]? = some (ad (pb b + 3), .inl (cI, 12, .inl (C 2))) := by rcases hb with rfl | rfl <;> rfl
theorem sk_toGo {cI cZ : ClassId} {ad : Nat → Nat} {b : Nat} {E C X : mT} {S : Nat → Int32} (hb : b = 1 ∨ b = 2) {j : Nat} {x : Int32} : (wB cI cZ ad b E C X S).set (pb b + 3) (ad (pb b + 3), .inl (cI, 12, .inl (upd (C 2) j x))) = wB cI cZ ad b E (cS C 2 j x) X S := by rcases hb with rfl | rfl <;> rfl
theorem lk_breath {cI cZ : ClassId} {ad : Nat → Nat} {b : Nat} {E C X : mT} {S : Nat → Int32} (hb : b = 1 ∨ b = 2) : (wB cI cZ ad b E C X S)[pb b + 4]? = some (ad (pb b + 4), .inl (cI, 12, .inl (C 3))) := by rcases hb with rfl | rfl <;> rfl
theorem sk_breath {cI cZ : ClassId} {ad : Nat → Nat} {b : Nat} {E C X : mT} {S : Nat → Int32} (hb : b = 1 ∨ b = 2) {j : Nat} {x : Int32} : (wB cI cZ ad b E C X S).set (pb b + 4) (ad (pb b + 4), .inl (cI, 12, .inl (upd (C 3) j x))) = wB cI cZ ad b E (cS C 3 j x) X S := by rcases hb with rfl | rfl <;> rfl
theorem lk_since {cI cZ : ClassId} {ad : Nat → Nat} {b : Nat} {E C X : mT} {S : Nat → Int32} (hb : b = 1 ∨ b = 2) : (wB cI cZ ad b E C X S)[pb b + 5]? = some (ad (pb b + 5), .inl (cI, 12, .inl (C 6))) := by rcases hb with rfl | rfl <;> rfl
theorem sk_since {cI cZ : ClassId} {ad : Nat → Nat} {b : Nat} {E C X : mT} {S : Nat → Int32} (hb : b = 1 ∨ b = 2) {j : Nat} {x : Int32} : (wB cI cZ ad b E C X S).set (pb b + 5) (ad (pb b + 5), .inl (cI, 12, .inl (upd (C 6) j x))) = wB cI cZ ad b E (cS C 6 j x) X S := by rcases hb with rfl | rfl <;> rfl
theorem lk_summit {cI cZ : ClassId} {ad : Nat → Nat} {b : Nat} {E C X : mT} {S : Nat → Int32} (hb : b = 1 ∨ b = 2) : (wB cI cZ ad b E C X S)[pb b + 6]? = some (ad (pb b + 6), .inl (cI, 12, .inl (C 4))) := by rcases hb with rfl | rfl <;> rfl
theorem sk_summit {cI cZ : ClassId} {ad : Nat → Nat} {b : Nat} {E C X : mT} {S : Nat → Int32} (hb : b = 1 ∨ b = 2) {j : Nat} {x : Int32} : (wB cI cZ ad b E C X S).set (pb b + 6) (ad (pb b + 6), .inl (cI, 12, .inl (upd (C 4) j x))) = wB cI cZ ad b E (cS C 4 j x) X S := by rcases hb with rfl | rfl <;> rfl
theorem lk_waits {cI cZ : ClassId} {ad : Nat → Nat} {b : Nat} {E C X : mT} {S : Nat → Int32} (hb : b = 1 ∨ b = 2) : (wB cI cZ ad b E C X S)[pb b + 7]? = some (ad (pb b + 7), .inl (cI, 12, .inl (C 5))) := by rcases hb with rfl | rfl <;> rfl
theorem sk_waits {cI cZ : ClassId} {ad : Nat → Nat} {b : Nat} {E C X : mT} {S : Nat → Int32} (hb : b = 1 ∨ b = 2) {j : Nat} {x : Int32} : (wB cI cZ ad b E C X S).set (pb b + 7) (ad (pb b + 7), .inl (cI, 12, .inl (upd (C 5) j x))) = wB cI cZ ad b E (cS C 5 j x) X S := by rcases hb with rfl | rfl <;> rfl
theorem lk_wanted {cI cZ : ClassId} {ad : Nat → Nat} {b : Nat} {E C X : mT} {S : Nat → Int32} (hb : b = 1 ∨ b = 2) : (wB cI cZ ad b E C X S)[pb b + 8]? = some (ad (pb b + 8), .inl (cI, 12, .inl (C 7))) := by rcases hb with rfl | rfl <;> rfl
theorem sk_wanted {cI cZ : ClassId} {ad : Nat → Nat} {b : Nat} {E C X : mT} {S : Nat → Int32} (hb : b = 1 ∨ b = 2) {j : Nat} {x : Int32} : (wB cI cZ ad b E C X S).set (pb b + 8) (ad (pb b + 8), .inl (cI, 12, .inl (upd (C 7) j x))) = wB cI cZ ad b E (cS C 7 j x) X S := by rcases hb with rfl | rfl <;> rfl
theorem lk_place {cI cZ : ClassId} {ad : Nat → Nat} {b : Nat} {E C X : mT} {S : Nat → Int32} (hb : b = 1 ∨ b = 2) : (wB cI cZ ad b E C X S)[pb b + 9]? = some (ad (pb b + 9), .inl (cI, 12, .inl (C 8))) := by rcases hb with rfl | rfl <;> rfl
theorem sk_place {cI cZ : ClassId} {ad : Nat → Nat} {b : Nat} {E C X : mT} {S : Nat → Int32} (hb : b = 1 ∨ b = 2) {j : Nat} {x : Int32} : (wB cI cZ ad b E C X S).set (pb b + 9) (ad (pb b + 9), .inl (cI, 12, .inl (upd (C 8) j x))) = wB cI cZ ad b E (cS C 8 j x) X S := by rcases hb with rfl | rfl <;> rfl
theorem sp_hour {cI cZ : ClassId} {ad : Nat → Nat} {b : Nat} {E C X : mT} {S : Nat → Int32} (hb : b = 1 ∨ b = 2) {x : Int32} : (wB cI cZ ad b E C X S).set (pb b) (ad (pb b), .inr (0, [.ref (ad 1), .ref (ad 5), .ref (ad (ps b)), .int x, .ref (ad (pb b + 1)), .ref (ad (pb b + 2)), .ref (ad (pb b + 3)), .ref (ad (pb b + 4)), .ref (ad (pb b + 5)), .ref (ad (pb b + 6)), .ref (ad (pb b + 7)), .ref (ad (pb b + 8)), .ref (ad (pb b + 9))])) = wB cI cZ ad b E (cS C 9 0 x) X S := by rcases hb with rfl | rfl <;> rfl
theorem lk_length {cI cZ : ClassId} {ad : Nat → Nat} {b : Nat} {E C X : mT} {S : Nat → Int32} (hb : b = 1 ∨ b = 2) : (wB cI cZ ad b E C X S)[2]? = some (ad 2, .inl (cI, 6, .inl (E 0))) := by rcases hb with rfl | rfl <;> rfl
theorem lk_width {cI cZ : ClassId} {ad : Nat → Nat} {b : Nat} {E C X : mT} {S : Nat → Int32} (hb : b = 1 ∨ b = 2) : (wB cI cZ ad b E C X S)[3]? = some (ad 3, .inl (cI, 6, .inl (E 1))) := by rcases hb with rfl | rfl <;> rfl
theorem lk_windy {cI cZ : ClassId} {ad : Nat → Nat} {b : Nat} {E C X : mT} {S : Nat → Int32} (hb : b = 1 ∨ b = 2) : (wB cI cZ ad b E C X S)[4]? = some (ad 4, .inl (cZ, 200, .inl (E 2))) := by rcases hb with rfl | rfl <;> rfl
theorem lk_team {cI cZ : ClassId} {ad : Nat → Nat} {b : Nat} {E C X : mT} {S : Nat → Int32} (hb : b = 1 ∨ b = 2) : (wB cI cZ ad b E C X S)[6]? = some (ad 6, .inl (cI, 12, .inl (E 3))) := by rcases hb with rfl | rfl <;> rfl
theorem lk_pace {cI cZ : ClassId} {ad : Nat → Nat} {b : Nat} {E C X : mT} {S : Nat → Int32} (hb : b = 1 ∨ b = 2) : (wB cI cZ ad b E C X S)[7]? = some (ad 7, .inl (cI, 12, .inl (E 4))) := by rcases hb with rfl | rfl <;> rfl
theorem lk_pbreath {cI cZ : ClassId} {ad : Nat → Nat} {b : Nat} {E C X : mT} {S : Nat → Int32} (hb : b = 1 ∨ b = 2) : (wB cI cZ ad b E C X S)[8]? = some (ad 8, .inl (cI, 12, .inl (E 5))) := by rcases hb with rfl | rfl <;> rfl
theorem lk_start {cI cZ : ClassId} {ad : Nat → Nat} {b : Nat} {E C X : mT} {S : Nat → Int32} (hb : b = 1 ∨ b = 2) : (wB cI cZ ad b E C X S)[9]? = some (ad 9, .inl (cI, 4, .inl (E 6))) := by rcases hb with rfl | rfl <;> rfl
theorem lk_turn {cI cZ : ClassId} {ad : Nat → Nat} {b : Nat} {E C X : mT} {S : Nat → Int32} (hb : b = 1 ∨ b = 2) : (wB cI cZ ad b E C X S)[10]? = some (ad 10, .inl (cI, 4, .inl (E 7))) := by rcases hb with rfl | rfl <;> rfl
theorem lkRopes {cI cZ : ClassId} {ad : Nat → Nat} {b : Nat} {E C X : mT} {S : Nat → Int32} (hb : b = 1 ∨ b = 2) : (wB cI cZ ad b E C X S)[1]? = some (ad 1, .inr (2, [.int (E 8 0), .int (E 8 1), .ref (ad 2), .ref (ad 3), .ref (ad 4)])) := by rcases hb with rfl | rfl <;> rfl
theorem lkParty {cI cZ : ClassId} {ad : Nat → Nat} {b : Nat} {E C X : mT} {S : Nat → Int32} (hb : b = 1 ∨ b = 2) : (wB cI cZ ad b E C X S)[5]? = some (ad 5, .inr (1, [.int (E 8 2), .ref (ad 6), .ref (ad 7), .ref (ad 8), .ref (ad 9), .ref (ad 10)])) := by rcases hb with rfl | rfl <;> rfl
theorem wk_length {cI cZ : ClassId} {ad : Nat → Nat} {E C T : mT} {S : Nat → Int32} {j : Nat} {x : Int32} : (wR cI cZ ad E C T S).set 2 (ad 2, .inl (cI, 6, .inl (upd (E 0) j x))) = wR cI cZ ad (cS E 0 j x) C T S := rfl
theorem wk_width {cI cZ : ClassId} {ad : Nat → Nat} {E C T : mT} {S : Nat → Int32} {j : Nat} {x : Int32} : (wR cI cZ ad E C T S).set 3 (ad 3, .inl (cI, 6, .inl (upd (E 1) j x))) = wR cI cZ ad (cS E 1 j x) C T S := rfl
theorem wk_windy {cI cZ : ClassId} {ad : Nat → Nat} {E C T : mT} {S : Nat → Int32} {j : Nat} {x : Int32} : (wR cI cZ ad E C T S).set 4 (ad 4, .inl (cZ, 200, .inl (upd (E 2) j x))) = wR cI cZ ad (cS E 2 j x) C T S := rfl
theorem wk_team {cI cZ : ClassId} {ad : Nat → Nat} {E C T : mT} {S : Nat → Int32} {j : Nat} {x : Int32} : (wR cI cZ ad E C T S).set 6 (ad 6, .inl (cI, 12, .inl (upd (E 3) j x))) = wR cI cZ ad (cS E 3 j x) C T S := rfl
theorem wk_pace {cI cZ : ClassId} {ad : Nat → Nat} {E C T : mT} {S : Nat → Int32} {j : Nat} {x : Int32} : (wR cI cZ ad E C T S).set 7 (ad 7, .inl (cI, 12, .inl (upd (E 4) j x))) = wR cI cZ ad (cS E 4 j x) C T S := rfl
theorem wk_pbreath {cI cZ : ClassId} {ad : Nat → Nat} {E C T : mT} {S : Nat → Int32} {j : Nat} {x : Int32} : (wR cI cZ ad E C T S).set 8 (ad 8, .inl (cI, 12, .inl (upd (E 5) j x))) = wR cI cZ ad (cS E 5 j x) C T S := rfl
theorem wk_start {cI cZ : ClassId} {ad : Nat → Nat} {E C T : mT} {S : Nat → Int32} {j : Nat} {x : Int32} : (wR cI cZ ad E C T S).set 9 (ad 9, .inl (cI, 4, .inl (upd (E 6) j x))) = wR cI cZ ad (cS E 6 j x) C T S := rfl
theorem wk_turn {cI cZ : ClassId} {ad : Nat → Nat} {E C T : mT} {S : Nat → Int32} {j : Nat} {x : Int32} : (wR cI cZ ad E C T S).set 10 (ad 10, .inl (cI, 4, .inl (upd (E 7) j x))) = wR cI cZ ad (cS E 7 j x) C T S := rfl
theorem wk_tstart {cI cZ : ClassId} {ad : Nat → Nat} {E C T : mT} {S : Nat → Int32} {j : Nat} {x : Int32} : (wR cI cZ ad E C T S).set 31 (ad 31, .inl (cI, 4, .inl (upd S j x))) = wR cI cZ ad E C T (upd S j x) := rfl
theorem wp_pitches {cI cZ : ClassId} {ad : Nat → Nat} {E C T : mT} {S : Nat → Int32} {x : Int32} : (wR cI cZ ad E C T S).set 1 (ad 1, .inr (2, [.int x, .int (E 8 1), .ref (ad 2), .ref (ad 3), .ref (ad 4)])) = wR cI cZ ad (cS E 8 0 x) C T S := rfl
theorem wp_high {cI cZ : ClassId} {ad : Nat → Nat} {E C T : mT} {S : Nat → Int32} {x : Int32} : (wR cI cZ ad E C T S).set 1 (ad 1, .inr (2, [.int (E 8 0), .int x, .ref (ad 2), .ref (ad 3), .ref (ad 4)])) = wR cI cZ ad (cS E 8 1 x) C T S := rfl
theorem wp_size {cI cZ : ClassId} {ad : Nat → Nat} {E C T : mT} {S : Nat → Int32} {x : Int32} : (wR cI cZ ad E C T S).set 5 (ad 5, .inr (1, [.int x, .ref (ad 6), .ref (ad 7), .ref (ad 8), .ref (ad 9), .ref (ad 10)])) = wR cI cZ ad (cS E 8 2 x) C T S := rfl
/-! the cells of the reference: N 0 length, 1 width, 2 windy, 3 team, 4 pace, 5 full, 6 start, 7 turn, 8 now, 9 aside, 10 starts; 11: pitches, high, climbers, hour, thrown, three tried -/
def wM (cI cZ : ClassId) (ad : Nat → Nat) (N : mT) : va_W := [(ad 0, .inr (4, [.int (N 11 0), .ref (ad 1), .ref (ad 2), .int (N 11 1), .int (N 11 3), .ref (ad 3), .ref (ad 4), .ref (ad 5), .int (N 11 2), .ref (ad 6), .ref (ad 7), .ref (ad 8), .ref (ad 9), .ref (ad 10), .ref (ad 11), .int (N 11 4), .int (N 11 5), .int (N 11 6), .int (N 11 7)])),
  (ad 1, .inl (cI, 7, .inl (N 0))),
  (ad 2, .inl (cI, 7, .inl (N 1))),
  (ad 3, .inl (cZ, 201, .inl (N 2))),
  (ad 4, .inl (cI, 4, .inl (N 6))),
  (ad 5, .inl (cI, 4, .inl (N 7))),
  (ad 6, .inl (cI, 12, .inl (N 3))),
  (ad 7, .inl (cI, 12, .inl (N 4))),
  (ad 8, .inl (cI, 12, .inl (N 5))),
  (ad 9, .inl (cI, 84, .inl (N 8))),
  (ad 10, .inl (cI, 84, .inl (N 9))),
  (ad 11, .inl (cI, 4, .inl (N 10)))]
theorem mk_length {cI cZ : ClassId} {ad : Nat → Nat} {N : mT} {j : Nat} {x : Int32} : (wM cI cZ ad N).set 1 (ad 1, .inl (cI, 7, .inl (upd (N 0) j x))) = wM cI cZ ad (cS N 0 j x) := rfl
theorem mk_width {cI cZ : ClassId} {ad : Nat → Nat} {N : mT} {j : Nat} {x : Int32} : (wM cI cZ ad N).set 2 (ad 2, .inl (cI, 7, .inl (upd (N 1) j x))) = wM cI cZ ad (cS N 1 j x) := rfl
theorem mk_windy {cI cZ : ClassId} {ad : Nat → Nat} {N : mT} {j : Nat} {x : Int32} : (wM cI cZ ad N).set 3 (ad 3, .inl (cZ, 201, .inl (upd (N 2) j x))) = wM cI cZ ad (cS N 2 j x) := rfl
theorem mk_start {cI cZ : ClassId} {ad : Nat → Nat} {N : mT} {j : Nat} {x : Int32} : (wM cI cZ ad N).set 4 (ad 4, .inl (cI, 4, .inl (upd (N 6) j x))) = wM cI cZ ad (cS N 6 j x) := rfl
theorem mk_turn {cI cZ : ClassId} {ad : Nat → Nat} {N : mT} {j : Nat} {x : Int32} : (wM cI cZ ad N).set 5 (ad 5, .inl (cI, 4, .inl (upd (N 7) j x))) = wM cI cZ ad (cS N 7 j x) := rfl
theorem mk_team {cI cZ : ClassId} {ad : Nat → Nat} {N : mT} {j : Nat} {x : Int32} : (wM cI cZ ad N).set 6 (ad 6, .inl (cI, 12, .inl (upd (N 3) j x))) = wM cI cZ ad (cS N 3 j x) := rfl
theorem mk_pace {cI cZ : ClassId} {ad : Nat → Nat} {N : mT} {j : Nat} {x : Int32} : (wM cI cZ ad N).set 7 (ad 7, .inl (cI, 12, .inl (upd (N 4) j x))) = wM cI cZ ad (cS N 4 j x) := rfl
theorem mk_full {cI cZ : ClassId} {ad : Nat → Nat} {N : mT} {j : Nat} {x : Int32} : (wM cI cZ ad N).set 8 (ad 8, .inl (cI, 12, .inl (upd (N 5) j x))) = wM cI cZ ad (cS N 5 j x) := rfl
theorem mk_now {cI cZ : ClassId} {ad : Nat → Nat} {N : mT} {j : Nat} {x : Int32} : (wM cI cZ ad N).set 9 (ad 9, .inl (cI, 84, .inl (upd (N 8) j x))) = wM cI cZ ad (cS N 8 j x) := rfl
theorem mk_aside {cI cZ : ClassId} {ad : Nat → Nat} {N : mT} {j : Nat} {x : Int32} : (wM cI cZ ad N).set 10 (ad 10, .inl (cI, 84, .inl (upd (N 9) j x))) = wM cI cZ ad (cS N 9 j x) := rfl
theorem mk_starts {cI cZ : ClassId} {ad : Nat → Nat} {N : mT} {j : Nat} {x : Int32} : (wM cI cZ ad N).set 11 (ad 11, .inl (cI, 4, .inl (upd (N 10) j x))) = wM cI cZ ad (cS N 10 j x) := rfl
theorem mp_pitches {cI cZ : ClassId} {ad : Nat → Nat} {N : mT} {x : Int32} : (wM cI cZ ad N).set 0 (ad 0, .inr (4, [.int x, .ref (ad 1), .ref (ad 2), .int (N 11 1), .int (N 11 3), .ref (ad 3), .ref (ad 4), .ref (ad 5), .int (N 11 2), .ref (ad 6), .ref (ad 7), .ref (ad 8), .ref (ad 9), .ref (ad 10), .ref (ad 11), .int (N 11 4), .int (N 11 5), .int (N 11 6), .int (N 11 7)])) = wM cI cZ ad (cS N 11 0 x) := rfl
theorem mp_high {cI cZ : ClassId} {ad : Nat → Nat} {N : mT} {x : Int32} : (wM cI cZ ad N).set 0 (ad 0, .inr (4, [.int (N 11 0), .ref (ad 1), .ref (ad 2), .int x, .int (N 11 3), .ref (ad 3), .ref (ad 4), .ref (ad 5), .int (N 11 2), .ref (ad 6), .ref (ad 7), .ref (ad 8), .ref (ad 9), .ref (ad 10), .ref (ad 11), .int (N 11 4), .int (N 11 5), .int (N 11 6), .int (N 11 7)])) = wM cI cZ ad (cS N 11 1 x) := rfl
theorem mp_hour {cI cZ : ClassId} {ad : Nat → Nat} {N : mT} {x : Int32} : (wM cI cZ ad N).set 0 (ad 0, .inr (4, [.int (N 11 0), .ref (ad 1), .ref (ad 2), .int (N 11 1), .int x, .ref (ad 3), .ref (ad 4), .ref (ad 5), .int (N 11 2), .ref (ad 6), .ref (ad 7), .ref (ad 8), .ref (ad 9), .ref (ad 10), .ref (ad 11), .int (N 11 4), .int (N 11 5), .int (N 11 6), .int (N 11 7)])) = wM cI cZ ad (cS N 11 3 x) := rfl
theorem mp_climbers {cI cZ : ClassId} {ad : Nat → Nat} {N : mT} {x : Int32} : (wM cI cZ ad N).set 0 (ad 0, .inr (4, [.int (N 11 0), .ref (ad 1), .ref (ad 2), .int (N 11 1), .int (N 11 3), .ref (ad 3), .ref (ad 4), .ref (ad 5), .int x, .ref (ad 6), .ref (ad 7), .ref (ad 8), .ref (ad 9), .ref (ad 10), .ref (ad 11), .int (N 11 4), .int (N 11 5), .int (N 11 6), .int (N 11 7)])) = wM cI cZ ad (cS N 11 2 x) := rfl
theorem mp_thrown {cI cZ : ClassId} {ad : Nat → Nat} {N : mT} {x : Int32} : (wM cI cZ ad N).set 0 (ad 0, .inr (4, [.int (N 11 0), .ref (ad 1), .ref (ad 2), .int (N 11 1), .int (N 11 3), .ref (ad 3), .ref (ad 4), .ref (ad 5), .int (N 11 2), .ref (ad 6), .ref (ad 7), .ref (ad 8), .ref (ad 9), .ref (ad 10), .ref (ad 11), .int x, .int (N 11 5), .int (N 11 6), .int (N 11 7)])) = wM cI cZ ad (cS N 11 4 x) := rfl
theorem mp_triedSummits {cI cZ : ClassId} {ad : Nat → Nat} {N : mT} {x : Int32} : (wM cI cZ ad N).set 0 (ad 0, .inr (4, [.int (N 11 0), .ref (ad 1), .ref (ad 2), .int (N 11 1), .int (N 11 3), .ref (ad 3), .ref (ad 4), .ref (ad 5), .int (N 11 2), .ref (ad 6), .ref (ad 7), .ref (ad 8), .ref (ad 9), .ref (ad 10), .ref (ad 11), .int (N 11 4), .int x, .int (N 11 6), .int (N 11 7)])) = wM cI cZ ad (cS N 11 5 x) := rfl
theorem mp_triedStranded {cI cZ : ClassId} {ad : Nat → Nat} {N : mT} {x : Int32} : (wM cI cZ ad N).set 0 (ad 0, .inr (4, [.int (N 11 0), .ref (ad 1), .ref (ad 2), .int (N 11 1), .int (N 11 3), .ref (ad 3), .ref (ad 4), .ref (ad 5), .int (N 11 2), .ref (ad 6), .ref (ad 7), .ref (ad 8), .ref (ad 9), .ref (ad 10), .ref (ad 11), .int (N 11 4), .int (N 11 5), .int x, .int (N 11 7)])) = wM cI cZ ad (cS N 11 6 x) := rfl
theorem mp_triedWaits {cI cZ : ClassId} {ad : Nat → Nat} {N : mT} {x : Int32} : (wM cI cZ ad N).set 0 (ad 0, .inr (4, [.int (N 11 0), .ref (ad 1), .ref (ad 2), .int (N 11 1), .int (N 11 3), .ref (ad 3), .ref (ad 4), .ref (ad 5), .int (N 11 2), .ref (ad 6), .ref (ad 7), .ref (ad 8), .ref (ad 9), .ref (ad 10), .ref (ad 11), .int (N 11 4), .int (N 11 5), .int (N 11 6), .int x])) = wM cI cZ ad (cS N 11 7 x) := rfl
/-! loops -/
def vlp {α : Type} (f : Nat → α → α) (n i : Nat) (a : α) : α := (List.range' i (n - i)).foldl (fun a i => f i a) a
theorem vlp_done {α : Type} {f : Nat → α → α} {n i : Nat} {a : α} (h : n ≤ i) : vlp f n i a = a := by simp [vlp, Nat.sub_eq_zero_of_le h]
theorem vlp_step {α : Type} {f : Nat → α → α} {n i : Nat} {a : α} (h : i < n) : vlp f n i a = vlp f n (i + 1) (f i a) := by
  unfold vlp
  rw [show n - i = (n - (i + 1)) + 1 by omega, List.range'_succ]
  rfl
theorem vone : Int32.ofInt 1 = (1 : Int32) := by decide
theorem vinc (j : Nat) : nI j + Int32.ofInt 1 = nI (j + 1) := by rw [vone]; exact nI_1 j
theorem vinc1 (x : Int32) : x + Int32.ofInt 1 = x + 1 := by rw [vone]
theorem vdec (j : Nat) : nI (j + 1) + Int32.ofInt (-1) = nI j := by rw [show Int32.ofInt (-1) = (-1 : Int32) by decide]; exact pk_m1 j
theorem cS_same {C : mT} {k j : Nat} {x : Int32} : cS C k j x k j = x := by simp [cS, upd]
theorem vix_lt {i n : Nat} (h : nI i < nI n) (hn : n < 2 ^ 31) (hi : i ≤ n) : i < n := (nI_ltI (by omega) (by omega)).mp h
theorem vix_ge {i n : Nat} (h : ¬ nI i < nI n) (hn : n < 2 ^ 31) (hi : i ≤ n) : i = n := by
  rcases Nat.lt_or_ge i n with q | q
  · exact absurd (nI_lt q hn) h
  · omega
