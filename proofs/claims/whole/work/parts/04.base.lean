/-! numbers: ints and longs as Int, with their wrap -/
def w32 (x : Int) : Int := (x + 2147483648) % 4294967296 - 2147483648
def w64 (x : Int) : Int := (x + 9223372036854775808) % 18446744073709551616 - 9223372036854775808
def R32 (x : Int) : Prop := -2147483648 ≤ x ∧ x < 2147483648
def R64 (x : Int) : Prop := -9223372036854775808 ≤ x ∧ x < 9223372036854775808
theorem w32_R (x : Int) : R32 (w32 x) := by unfold R32 w32; omega
theorem w64_R (x : Int) : R64 (w64 x) := by unfold R64 w64; omega
theorem w32_id {x : Int} (h : R32 x) : w32 x = x := by unfold R32 at h; unfold w32; omega
theorem w64_id {x : Int} (h : R64 x) : w64 x = x := by unfold R64 at h; unfold w64; omega
theorem R32.to64 {x : Int} (h : R32 x) : R64 x := by unfold R32 at h; unfold R64; omega
theorem w32_bmod (x : Int) : w32 x = x.bmod 4294967296 := by
  unfold w32
  rw [Int.bmod_def]
  split <;> omega
theorem w64_bmod (x : Int) : w64 x = x.bmod 18446744073709551616 := by
  unfold w64
  rw [Int.bmod_def]
  split <;> omega
theorem o32 (x : Int) : Int32.ofInt (w32 x) = Int32.ofInt x := by
  apply Int32.toInt_inj.mp
  rw [Int32.toInt_ofInt, Int32.toInt_ofInt, w32_bmod]
  exact Int.bmod_bmod
theorem o64 (x : Int) : Int64.ofInt (w64 x) = Int64.ofInt x := by
  apply Int64.toInt_inj.mp
  rw [Int64.toInt_ofInt, Int64.toInt_ofInt, w64_bmod]
  exact Int.bmod_bmod
theorem i32 {x : Int} (h : R32 x) : (Int32.ofInt x).toInt = x := by
  refine Int32.toInt_ofInt_of_le ?_ ?_
  · have := h.1; omega
  · have := h.2; omega
theorem i64 {x : Int} (h : R64 x) : (Int64.ofInt x).toInt = x := by
  refine Int64.toInt_ofInt_of_le ?_ ?_
  · have := h.1; omega
  · have := h.2; omega
theorem R32_of (x : Int32) : R32 x.toInt := by
  have h1 := x.le_toInt
  have h2 := x.toInt_lt
  unfold R32; omega
theorem R64_of (x : Int64) : R64 x.toInt := by
  have h1 := x.le_toInt
  have h2 := x.toInt_lt
  unfold R64; omega
/-- what an Int32 is, is known by its Int -/
theorem o32_eq {x : Int32} {y : Int} (h : x.toInt = y) : x = Int32.ofInt y := by rw [← h, Int32.ofInt_toInt]
theorem o64_eq {x : Int64} {y : Int} (h : x.toInt = y) : x = Int64.ofInt y := by rw [← h, Int64.ofInt_toInt]
theorem lt32 {a b : Int} (ha : R32 a) (hb : R32 b) : Int32.ofInt a < Int32.ofInt b ↔ a < b := by rw [Int32.lt_iff_toInt_lt, i32 ha, i32 hb]
theorem le32 {a b : Int} (ha : R32 a) (hb : R32 b) : Int32.ofInt a ≤ Int32.ofInt b ↔ a ≤ b := by rw [Int32.le_iff_toInt_le, i32 ha, i32 hb]
theorem eq32 {a b : Int} (ha : R32 a) (hb : R32 b) : Int32.ofInt a = Int32.ofInt b ↔ a = b := by rw [← Int32.toInt_inj, i32 ha, i32 hb]
theorem lt64 {a b : Int} (ha : R64 a) (hb : R64 b) : Int64.ofInt a < Int64.ofInt b ↔ a < b := by rw [Int64.lt_iff_toInt_lt, i64 ha, i64 hb]
theorem eq64 {a b : Int} (ha : R64 a) (hb : R64 b) : Int64.ofInt a = Int64.ofInt b ↔ a = b := by rw [← Int64.toInt_inj, i64 ha, i64 hb]
theorem zero32 : Int32.ofInt 0 = 0 := rfl
theorem R32_lit {x : Int} (h : (decide (-2147483648 ≤ x) && decide (x < 2147483648)) = true) : R32 x := by
  simp only [Bool.and_eq_true, decide_eq_true_eq] at h
  exact h
theorem R64_lit {x : Int} (h : (decide (-9223372036854775808 ≤ x) && decide (x < 9223372036854775808)) = true) : R64 x := by
  simp only [Bool.and_eq_true, decide_eq_true_eq] at h
  exact h
/-- bit operations of ints and longs -/
def iand (a b : Int) : Int := (Int32.ofInt a &&& Int32.ofInt b).toInt
def ior (a b : Int) : Int := (Int32.ofInt a ||| Int32.ofInt b).toInt
def ishl (a b : Int) : Int := (Int32.ofInt a <<< (Int32.ofInt b &&& 31)).toInt
def ishr (a b : Int) : Int := (Int32.ofInt a >>> (Int32.ofInt b &&& 31)).toInt
def land (a b : Int) : Int := (Int64.ofInt a &&& Int64.ofInt b).toInt
def lxor (a b : Int) : Int := (Int64.ofInt a ^^^ Int64.ofInt b).toInt
def lshl (a b : Int) : Int := (Int64.ofInt a <<< ((Int32.ofInt b).toInt64 &&& 63)).toInt
def lshr (a b : Int) : Int := (Int64.ofInt a >>> ((Int32.ofInt b).toInt64 &&& 63)).toInt
def ib8 (a : Int) : Int := (a + 128) % 256 - 128
def ic16 (a : Int) : Int := a % 65536
def lcm (a b : Int) : Int := if a < b then -1 else if a = b then 0 else 1

/-! places of the heap by name: kind, number, index -/
abbrev Nm : Type := Nat × Nat × Nat
abbrev Vv : Type := Int ⊕ Int ⊕ Nm ⊕ Unit
abbrev vi (x : Int) : Vv := .inl x
abbrev vl (x : Int) : Vv := .inr (.inl x)
abbrev vr (n : Nm) : Vv := .inr (.inr (.inl n))
abbrev vn : Vv := .inr (.inr (.inr ()))
abbrev Mm : Type := Nm → Int → Int
abbrev Nn : Type := Nm → Int → Nm
/-- the places in the order in which they are made -/
def nmL : List Nm := [(3, 0, 0), (4, 0, 0), (5, 0, 0), (6, 0, 0), (7, 0, 0), (8, 0, 0), (9, 0, 0), (10, 0, 0), (11, 0, 0), (12, 0, 0), (13, 0, 0), (15, 0, 34), (16, 0, 34), (15, 0, 35), (16, 0, 35), (15, 0, 36), (16, 0, 36), (15, 0, 37), (16, 0, 37), (15, 0, 38), (16, 0, 38), (14, 0, 0), (15, 0, 0), (16, 0, 0), (15, 0, 15), (16, 0, 15), (15, 0, 1), (16, 0, 1), (15, 0, 16), (16, 0, 16), (15, 0, 2), (16, 0, 2), (15, 0, 17), (16, 0, 17), (15, 0, 3), (16, 0, 3), (15, 0, 18), (16, 0, 18), (15, 0, 4), (16, 0, 4), (15, 0, 19), (16, 0, 19), (15, 0, 5), (16, 0, 5), (15, 0, 20), (16, 0, 20), (15, 0, 6), (16, 0, 6), (15, 0, 21), (16, 0, 21), (15, 0, 7), (16, 0, 7), (15, 0, 22), (16, 0, 22), (15, 0, 8), (16, 0, 8), (15, 0, 23), (16, 0, 23), (15, 0, 9), (16, 0, 9), (15, 0, 24), (16, 0, 24), (15, 0, 10), (16, 0, 10), (15, 0, 25), (16, 0, 25), (15, 0, 11), (16, 0, 11), (15, 0, 26), (16, 0, 26), (15, 0, 12), (16, 0, 12), (15, 0, 27), (16, 0, 27), (15, 0, 13), (16, 0, 13), (15, 0, 28), (16, 0, 28), (15, 0, 14), (16, 0, 14), (15, 0, 29), (16, 0, 29), (15, 0, 30), (16, 0, 30), (15, 0, 31), (16, 0, 31), (15, 0, 32), (16, 0, 32), (15, 0, 33), (16, 0, 33), (17, 0, 0), (7, 1, 0), (8, 1, 0), (9, 1, 0), (10, 1, 0), (11, 1, 0), (12, 1, 0), (13, 1, 0), (15, 1, 34), (16, 1, 34), (15, 1, 35), (16, 1, 35), (15, 1, 36), (16, 1, 36), (15, 1, 37), (16, 1, 37), (15, 1, 38), (16, 1, 38), (14, 1, 0), (15, 1, 0), (16, 1, 0), (15, 1, 15), (16, 1, 15), (15, 1, 1), (16, 1, 1), (15, 1, 16), (16, 1, 16), (15, 1, 2), (16, 1, 2), (15, 1, 17), (16, 1, 17), (15, 1, 3), (16, 1, 3), (15, 1, 18), (16, 1, 18), (15, 1, 4), (16, 1, 4), (15, 1, 19), (16, 1, 19), (15, 1, 5), (16, 1, 5), (15, 1, 20), (16, 1, 20), (15, 1, 6), (16, 1, 6), (15, 1, 21), (16, 1, 21), (15, 1, 7), (16, 1, 7), (15, 1, 22), (16, 1, 22), (15, 1, 8), (16, 1, 8), (15, 1, 23), (16, 1, 23), (15, 1, 9), (16, 1, 9), (15, 1, 24), (16, 1, 24), (15, 1, 10), (16, 1, 10), (15, 1, 25), (16, 1, 25), (15, 1, 11), (16, 1, 11), (15, 1, 26), (16, 1, 26), (15, 1, 12), (16, 1, 12), (15, 1, 27), (16, 1, 27), (15, 1, 13), (16, 1, 13), (15, 1, 28), (16, 1, 28), (15, 1, 14), (16, 1, 14), (15, 1, 29), (16, 1, 29), (15, 1, 30), (16, 1, 30), (15, 1, 31), (16, 1, 31), (15, 1, 32), (16, 1, 32), (15, 1, 33), (16, 1, 33), (18, 0, 0), (19, 0, 0), (19, 0, 1), (19, 0, 2), (19, 0, 3), (19, 0, 4), (19, 0, 5), (19, 0, 6), (19, 0, 7), (19, 0, 8), (19, 0, 9), (19, 0, 10), (20, 0, 0), (21, 0, 0), (22, 0, 0), (23, 0, 0), (24, 0, 0), (25, 0, 0), (26, 0, 0), (27, 0, 0), (28, 0, 0), (18, 1, 0), (19, 1, 0), (19, 1, 1), (19, 1, 2), (19, 1, 3), (19, 1, 4), (19, 1, 5), (19, 1, 6), (19, 1, 7), (19, 1, 8), (19, 1, 9), (19, 1, 10), (18, 2, 0), (19, 2, 0), (19, 2, 1), (19, 2, 2), (19, 2, 3), (19, 2, 4), (19, 2, 5), (19, 2, 6), (19, 2, 7), (19, 2, 8), (19, 2, 9), (19, 2, 10), (29, 0, 0), (30, 0, 4), (30, 0, 7), (30, 0, 8), (30, 0, 9), (30, 0, 10), (30, 0, 11), (30, 0, 12), (30, 0, 13), (30, 0, 24), (30, 0, 25), (30, 0, 27), (30, 0, 28), (30, 0, 29), (30, 0, 30), (30, 0, 31), (30, 0, 32), (30, 0, 33), (30, 0, 35), (30, 0, 36), (30, 0, 38), (30, 0, 39), (30, 0, 40), (30, 0, 41), (30, 0, 43), (30, 0, 44), (30, 0, 45), (30, 0, 46), (30, 0, 49), (30, 0, 51), (31, 0, 0)]
/-- what a place is: an object of a class (below 20) and its fields; 20 bytes, 21 ints, 22 longs, 23 booleans, 24 Forms, and how many -/
def shp (n : Nm) : Nat × Nat := bif Nat.beq n.1 3 then (7, 12) else bif Nat.beq n.1 6 then (4, 13) else bif Nat.beq n.1 7 then (1, 14) else bif Nat.beq n.1 15 then (0, 3) else bif Nat.beq n.1 17 then (2, 8) else bif Nat.beq n.1 18 then (3, 13) else bif Nat.beq n.1 23 then (6, 5) else bif Nat.beq n.1 26 then (5, 2) else bif Nat.beq n.1 29 then (8, 52) else bif Nat.beq n.1 4 then (20, 500) else bif Nat.beq n.1 5 then (21, 15) else bif Nat.beq n.1 8 then (21, 15) else bif Nat.beq n.1 9 then (21, 63) else bif Nat.beq n.1 10 then (21, 63) else bif Nat.beq n.1 11 then (24, 15) else bif Nat.beq n.1 12 then (24, 15) else bif Nat.beq n.1 13 then (24, 4) else bif Nat.beq n.1 14 then (24, 4) else bif Nat.beq n.1 16 then (22, 63) else bif Nat.beq n.1 20 then (21, 243) else bif Nat.beq n.1 21 then (21, 243) else bif Nat.beq n.1 22 then (22, 81) else bif Nat.beq n.1 24 then (21, 15) else bif Nat.beq n.1 25 then (21, 15) else bif Nat.beq n.1 27 then (22, 15) else bif Nat.beq n.1 28 then (22, 15) else bif Nat.beq n.1 31 then (22, 1) else bif Nat.beq n.1 19 then (bif Nat.beq n.2.2 6 then (22, 15) else bif Nat.beq n.2.2 8 then (21, 60) else bif Nat.beq n.2.2 9 then (21, 60) else bif Nat.beq n.2.2 10 then (21, 3) else (21, 15)) else bif Nat.beq n.1 30 then (bif Nat.beq n.2.2 4 then (21, 500) else bif Nat.beq n.2.2 7 then (21, 30) else bif Nat.beq n.2.2 8 then (21, 30) else bif Nat.beq n.2.2 9 then (21, 30) else bif Nat.beq n.2.2 10 then (21, 30) else bif Nat.beq n.2.2 11 then (21, 120) else bif Nat.beq n.2.2 12 then (21, 120) else bif Nat.beq n.2.2 13 then (21, 15) else bif Nat.beq n.2.2 24 then (21, 15) else bif Nat.beq n.2.2 25 then (21, 15) else bif Nat.beq n.2.2 27 then (22, 15) else bif Nat.beq n.2.2 28 then (21, 15) else bif Nat.beq n.2.2 29 then (21, 15) else bif Nat.beq n.2.2 30 then (22, 15) else bif Nat.beq n.2.2 31 then (22, 15) else bif Nat.beq n.2.2 32 then (21, 15) else bif Nat.beq n.2.2 33 then (22, 4050) else bif Nat.beq n.2.2 35 then (21, 80) else bif Nat.beq n.2.2 36 then (21, 80) else bif Nat.beq n.2.2 38 then (21, 15) else bif Nat.beq n.2.2 39 then (21, 15) else bif Nat.beq n.2.2 40 then (21, 15) else bif Nat.beq n.2.2 41 then (21, 4) else bif Nat.beq n.2.2 43 then (21, 1440) else bif Nat.beq n.2.2 44 then (21, 1440) else bif Nat.beq n.2.2 45 then (22, 96) else bif Nat.beq n.2.2 46 then (23, 96) else bif Nat.beq n.2.2 49 then (21, 15) else bif Nat.beq n.2.2 51 then (21, 15) else (21, 0)) else (99, 0)
/-- the kind of a field: 0 int, 1 long, 2 a reference that stays, 3 one that may change -/
def fty (c k : Nat) : Nat := bif Nat.beq c 0 then (bif Nat.beq k 0 then 2 else bif Nat.beq k 1 then 1 else 0) else bif Nat.beq c 1 then (bif Nat.beq k 0 then 2 else bif Nat.beq k 1 then 2 else bif Nat.beq k 2 then 2 else bif Nat.beq k 4 then 2 else bif Nat.beq k 5 then 2 else bif Nat.beq k 6 then 2 else bif Nat.beq k 7 then 2 else bif Nat.beq k 8 then 2 else bif Nat.beq k 9 then 2 else bif Nat.beq k 10 then 2 else bif Nat.beq k 11 then 2 else bif Nat.beq k 12 then 2 else 0) else bif Nat.beq c 2 then (bif Nat.beq k 0 then 2 else bif Nat.beq k 1 then 2 else bif Nat.beq k 2 then 2 else bif Nat.beq k 3 then 2 else bif Nat.beq k 4 then 2 else 0) else bif Nat.beq c 3 then (bif Nat.beq k 0 then 2 else bif Nat.beq k 1 then 2 else bif Nat.beq k 2 then 2 else bif Nat.beq k 3 then 2 else bif Nat.beq k 4 then 2 else bif Nat.beq k 5 then 2 else bif Nat.beq k 6 then 2 else bif Nat.beq k 7 then 2 else bif Nat.beq k 8 then 2 else bif Nat.beq k 9 then 2 else bif Nat.beq k 10 then 2 else 0) else bif Nat.beq c 4 then (bif Nat.beq k 2 then 3 else bif Nat.beq k 4 then 3 else 0) else bif Nat.beq c 5 then (bif Nat.beq k 0 then 2 else bif Nat.beq k 1 then 2 else 0) else bif Nat.beq c 6 then (bif Nat.beq k 0 then 1 else bif Nat.beq k 1 then 2 else bif Nat.beq k 2 then 2 else bif Nat.beq k 3 then 2 else 0) else bif Nat.beq c 7 then (bif Nat.beq k 0 then 2 else bif Nat.beq k 1 then 2 else bif Nat.beq k 2 then 2 else bif Nat.beq k 3 then 2 else bif Nat.beq k 4 then 2 else bif Nat.beq k 5 then 2 else bif Nat.beq k 6 then 3 else bif Nat.beq k 7 then 3 else 0) else bif Nat.beq c 8 then (bif Nat.beq k 4 then 2 else bif Nat.beq k 7 then 2 else bif Nat.beq k 8 then 2 else bif Nat.beq k 9 then 2 else bif Nat.beq k 10 then 2 else bif Nat.beq k 11 then 2 else bif Nat.beq k 12 then 2 else bif Nat.beq k 13 then 2 else bif Nat.beq k 24 then 2 else bif Nat.beq k 25 then 2 else bif Nat.beq k 27 then 2 else bif Nat.beq k 28 then 2 else bif Nat.beq k 29 then 2 else bif Nat.beq k 30 then 2 else bif Nat.beq k 31 then 2 else bif Nat.beq k 32 then 2 else bif Nat.beq k 33 then 2 else bif Nat.beq k 35 then 2 else bif Nat.beq k 36 then 2 else bif Nat.beq k 38 then 2 else bif Nat.beq k 39 then 2 else bif Nat.beq k 40 then 2 else bif Nat.beq k 41 then 2 else bif Nat.beq k 43 then 2 else bif Nat.beq k 44 then 2 else bif Nat.beq k 45 then 2 else bif Nat.beq k 46 then 2 else bif Nat.beq k 49 then 2 else bif Nat.beq k 50 then 1 else bif Nat.beq k 51 then 2 else 0) else 0
/-- where a reference that stays leads -/
def sref (n : Nm) (k : Nat) : Nm := bif Nat.beq n.1 3 then (bif Nat.beq k 0 then (4, 0, 0) else bif Nat.beq k 1 then (5, 0, 0) else bif Nat.beq k 2 then (6, 0, 0) else bif Nat.beq k 3 then (7, 0, 0) else bif Nat.beq k 4 then (17, 0, 0) else bif Nat.beq k 5 then (23, 0, 0) else (0, 0, 0)) else bif Nat.beq n.1 7 then (bif Nat.beq k 0 then (8, n.2.1, 0) else bif Nat.beq k 1 then (9, n.2.1, 0) else bif Nat.beq k 2 then (10, n.2.1, 0) else bif Nat.beq k 4 then (11, n.2.1, 0) else bif Nat.beq k 5 then (12, n.2.1, 0) else bif Nat.beq k 6 then (13, n.2.1, 0) else bif Nat.beq k 7 then (15, n.2.1, 34) else bif Nat.beq k 8 then (15, n.2.1, 35) else bif Nat.beq k 9 then (15, n.2.1, 36) else bif Nat.beq k 10 then (15, n.2.1, 37) else bif Nat.beq k 11 then (15, n.2.1, 38) else bif Nat.beq k 12 then (14, n.2.1, 0) else (0, 0, 0)) else bif Nat.beq n.1 11 then (15, n.2.1, k) else bif Nat.beq n.1 12 then (15, n.2.1, 15 + k) else bif Nat.beq n.1 13 then (15, n.2.1, 30 + k) else bif Nat.beq n.1 15 then (16, n.2.1, n.2.2) else bif Nat.beq n.1 17 then (bif Nat.beq k 0 then (7, 1, 0) else bif Nat.beq k 1 then (18, 0, 0) else bif Nat.beq k 2 then (20, 0, 0) else bif Nat.beq k 3 then (21, 0, 0) else bif Nat.beq k 4 then (22, 0, 0) else (0, 0, 0)) else bif Nat.beq n.1 18 then (19, n.2.1, k) else bif Nat.beq n.1 23 then (bif Nat.beq k 1 then (24, 0, 0) else bif Nat.beq k 2 then (25, 0, 0) else bif Nat.beq k 3 then (26, 0, 0) else (0, 0, 0)) else bif Nat.beq n.1 26 then (bif Nat.beq k 0 then (27, 0, 0) else bif Nat.beq k 1 then (28, 0, 0) else (0, 0, 0)) else bif Nat.beq n.1 29 then (30, 0, k) else (0, 0, 0)
def adr (n : Nm) : Nat := nmL.idxOf n
abbrev Ev : Type := Launch × Nat × va_G × (Nat → ClassId) × Nat × (Nat → Nat) × (State → Prop)
def eL (E : Ev) : Launch := E.1
def eB (E : Ev) : Nat := E.2.1
def eD (E : Ev) : va_G := E.2.2.1
def eC (E : Ev) : Nat → ClassId := E.2.2.2.1
def eS (E : Ev) : Nat := E.2.2.2.2.1
def eT (E : Ev) : Nat → Nat := E.2.2.2.2.2.1
def eF (E : Ev) : State → Prop := E.2.2.2.2.2.2
def eA (E : Ev) : Nat → Prop := fun q => eB E ≤ q
def orf (E : Ev) (n : Nm) : Option Nat := if n.1 = 0 then none else if n.1 = 1 then some (eS E) else if n.1 = 2 then some (eT E n.2.1) else some (eB E + adr n)
def rfv (E : Ev) (n : Nm) : Value := va_rf (orf E n)
def cv (E : Ev) : Vv → Value
  | .inl x => .int (Int32.ofInt x)
  | .inr (.inl x) => .long (Int64.ofInt x)
  | .inr (.inr (.inl n)) => rfv E n
  | .inr (.inr (.inr _)) => .null
/-- which kind of value a slot holds: 0 an int, 1 a long, 2 a reference that stays, 3 one that may change -/
def slk (n : Nm) (k : Nat) : Nat := match shp n with
  | (c, _) => bif Nat.blt c 20 then fty c k else bif Nat.beq c 22 then 1 else bif Nat.beq c 24 then (bif Nat.beq n.1 14 then 3 else 2) else 0
def rel (N : Nn) (n : Nm) (k : Nat) : Nm := bif Nat.beq (slk n k) 3 then N n k else sref n k
def fvl (E : Ev) (M : Mm) (N : Nn) (n : Nm) (k : Nat) : Value := bif Nat.beq (slk n k) 0 then .int (Int32.ofInt (M n k)) else bif Nat.beq (slk n k) 1 then .long (Int64.ofInt (M n k)) else rfv E (rel N n k)
def cel (E : Ev) (M : Mm) (N : Nn) (n : Nm) : va_E :=
  bif Nat.blt (shp n).1 20 then .inr ((shp n).1, (List.range (shp n).2).map (fvl E M N n))
  else bif Nat.beq (shp n).1 22 then .inl (eC E 2, (shp n).2, .inr (.inl (fun j => Int64.ofInt (M n j))))
  else bif Nat.beq (shp n).1 24 then .inl (eC E 4, (shp n).2, .inr (.inr (.inr (.inr (fun j => orf E (rel N n j))))))
  else .inl (eC E ((shp n).1 - 20), (shp n).2, .inl (fun j => Int32.ofInt (M n j)))
def wsl (E : Ev) (M : Mm) (N : Nn) : va_W := nmL.map (fun n => (eB E + adr n, cel E M N n))
def tysl (E : Ev) : List (ClassId × FieldType) := [(eC E 0, .byte), (eC E 1, .int), (eC E 2, .long), (eC E 3, .boolean), (eC E 4, .object RX0)]
def okR (n : Nm) : Prop := n.1 ≤ 2 ∨ n ∈ nmL
def okv : Vv → Prop
  | .inl x => R32 x
  | .inr (.inl x) => R64 x
  | .inr (.inr (.inl n)) => okR n
  | .inr (.inr (.inr _)) => True
def okL (L : List Vv) : Prop := ∀ v ∈ L, okv v
/-- numbers are in range, references name places -/
def Rg (M : Mm) (N : Nn) : Prop := ∀ (n : Nm) (k : Nat), (slk n k = 0 → R32 (M n k)) ∧ (slk n k = 1 → R64 (M n k)) ∧ okR (N n k)
def EOK (E : Ev) : Prop := (∀ s U : State, eF E s → s.WarmedH U.vm → (∀ q, q < eB E → U.heap[q]? = s.heap[q]?) → eF E U) ∧ ∀ U U' : State, U'.vm = U.vm → U'.heap = U.heap → eF E U → eF E U'
def Hd (E : Ev) (M : Mm) (N : Nn) (H : Heap) : Prop := va_P (eD E) vwCl (wsl E M N) H ∧ Rg M N
/-- the state's own: tables, base, what stays -/
def Bs (E : Ev) (U : State) : Prop := va_K (eD E) vwCl (tysl E) U ∧ eB E ≤ U.heap.size ∧ eF E U ∧ EOK E
def BIG : List Cond := lw_tbl.filter goodWord
theorem big_of {w : Cond} (h : w ∈ lw_tbl) (g : goodWord w = true) : w ∈ BIG := List.mem_filter.mpr ⟨h, g⟩
theorem big_t {w : Cond} (h : w ∈ tables_1) (g : goodWord w = true) : w ∈ BIG := big_of (List.mem_append_right _ h) g
theorem big_good : GoodIn BIG BIG := fun w h => ⟨h, good_of_word (List.mem_filter.mp h).2⟩
def lvl (E : Ev) (L : List Vv) : List (Nat × Value) := (L.zipIdx.filter (fun q => decide (q.1 ≠ vn))).map (fun q => (q.2, cv E q.1))
theorem lvl_mem {E : Ev} {L : List Vv} {q : Nat × Value} : q ∈ lvl E L ↔ ∃ v, L[q.1]? = some v ∧ v ≠ vn ∧ q.2 = cv E v := by
  unfold lvl
  simp only [List.mem_map, List.mem_filter, decide_eq_true_eq]
  constructor
  · rintro ⟨⟨v, i⟩, ⟨h1, h2⟩, rfl⟩
    exact ⟨v, List.mem_zipIdx_iff_getElem?.mp h1, h2, rfl⟩
  · rintro ⟨v, h1, h2, h3⟩
    exact ⟨(v, q.1), ⟨List.mem_zipIdx_iff_getElem?.mpr h1, h2⟩, by rw [← h3]⟩
def Cx (E : Ev) (own : String) (cc : ByteArray) (nL : Nat) (ret : Option FieldType) (p : Program) (s : State) (m : MethodId) (args : Array Value) (meth : Method) (c : Code) : Prop :=
  p.tables.exec = Jvm.exec ∧ c.code = cc ∧ c.maxLocals = nL ∧ meth.sig.returnType = ret ∧ s.vm.findClass own = some m.cls ∧ (∀ w ∈ BIG, w.before args s = true) ∧ meth.locks = false ∧ Bs E s
abbrev Zt : Type := List Frame → Array Value → State → State → Prop
/-- the machine, at pc with locals L and stack st, memory M and references N, comes to its end Z -/
def Go (E : Ev) (own : String) (cc : ByteArray) (nL : Nat) (ret : Option FieldType) (R : Room) (cl sl : Nat) (Z : Zt) (pc : Nat) (L st : List Vv) (M : Mm) (N : Nn) : Prop :=
  ∀ (p : Program) (e : Env) (s : State) (m : MethodId) (args : Array Value) (below : List Frame) (meth : Method) (c : Code), Cx E own cc nL ret p s m args meth c →
  ∀ (H : Heap) (locs : List Loc) (ls : Array Slot), Hd E M N H → va_S (eA E) s.heap H locs → okL L → okL st → lv_has ls nL (lvl E L) →
  W p (eL E) e R s m args below meth c H locs cl sl (Z below args s) (F0 m pc ls (st.map (cv E)))
/-- what a method owes at its end -/
def QcE (E : Ev) (Q : Option Vv → Mm → Nn → Prop) : Array Value → State → Outcome → State → Prop := fun _ st o t => ∃ (r : Option Vv) (M' : Mm) (N' : Nn), o = .returned (r.map (cv E)) ∧ (∀ v, r = some v → okv v) ∧ Q r M' N' ∧ Hd E M' N' t.heap ∧ va_F (eA E) st t
def zM (E : Ev) (Q : Option Vv → Mm → Nn → Prop) : Zt := fun below args s => MQ below (QcE E Q) args s 0 0 (eA E)
/-- a method's contract -/
def Ct (E : Ev) (y : MethodName) (cc : ByteArray) (nL : Nat) (ret : Option FieldType) (rm : Room) (As : List Vv) (M : Mm) (N : Nn) (Q : Option Vv → Mm → Nn → Prop) : Prop :=
  Met (eL E) y (.code y cc nL ret :: BIG) rm (va_Pc (As.map (cv E)) (fun U => Bs E U ∧ Hd E M N U.heap ∧ okL As)) (QcE E Q) 0 0 (eA E)
theorem okL_nil : okL [] := fun _ h => nomatch h
theorem okL_cons {v : Vv} {L : List Vv} (h : okv v) (t : okL L) : okL (v :: L) := fun w hw => (List.mem_cons.mp hw).elim (fun e => e ▸ h) (t w)
theorem okL.head {v : Vv} {L : List Vv} (h : okL (v :: L)) : okv v := h v List.mem_cons_self
theorem okL.tail {v : Vv} {L : List Vv} (h : okL (v :: L)) : okL L := fun w hw => h w (List.mem_cons_of_mem _ hw)
theorem okL.at {L : List Vv} {i : Nat} {v : Vv} (h : okL L) (e : L[i]? = some v) : okv v := h v (List.mem_of_getElem? e)
theorem lv_mono {ls : Array Slot} {nL : Nat} {l l' : List (Nat × Value)} (h : lv_has ls nL l) (k : ∀ q ∈ l', q ∈ l) : lv_has ls nL l' := ⟨h.1, h.2.1, fun q hq => h.2.2 q (k q hq)⟩
theorem lvl_at {E : Ev} {L : List Vv} {ls : Array Slot} {nL i : Nat} {v : Vv} (h : lv_has ls nL (lvl E L)) (e : L[i]? = some v) (hn : v ≠ vn) : ls[i]? = some (.val (cv E v)) := h.2.2 (i, cv E v) (lvl_mem.mpr ⟨v, e, hn, rfl⟩)
/-- a value of one word into a local -/
def st1 : List Vv → Nat → Vv → List Vv
  | [], _, _ => []
  | _ :: t, 0, v => v :: t
  | a :: t, 1, v => (match a with
    | .inr (.inl _) => vn
    | a => a) :: st1 t 0 v
  | a :: t, i + 2, v => a :: st1 t (i + 1) v
/-- a long into two locals -/
def st2 (L : List Vv) (i : Nat) (v : Vv) : List Vv := (st1 L i v).set (i + 1) vn
theorem st1_get : ∀ (L : List Vv) (i : Nat) (v : Vv) (j : Nat) (w : Vv), (st1 L i v)[j]? = some w → w ≠ vn → (j = i ∧ w = v) ∨ (j ≠ i ∧ L[j]? = some w ∧ ¬ (j + 1 = i ∧ ∃ x, w = vl x))
  | [], _, _, _, _, h, _ => by simp [st1] at h
  | a :: t, 0, v, j, w, h, _ => by
    cases j with
    | zero => simp only [st1, List.getElem?_cons_zero, Option.some.injEq] at h; exact Or.inl ⟨rfl, h.symm⟩
    | succ j => simp only [st1, List.getElem?_cons_succ] at h; exact Or.inr ⟨by omega, h, by omega⟩
  | a :: t, 1, v, j, w, h, hn => by
    cases j with
    | zero =>
      simp only [st1, List.getElem?_cons_zero, Option.some.injEq] at h
      refine Or.inr ⟨by omega, ?_, ?_⟩
      · split at h
        · exact absurd h.symm hn
        · rw [← h]; rfl
      · rintro ⟨-, x, hx⟩
        split at h
        · exact absurd h.symm hn
        · rename_i hne
          exact hne x (h.trans hx)
    | succ j =>
      simp only [st1, List.getElem?_cons_succ] at h
      rcases st1_get t 0 v j w h hn with ⟨h1, h2⟩ | ⟨h1, h2, h3⟩
      · exact Or.inl ⟨by omega, h2⟩
      · exact Or.inr ⟨by omega, h2, by omega⟩
  | a :: t, i + 2, v, j, w, h, hn => by
    cases j with
    | zero =>
      simp only [st1, List.getElem?_cons_zero, Option.some.injEq] at h
      exact Or.inr ⟨by omega, by rw [← h]; rfl, by omega⟩
    | succ j =>
      simp only [st1, List.getElem?_cons_succ] at h
      rcases st1_get t (i + 1) v j w h hn with ⟨h1, h2⟩ | ⟨h1, h2, h3⟩
      · exact Or.inl ⟨by omega, h2⟩
      · exact Or.inr ⟨by omega, h2, fun ⟨q1, q2⟩ => h3 ⟨by omega, q2⟩⟩
theorem cv_cat2 {E : Ev} {v : Vv} : (cv E v).category = 2 ↔ ∃ x, v = vl x := by
  rcases v with x | x | n | u
  · simp [cv, Value.category]
  · simp [cv, Value.category]
  · simp only [cv, rfv]
    cases orf E n <;> simp [va_rf, Value.category]
  · simp [cv, Value.category]
theorem okL_st1 {L : List Vv} {i : Nat} {v : Vv} (h : okL L) (hv : okv v) : okL (st1 L i v) := by
  intro w hw
  obtain ⟨j, hj⟩ := List.getElem?_of_mem hw
  by_cases hn : w = vn
  · subst hn; trivial
  · rcases st1_get L i v j w hj hn with ⟨-, rfl⟩ | ⟨-, h2, -⟩
    · exact hv
    · exact h.at h2
theorem okL_set {L : List Vv} {i : Nat} (h : okL L) : okL (L.set i vn) := by
  intro w hw
  rcases List.mem_or_eq_of_mem_set hw with h1 | h1
  · exact h w h1
  · subst h1; trivial
theorem lvl_st1 {E : Ev} {L : List Vv} {i : Nat} {v : Vv} : ∀ q ∈ lvl E (st1 L i v), q ∈ (i, cv E v) :: (lvl E L).filter (fun q => !(q.1 == i) && !(q.1 + 1 == i && q.2.category == 2)) := by
  intro q hq
  obtain ⟨w, h1, h2, h3⟩ := lvl_mem.mp hq
  rcases st1_get L i v q.1 w h1 h2 with ⟨e1, e2⟩ | ⟨e1, e2, e3⟩
  · refine List.mem_cons.mpr (Or.inl ?_)
    subst e2
    rw [← e1, ← h3]
  · refine List.mem_cons_of_mem _ (List.mem_filter.mpr ⟨lvl_mem.mpr ⟨w, e2, h2, h3⟩, ?_⟩)
    simp only [Bool.and_eq_true, Bool.not_eq_true', beq_eq_false_iff_ne, ne_eq, Bool.and_eq_false_iff]
    refine ⟨e1, ?_⟩
    by_cases e4 : q.1 + 1 = i
    · right
      rw [h3, cv_cat2]
      exact fun h => e3 ⟨e4, h⟩
    · exact Or.inl e4
theorem lvl_st2 {E : Ev} {L : List Vv} {i : Nat} {v : Vv} : ∀ q ∈ lvl E (st2 L i v), q ∈ (i, cv E v) :: (lvl E L).filter (fun q => !(q.1 == i) && (!(q.1 == i + 1) && !(q.1 + 1 == i && q.2.category == 2))) := by
  intro q hq
  obtain ⟨w, h1, h2, h3⟩ := lvl_mem.mp hq
  unfold st2 at h1
  have hne : ¬ q.1 = i + 1 := by
    intro e
    rw [e] at h1
    by_cases hl : i + 1 < (st1 L i v).length
    · rw [List.getElem?_set_self hl] at h1
      exact h2 (Option.some.inj h1).symm
    · rw [List.getElem?_eq_none (by simp; omega)] at h1
      cases h1
  rw [List.getElem?_set_ne (fun e => hne e.symm)] at h1
  rcases List.mem_cons.mp (lvl_st1 (E := E) (L := L) (i := i) (v := v) q (lvl_mem.mpr ⟨w, h1, h2, h3⟩)) with h4 | h4
  · exact List.mem_cons.mpr (Or.inl h4)
  · obtain ⟨h5, h6⟩ := List.mem_filter.mp h4
    refine List.mem_cons_of_mem _ (List.mem_filter.mpr ⟨h5, ?_⟩)
    simp only [Bool.and_eq_true, Bool.not_eq_true', beq_eq_false_iff_ne, ne_eq, Bool.and_eq_false_iff] at h6 ⊢
    exact ⟨h6.1, hne, h6.2⟩
