/-! string constants: the eight words, by their places -/
def slC : List (List Int) := [[105, 110, 112, 117, 116], [102, 114, 111, 109], [116, 111], [108, 101, 116], [114, 111, 117, 110, 100], [112, 105, 99, 107], [116, 104, 101, 110], [101, 108, 115, 101]]
def sln (i : Nat) : Int := ((slC.getD i []).length : Int)
def sch (i : Nat) (k : Int) : Int := (slC.getD i []).getD k.toNat 0
def slN : List Nat := [5, 4, 2, 3, 5, 4, 4, 4]
def slB : List (List Int32) := [[105, 110, 112, 117, 116], [102, 114, 111, 109], [116, 111], [108, 101, 116], [114, 111, 117, 110, 100], [112, 105, 99, 107], [116, 104, 101, 110], [101, 108, 115, 101]]
def fmN (E : Ev) : Nm := if eT E 17 = 0 then (0, 0, 0) else (2, 16, 0)
/-- what stays: the strings, the JDK's two statics, the constants' places -/
def ES (E : Ev) : Prop := (∀ s, eF E s → vk_S 8 slN slB (eT E) (fun i => eT E (8 + i)) (eA E) s s.heap) ∧ (∀ s, eF E s → va_Z RJ0 "COMPACT_STRINGS" "Z" (.int 1) (eA E) s s.heap) ∧ (∀ s, eF E s → va_Z RJ3 "SIOOBE_FORMATTER" "Ljava/util/function/BiFunction;" (rfv E (fmN E)) (eA E) s s.heap) ∧
(∀ s, eF E s → vk_R RX4 65 "input" (eT E 0) s) ∧
(∀ s, eF E s → vk_R RX4 91 "from" (eT E 1) s) ∧
(∀ s, eF E s → vk_R RX4 102 "to" (eT E 2) s) ∧
(∀ s, eF E s → vk_R RX4 74 "let" (eT E 3) s) ∧
(∀ s, eF E s → vk_R RX4 127 "round" (eT E 4) s) ∧
(∀ s, eF E s → vk_R RX4 79 "pick" (eT E 5) s) ∧
(∀ s, eF E s → vk_R RX4 123 "then" (eT E 6) s) ∧
(∀ s, eF E s → vk_R RX4 125 "else" (eT E 7) s) ∧
(∀ s, eF E s → vk_R RX8 181 "input" (eT E 0) s) ∧
(∀ s, eF E s → vk_R RX8 183 "from" (eT E 1) s) ∧
(∀ s, eF E s → vk_R RX8 184 "to" (eT E 2) s) ∧
(∀ s, eF E s → vk_R RX8 185 "let" (eT E 3) s) ∧
(∀ s, eF E s → vk_R RX8 187 "round" (eT E 4) s) ∧
(∀ s, eF E s → vk_R RX8 189 "pick" (eT E 5) s) ∧
(∀ s, eF E s → vk_R RX8 191 "then" (eT E 6) s) ∧
(∀ s, eF E s → vk_R RX8 193 "else" (eT E 7) s)
theorem sl_all : ∀ i, i < 8 → ∀ k, k < 6 → (slB.getD i []).getD k 0 = Int32.ofInt (sch i k) ∧ ic16 (iand (sch i k) 255) = sch i k ∧ 0 ≤ sch i k ∧ sch i k < 123 := by decide +kernel
theorem sl_len : ∀ i, i < 8 → ((slN.getD i 0 : Nat) : Int) = sln i ∧ slN.getD i 0 < 6 ∧ ishr (sln i) 0 = sln i ∧ 0 < slN.getD i 0 := by decide +kernel
theorem cv_str {E : Ev} {i : Nat} : cv E (vr (2, i, 0)) = .ref (eT E i) := rfl
theorem fmN_ok {E : Ev} : okR (fmN E) := by
  unfold fmN
  split
  · exact Or.inl (by decide)
  · exact Or.inl (by decide)
theorem i2c_eq {a : Int} (ha : R32 a) : ((Int32.ofInt a).toUInt32 % 65536).toInt32.toInt = ic16 a := by
  have h0 : ∀ y : Int32, (y.toUInt32 % 65536).toInt32.toInt = ic16 y.toInt := by
    intro y
    show (y.toUInt32 % 65536).toBitVec.toInt = _
    have e : (y.toUInt32 % 65536).toBitVec = y.toBitVec % 65536#32 := rfl
    rw [e]
    unfold ic16
    have h1 : (y.toBitVec % 65536#32).toNat = y.toBitVec.toNat % 65536 := by rw [BitVec.toNat_umod]; rfl
    have h2 : (y.toBitVec % 65536#32).toInt = ((y.toBitVec % 65536#32).toNat : Int) := by
      rw [BitVec.toInt_eq_toNat_cond, h1]
      rw [if_pos (by omega)]
    rw [h2, h1]
    have h3 : y.toInt = y.toBitVec.toInt := rfl
    rw [h3, BitVec.toInt_eq_toNat_cond]
    split <;> omega
  rw [h0, i32 ha]
variable {E : Ev} {own : String} {cc : ByteArray} {nL : Nat} {ret : Option FieldType} {R : Room} {cl sl : Nat} {Z : Zt} {pc : Nat} {L st : List Vv} {M : Mm} {N : Nn}
theorem s4_65 {E : Ev} {cc : ByteArray} {nL : Nat} {ret : Option FieldType} {R : Room} {cl sl : Nat} {Z : Zt} {pc : Nat} {L st : List Vv} {M : Mm} {N : Nn} (hE : ES E) (hd : decode cc pc = .ok (.ldc 65, 2)) (k : Go E RX4 cc nL ret R cl sl Z (pc + 2) L (vr (2, 0, 0) :: st) M N) : Go E RX4 cc nL ret R cl sl Z (pc) L st M N := by
  intro p e s m args below meth c C H locs ls hP hS hL hst hl
  exact va_ldcS C.1 C.2.1 C.2.2.2.2.1 (hE.2.2.2.1 s C.2.2.2.2.2.2.2.2.2.1) hd (k p e s m args below meth c C H locs ls hP hS hL (okL_cons (Or.inl (Nat.le_refl 2)) hst) hl)
theorem s4_91 {E : Ev} {cc : ByteArray} {nL : Nat} {ret : Option FieldType} {R : Room} {cl sl : Nat} {Z : Zt} {pc : Nat} {L st : List Vv} {M : Mm} {N : Nn} (hE : ES E) (hd : decode cc pc = .ok (.ldc 91, 2)) (k : Go E RX4 cc nL ret R cl sl Z (pc + 2) L (vr (2, 1, 0) :: st) M N) : Go E RX4 cc nL ret R cl sl Z (pc) L st M N := by
  intro p e s m args below meth c C H locs ls hP hS hL hst hl
  exact va_ldcS C.1 C.2.1 C.2.2.2.2.1 (hE.2.2.2.2.1 s C.2.2.2.2.2.2.2.2.2.1) hd (k p e s m args below meth c C H locs ls hP hS hL (okL_cons (Or.inl (Nat.le_refl 2)) hst) hl)
theorem s4_102 {E : Ev} {cc : ByteArray} {nL : Nat} {ret : Option FieldType} {R : Room} {cl sl : Nat} {Z : Zt} {pc : Nat} {L st : List Vv} {M : Mm} {N : Nn} (hE : ES E) (hd : decode cc pc = .ok (.ldc 102, 2)) (k : Go E RX4 cc nL ret R cl sl Z (pc + 2) L (vr (2, 2, 0) :: st) M N) : Go E RX4 cc nL ret R cl sl Z (pc) L st M N := by
  intro p e s m args below meth c C H locs ls hP hS hL hst hl
  exact va_ldcS C.1 C.2.1 C.2.2.2.2.1 (hE.2.2.2.2.2.1 s C.2.2.2.2.2.2.2.2.2.1) hd (k p e s m args below meth c C H locs ls hP hS hL (okL_cons (Or.inl (Nat.le_refl 2)) hst) hl)
theorem s4_74 {E : Ev} {cc : ByteArray} {nL : Nat} {ret : Option FieldType} {R : Room} {cl sl : Nat} {Z : Zt} {pc : Nat} {L st : List Vv} {M : Mm} {N : Nn} (hE : ES E) (hd : decode cc pc = .ok (.ldc 74, 2)) (k : Go E RX4 cc nL ret R cl sl Z (pc + 2) L (vr (2, 3, 0) :: st) M N) : Go E RX4 cc nL ret R cl sl Z (pc) L st M N := by
  intro p e s m args below meth c C H locs ls hP hS hL hst hl
  exact va_ldcS C.1 C.2.1 C.2.2.2.2.1 (hE.2.2.2.2.2.2.1 s C.2.2.2.2.2.2.2.2.2.1) hd (k p e s m args below meth c C H locs ls hP hS hL (okL_cons (Or.inl (Nat.le_refl 2)) hst) hl)
theorem s4_127 {E : Ev} {cc : ByteArray} {nL : Nat} {ret : Option FieldType} {R : Room} {cl sl : Nat} {Z : Zt} {pc : Nat} {L st : List Vv} {M : Mm} {N : Nn} (hE : ES E) (hd : decode cc pc = .ok (.ldc 127, 2)) (k : Go E RX4 cc nL ret R cl sl Z (pc + 2) L (vr (2, 4, 0) :: st) M N) : Go E RX4 cc nL ret R cl sl Z (pc) L st M N := by
  intro p e s m args below meth c C H locs ls hP hS hL hst hl
  exact va_ldcS C.1 C.2.1 C.2.2.2.2.1 (hE.2.2.2.2.2.2.2.1 s C.2.2.2.2.2.2.2.2.2.1) hd (k p e s m args below meth c C H locs ls hP hS hL (okL_cons (Or.inl (Nat.le_refl 2)) hst) hl)
theorem s4_79 {E : Ev} {cc : ByteArray} {nL : Nat} {ret : Option FieldType} {R : Room} {cl sl : Nat} {Z : Zt} {pc : Nat} {L st : List Vv} {M : Mm} {N : Nn} (hE : ES E) (hd : decode cc pc = .ok (.ldc 79, 2)) (k : Go E RX4 cc nL ret R cl sl Z (pc + 2) L (vr (2, 5, 0) :: st) M N) : Go E RX4 cc nL ret R cl sl Z (pc) L st M N := by
  intro p e s m args below meth c C H locs ls hP hS hL hst hl
  exact va_ldcS C.1 C.2.1 C.2.2.2.2.1 (hE.2.2.2.2.2.2.2.2.1 s C.2.2.2.2.2.2.2.2.2.1) hd (k p e s m args below meth c C H locs ls hP hS hL (okL_cons (Or.inl (Nat.le_refl 2)) hst) hl)
theorem s4_123 {E : Ev} {cc : ByteArray} {nL : Nat} {ret : Option FieldType} {R : Room} {cl sl : Nat} {Z : Zt} {pc : Nat} {L st : List Vv} {M : Mm} {N : Nn} (hE : ES E) (hd : decode cc pc = .ok (.ldc 123, 2)) (k : Go E RX4 cc nL ret R cl sl Z (pc + 2) L (vr (2, 6, 0) :: st) M N) : Go E RX4 cc nL ret R cl sl Z (pc) L st M N := by
  intro p e s m args below meth c C H locs ls hP hS hL hst hl
  exact va_ldcS C.1 C.2.1 C.2.2.2.2.1 (hE.2.2.2.2.2.2.2.2.2.1 s C.2.2.2.2.2.2.2.2.2.1) hd (k p e s m args below meth c C H locs ls hP hS hL (okL_cons (Or.inl (Nat.le_refl 2)) hst) hl)
theorem s4_125 {E : Ev} {cc : ByteArray} {nL : Nat} {ret : Option FieldType} {R : Room} {cl sl : Nat} {Z : Zt} {pc : Nat} {L st : List Vv} {M : Mm} {N : Nn} (hE : ES E) (hd : decode cc pc = .ok (.ldc 125, 2)) (k : Go E RX4 cc nL ret R cl sl Z (pc + 2) L (vr (2, 7, 0) :: st) M N) : Go E RX4 cc nL ret R cl sl Z (pc) L st M N := by
  intro p e s m args below meth c C H locs ls hP hS hL hst hl
  exact va_ldcS C.1 C.2.1 C.2.2.2.2.1 (hE.2.2.2.2.2.2.2.2.2.2.1 s C.2.2.2.2.2.2.2.2.2.1) hd (k p e s m args below meth c C H locs ls hP hS hL (okL_cons (Or.inl (Nat.le_refl 2)) hst) hl)
theorem s8_181 {E : Ev} {cc : ByteArray} {nL : Nat} {ret : Option FieldType} {R : Room} {cl sl : Nat} {Z : Zt} {pc : Nat} {L st : List Vv} {M : Mm} {N : Nn} (hE : ES E) (hd : decode cc pc = .ok (.ldc 181, 2)) (k : Go E RX8 cc nL ret R cl sl Z (pc + 2) L (vr (2, 0, 0) :: st) M N) : Go E RX8 cc nL ret R cl sl Z (pc) L st M N := by
  intro p e s m args below meth c C H locs ls hP hS hL hst hl
  exact va_ldcS C.1 C.2.1 C.2.2.2.2.1 (hE.2.2.2.2.2.2.2.2.2.2.2.1 s C.2.2.2.2.2.2.2.2.2.1) hd (k p e s m args below meth c C H locs ls hP hS hL (okL_cons (Or.inl (Nat.le_refl 2)) hst) hl)
theorem s8_183 {E : Ev} {cc : ByteArray} {nL : Nat} {ret : Option FieldType} {R : Room} {cl sl : Nat} {Z : Zt} {pc : Nat} {L st : List Vv} {M : Mm} {N : Nn} (hE : ES E) (hd : decode cc pc = .ok (.ldc 183, 2)) (k : Go E RX8 cc nL ret R cl sl Z (pc + 2) L (vr (2, 1, 0) :: st) M N) : Go E RX8 cc nL ret R cl sl Z (pc) L st M N := by
  intro p e s m args below meth c C H locs ls hP hS hL hst hl
  exact va_ldcS C.1 C.2.1 C.2.2.2.2.1 (hE.2.2.2.2.2.2.2.2.2.2.2.2.1 s C.2.2.2.2.2.2.2.2.2.1) hd (k p e s m args below meth c C H locs ls hP hS hL (okL_cons (Or.inl (Nat.le_refl 2)) hst) hl)
theorem s8_184 {E : Ev} {cc : ByteArray} {nL : Nat} {ret : Option FieldType} {R : Room} {cl sl : Nat} {Z : Zt} {pc : Nat} {L st : List Vv} {M : Mm} {N : Nn} (hE : ES E) (hd : decode cc pc = .ok (.ldc 184, 2)) (k : Go E RX8 cc nL ret R cl sl Z (pc + 2) L (vr (2, 2, 0) :: st) M N) : Go E RX8 cc nL ret R cl sl Z (pc) L st M N := by
  intro p e s m args below meth c C H locs ls hP hS hL hst hl
  exact va_ldcS C.1 C.2.1 C.2.2.2.2.1 (hE.2.2.2.2.2.2.2.2.2.2.2.2.2.1 s C.2.2.2.2.2.2.2.2.2.1) hd (k p e s m args below meth c C H locs ls hP hS hL (okL_cons (Or.inl (Nat.le_refl 2)) hst) hl)
theorem s8_185 {E : Ev} {cc : ByteArray} {nL : Nat} {ret : Option FieldType} {R : Room} {cl sl : Nat} {Z : Zt} {pc : Nat} {L st : List Vv} {M : Mm} {N : Nn} (hE : ES E) (hd : decode cc pc = .ok (.ldc 185, 2)) (k : Go E RX8 cc nL ret R cl sl Z (pc + 2) L (vr (2, 3, 0) :: st) M N) : Go E RX8 cc nL ret R cl sl Z (pc) L st M N := by
  intro p e s m args below meth c C H locs ls hP hS hL hst hl
  exact va_ldcS C.1 C.2.1 C.2.2.2.2.1 (hE.2.2.2.2.2.2.2.2.2.2.2.2.2.2.1 s C.2.2.2.2.2.2.2.2.2.1) hd (k p e s m args below meth c C H locs ls hP hS hL (okL_cons (Or.inl (Nat.le_refl 2)) hst) hl)
theorem s8_187 {E : Ev} {cc : ByteArray} {nL : Nat} {ret : Option FieldType} {R : Room} {cl sl : Nat} {Z : Zt} {pc : Nat} {L st : List Vv} {M : Mm} {N : Nn} (hE : ES E) (hd : decode cc pc = .ok (.ldc 187, 2)) (k : Go E RX8 cc nL ret R cl sl Z (pc + 2) L (vr (2, 4, 0) :: st) M N) : Go E RX8 cc nL ret R cl sl Z (pc) L st M N := by
  intro p e s m args below meth c C H locs ls hP hS hL hst hl
  exact va_ldcS C.1 C.2.1 C.2.2.2.2.1 (hE.2.2.2.2.2.2.2.2.2.2.2.2.2.2.2.1 s C.2.2.2.2.2.2.2.2.2.1) hd (k p e s m args below meth c C H locs ls hP hS hL (okL_cons (Or.inl (Nat.le_refl 2)) hst) hl)
theorem s8_189 {E : Ev} {cc : ByteArray} {nL : Nat} {ret : Option FieldType} {R : Room} {cl sl : Nat} {Z : Zt} {pc : Nat} {L st : List Vv} {M : Mm} {N : Nn} (hE : ES E) (hd : decode cc pc = .ok (.ldc 189, 2)) (k : Go E RX8 cc nL ret R cl sl Z (pc + 2) L (vr (2, 5, 0) :: st) M N) : Go E RX8 cc nL ret R cl sl Z (pc) L st M N := by
  intro p e s m args below meth c C H locs ls hP hS hL hst hl
  exact va_ldcS C.1 C.2.1 C.2.2.2.2.1 (hE.2.2.2.2.2.2.2.2.2.2.2.2.2.2.2.2.1 s C.2.2.2.2.2.2.2.2.2.1) hd (k p e s m args below meth c C H locs ls hP hS hL (okL_cons (Or.inl (Nat.le_refl 2)) hst) hl)
theorem s8_191 {E : Ev} {cc : ByteArray} {nL : Nat} {ret : Option FieldType} {R : Room} {cl sl : Nat} {Z : Zt} {pc : Nat} {L st : List Vv} {M : Mm} {N : Nn} (hE : ES E) (hd : decode cc pc = .ok (.ldc 191, 2)) (k : Go E RX8 cc nL ret R cl sl Z (pc + 2) L (vr (2, 6, 0) :: st) M N) : Go E RX8 cc nL ret R cl sl Z (pc) L st M N := by
  intro p e s m args below meth c C H locs ls hP hS hL hst hl
  exact va_ldcS C.1 C.2.1 C.2.2.2.2.1 (hE.2.2.2.2.2.2.2.2.2.2.2.2.2.2.2.2.2.1 s C.2.2.2.2.2.2.2.2.2.1) hd (k p e s m args below meth c C H locs ls hP hS hL (okL_cons (Or.inl (Nat.le_refl 2)) hst) hl)
theorem s8_193 {E : Ev} {cc : ByteArray} {nL : Nat} {ret : Option FieldType} {R : Room} {cl sl : Nat} {Z : Zt} {pc : Nat} {L st : List Vv} {M : Mm} {N : Nn} (hE : ES E) (hd : decode cc pc = .ok (.ldc 193, 2)) (k : Go E RX8 cc nL ret R cl sl Z (pc + 2) L (vr (2, 7, 0) :: st) M N) : Go E RX8 cc nL ret R cl sl Z (pc) L st M N := by
  intro p e s m args below meth c C H locs ls hP hS hL hst hl
  exact va_ldcS C.1 C.2.1 C.2.2.2.2.1 (hE.2.2.2.2.2.2.2.2.2.2.2.2.2.2.2.2.2.2 s C.2.2.2.2.2.2.2.2.2.1) hd (k p e s m args below meth c C H locs ls hP hS hL (okL_cons (Or.inl (Nat.le_refl 2)) hst) hl)
theorem wsv : Cond.fieldLink RJ0 9 "java/lang/String" "value" "[B" ∈ BIG := bg7 234 (by decide +kernel) rfl
theorem wsc : Cond.fieldLink RJ0 15 "java/lang/String" "coder" "B" ∈ BIG := bg7 235 (by decide +kernel) rfl
theorem wsp : Cond.fieldLink RJ0 38 "java/lang/String" "COMPACT_STRINGS" "Z" ∈ BIG := bg2 153 (by decide +kernel) rfl
theorem wsf : Cond.fieldLink RJ0 1053 "jdk/internal/util/Preconditions" "SIOOBE_FORMATTER" "Ljava/util/function/BiFunction;" ∈ BIG := bg2 169 (by decide +kernel) rfl
theorem go_sval {i : Nat} (hE : ES E) (hi : i < 8) (hd : decode cc pc = .ok (.getfield 9, 3)) (k : Go E RJ0 cc nL ret R cl sl Z (pc + 3) L (vr (2, 8 + i, 0) :: st) M N) : Go E RJ0 cc nL ret R cl sl Z pc L (vr (2, i, 0) :: st) M N := by
  intro p e s m args below meth c C H locs ls hP hS hL hst hl
  exact vk_getf (q := eT E i) C.1 C.2.1 ((hE.1 s C.2.2.2.2.2.2.2.2.2.1).1 i hi).2.2.1 hS C.2.2.2.2.1 (C.2.2.2.2.2.1 _ wsv) (fun _ h => h) hd (k p e s m args below meth c C H locs ls hP hS hL (okL_cons (Or.inl (Nat.le_refl 2)) hst.tail) hl)
theorem go_scod {i : Nat} (hE : ES E) (hi : i < 8) (hd : decode cc pc = .ok (.getfield 15, 3)) (k : Go E RJ0 cc nL ret R cl sl Z (pc + 3) L (vi 0 :: st) M N) : Go E RJ0 cc nL ret R cl sl Z pc L (vr (2, i, 0) :: st) M N := by
  intro p e s m args below meth c C H locs ls hP hS hL hst hl
  exact vk_getf (q := eT E i) C.1 C.2.1 ((hE.1 s C.2.2.2.2.2.2.2.2.2.1).1 i hi).2.1 hS C.2.2.2.2.1 (C.2.2.2.2.2.1 _ wsc) (fun _ h => h) hd (k p e s m args below meth c C H locs ls hP hS hL (okL_cons (R32_lit rfl) hst.tail) hl)
theorem go_scs (hE : ES E) (hd : decode cc pc = .ok (.getstatic 38, 3)) (k : Go E RJ0 cc nL ret R cl sl Z (pc + 3) L (vi 1 :: st) M N) : Go E RJ0 cc nL ret R cl sl Z pc L st M N := by
  intro p e s m args below meth c C H locs ls hP hS hL hst hl
  exact va_gets C.1 C.2.1 (hE.2.1 s C.2.2.2.2.2.2.2.2.2.1) hS C.2.2.2.2.1 (C.2.2.2.2.2.1 _ wsp) (fun _ h => h) hd (k p e s m args below meth c C H locs ls hP hS hL (okL_cons (R32_lit rfl) hst) hl)
theorem go_sfm (hE : ES E) (hd : decode cc pc = .ok (.getstatic 1053, 3)) (k : Go E RJ0 cc nL ret R cl sl Z (pc + 3) L (vr (fmN E) :: st) M N) : Go E RJ0 cc nL ret R cl sl Z pc L st M N := by
  intro p e s m args below meth c C H locs ls hP hS hL hst hl
  exact va_gets C.1 C.2.1 (hE.2.2.1 s C.2.2.2.2.2.2.2.2.2.1) hS C.2.2.2.2.1 (C.2.2.2.2.2.1 _ wsf) (fun _ h => h) hd (k p e s m args below meth c C H locs ls hP hS hL (okL_cons fmN_ok hst) hl)
theorem go_slen {i : Nat} (hE : ES E) (hi : i < 8) (hd : decode cc pc = .ok (.arraylength, 1)) (k : Go E own cc nL ret R cl sl Z (pc + 1) L (vi (sln i) :: st) M N) : Go E own cc nL ret R cl sl Z pc L (vr (2, 8 + i, 0) :: st) M N := by
  intro p e s m args below meth c C H locs ls hP hS hL hst hl
  have q := sl_len i hi
  refine va_tlen (t := eT E (8 + i)) (v := Int32.ofInt (sln i)) C.1 C.2.1 ((hE.1 s C.2.2.2.2.2.2.2.2.2.1).1 i hi).2.2.2 hS ?_ hd (k p e s m args below meth c C H locs ls hP hS hL (okL_cons (by rw [← q.1]; exact ⟨by omega, by omega⟩) hst.tail) hl)
  rw [← q.1]
  exact (Int32.ofInt_eq_ofNat).symm
theorem go_sbyt {i : Nat} {x : Int} (hE : ES E) (hi : i < 8) (h0 : 0 ≤ x) (h1 : x < sln i) (hd : decode cc pc = .ok (.baload, 1)) (k : Go E own cc nL ret R cl sl Z (pc + 1) L (vi (sch i x) :: st) M N) : Go E own cc nL ret R cl sl Z pc L (vi x :: vr (2, 8 + i, 0) :: st) M N := by
  intro p e s m args below meth c C H locs ls hP hS hL hst hl
  have q := sl_len i hi
  have hx : (Int32.ofInt x).toInt = x := i32 ⟨by omega, by omega⟩
  have hn : (Int32.ofInt x).toNatClampNeg = x.toNat := by show (Int32.ofInt x).toInt.toNat = _; rw [hx]
  have q2 := sl_all i hi x.toNat (by omega)
  refine va_tb (t := eT E (8 + i)) (v := .int (Int32.ofInt (sch i x))) C.1 C.2.1 ((hE.1 s C.2.2.2.2.2.2.2.2.2.1).1 i hi).2.2.2 hS ?_ ?_ hd (k p e s m args below meth c C H locs ls hP hS hL (okL_cons (by
    have e : sch i x = sch i (x.toNat : Nat) := by rw [Int.toNat_of_nonneg h0]
    rw [e]; exact ⟨by omega, by omega⟩) hst.tail.tail) hl)
  · rintro (h | h)
    · have := (lt32 (a := x) (b := 0) ⟨by omega, by omega⟩ (R32_lit rfl)).mp h
      omega
    · rw [hn] at h
      omega
  · rw [hn, q2.1, Int.toNat_of_nonneg h0]
theorem go_i2c {a : Int} (hd : decode cc pc = .ok (.i2c, 1)) (k : Go E own cc nL ret R cl sl Z (pc + 1) L (vi (ic16 a) :: st) M N) : Go E own cc nL ret R cl sl Z pc L (vi a :: st) M N := by
  intro p e s m args below meth c C H locs ls hP hS hL hst hl
  have hr : R32 (ic16 a) := by unfold ic16; exact ⟨by omega, by omega⟩
  refine lv_i2c (v := Int32.ofInt (ic16 a)) C.1 C.2.1 hd ?_ (k p e s m args below meth c C H locs ls hP hS hL (okL_cons hr hst.tail) hl)
  apply o32_eq
  have ha := hst.head
  exact i2c_eq ha
theorem go_rett {x : Int} {ty : FieldType} {P : Int → Mm → Nn → Prop} (hd : decode cc pc = .ok (.ireturn, 1)) (hn : narrow ty (.int (Int32.ofInt x)) = .int (Int32.ofInt x)) (hq : P x M N) : Go E own cc nL (some ty) R 0 0 (zM E (qi P)) pc L [vi x] M N := by
  intro p e s m args below meth c C H locs ls hP hS hL hst hl
  exact W.zret C.1 C.2.1 C.2.2.2.1 hn (fun t ht hW => ⟨some (vi x), M, N, rfl, fun v hv => by cases hv; exact hst.head, ⟨x, rfl, hst.head, hq⟩, by rw [ht]; exact hP, hS.F ht⟩) hS.2.2 hd C.2.2.2.2.2.2.1
/-- a call of a string's method -/
def LkT (own : String) (idx : Nat) (y : MethodName) (bytes : ByteArray) (maxL : Nat) (rt : Option FieldType) (n : Nat) : Prop :=
  Cond.methodLink own idx y ∈ BIG ∧ Cond.instanceMethod y ∈ BIG ∧ Cond.selects y.cls y y ∈ BIG ∧ Cond.initialized y.cls ∈ BIG ∧ Cond.code y bytes maxL rt ∈ BIG ∧ y.cls = "java/lang/String" ∧
  y.cls ≠ "java/lang/invoke/MethodHandle" ∧ y.cls ≠ "java/lang/invoke/VarHandle" ∧ (parseMethodDescriptor y.desc).map (fun d => d.parameters.length) = some n
theorem go_callT {y : MethodName} {bytes : ByteArray} {maxL idx n i : Nat} {rt : Option FieldType} {rm : Room} {As : List Vv} {Qc : Option Vv → Mm → Nn → Prop} {st0 : List Vv}
    (hd : decode cc pc = .ok (.invokevirtual idx, 3)) (lk : LkT own idx y bytes maxL rt n) (hE : ES E) (hi : i < 8) (hst0 : st0 = As.reverse ++ vr (2, i, 0) :: st) (hn : As.length = n) (hct : Nat.ble (ctL st) 8 = true)
    (hrm : rm.cells = 0 ∧ rm.slots = 0) (hR : rm.frames + 1 ≤ R.frames ∧ 8 + (maxL + 11) + rm.locals ≤ R.locals) (hc : Ct E y bytes maxL rt rm (vr (2, i, 0) :: As) M N Qc) (hcl : Nat.ble cl R.cells = true ∧ Nat.ble sl R.slots = true)
    (k : ∀ (r : Option Vv) (M' : Mm) (N' : Nn), Qc r M' N' → Go E own cc nL ret R cl sl Z (pc + 3) L (r.toList ++ st) M' N') : Go E own cc nL ret R cl sl Z pc L st0 M N := by
  intro p e s m args below meth c C H locs ls hP hS hL hst hl
  subst hst0
  obtain ⟨l1, l2, l3, l4, l5, l7, l9, l10, l11⟩ := lk
  have hts := C.2.2.2.2.2.1
  have hokA : okL As := fun v hv => hst v (List.mem_append_left _ (List.mem_reverse.mpr hv))
  have hokT : okL (vr (2, i, 0) :: st) := fun v hv => hst v (List.mem_append_right _ hv)
  have hrecv := vk_recv (hE.1 s C.2.2.2.2.2.2.2.2.2.1) hi hS
  rw [← l7] at hrecv
  have hcw : CallW R s args own y.cls idx y bytes maxL rt (.code y bytes maxL rt :: BIG) rm 0 0 n :=
    ⟨callB_of n hts (good_code l5) rfl hrm.1 hrm.2 (hts _ l4) (hts _ l1) ⟨l9, l10, l11⟩ hR, hts _ l2, hts _ l3⟩
  refine W_run (a := (Value.ref (eT E i) :: As.map (cv E)).toArray) C hS hL hokT.tail hl ?_ k
  have hPre : PreV s H y.cls (eT E i) (va_Pc ((vr (2, i, 0) :: As).map (cv E)) (fun U => Bs E U ∧ Hd E M N U.heap ∧ okL (vr (2, i, 0) :: As))) (As.map (cv E)) :=
    ⟨fun a U g mk hq => ⟨hq.1, Bs.blind hq.2.1, hq.2.2⟩, hrecv, fun U hU hW => ⟨rfl, C.2.2.2.2.2.2.2.next hS hU hW, by rw [hU]; exact hP, okL_cons hokT.head hokA⟩⟩
  refine va_runV (Ts := BIG) (cc := cc) (nL := nL) (As := As.map (cv E)) (b := eT E i) (C := y.cls) (Qc := QcE E Qc) ⟨C.1, C.2.1, C.2.2.1, C.2.2.2.2.1, hts⟩ hc hcw hPre rfl (by rw [List.length_map]; exact hn) hl.1 ?_ ?_ hd ⟨Nat.le_of_ble_eq_true hcl.1, Nat.le_of_ble_eq_true hcl.2⟩
  · show (As.reverse ++ vr (2, i, 0) :: st).map (cv E) = _
    rw [List.map_append, List.map_reverse, List.map_cons, cv_str]
  · show 2 * 0 + _ ≤ 8
    rw [ctL_cat]
    have := Nat.le_of_ble_eq_true hct
    omega
theorem lT4_149 : LkT RX4 149 yJ0_length_8abf5 cJ0_length_8abf5 1 ((some .int)) 0 := ⟨mw4_149, knyJ0_length_8abf5, ksyJ0_length_8abf5, kiyJ0_length_8abf5, kyJ0_length_8abf5, rfl, by decide +kernel, by decide +kernel, by decide +kernel⟩
theorem v4_149 {E : Ev} {cc : ByteArray} {nL : Nat} {ret : Option FieldType} {R : Room} {cl sl : Nat} {Z : Zt} {pc : Nat} {L st : List Vv} {M : Mm} {N : Nn} {i : Nat}  {h : Nat} {P : Int → Mm → Nn → Prop} (hd : decode cc pc = .ok (.invokevirtual 149, 3)) (hct : Nat.ble (ctL st) 8 = true) (hR : Nat.ble (h + 1) R.frames = true ∧ Nat.ble (8 + (1 + 11) + 40 * h) R.locals = true) (hcl : Nat.ble cl R.cells = true ∧ Nat.ble sl R.slots = true) (hc : Ct E yJ0_length_8abf5 cJ0_length_8abf5 1 ((some .int)) (rmH h) [vr (2, i, 0)] M N (qi P)) (hE : ES E) (hi : i < 8) (k : ∀ r M1 N1, R32 r → P r M1 N1 → Go E RX4 cc nL ret R cl sl Z (pc + 3) L (vi r :: st) M1 N1) : Go E RX4 cc nL ret R cl sl Z (pc) L (vr (2, i, 0) :: st) M N := go_callT (As := []) hd lT4_149 hE hi rfl rfl hct ⟨rfl, rfl⟩ ⟨Nat.le_of_ble_eq_true hR.1, Nat.le_of_ble_eq_true hR.2⟩ hc hcl (fun r M1 N1 h => by obtain ⟨z, rfl, h1, h⟩ := h; exact k z M1 N1 h1 h)
theorem lT4_154 : LkT RX4 154 yJ0_charAt_5068e cJ0_charAt_5068e 2 ((some .char)) 1 := ⟨mw4_154, knyJ0_charAt_5068e, ksyJ0_charAt_5068e, kiyJ0_charAt_5068e, kyJ0_charAt_5068e, rfl, by decide +kernel, by decide +kernel, by decide +kernel⟩
theorem v4_154 {E : Ev} {cc : ByteArray} {nL : Nat} {ret : Option FieldType} {R : Room} {cl sl : Nat} {Z : Zt} {pc : Nat} {L st : List Vv} {M : Mm} {N : Nn} {i : Nat} {x0 : Int} {h : Nat} {P : Int → Mm → Nn → Prop} (hd : decode cc pc = .ok (.invokevirtual 154, 3)) (hct : Nat.ble (ctL st) 8 = true) (hR : Nat.ble (h + 1) R.frames = true ∧ Nat.ble (8 + (2 + 11) + 40 * h) R.locals = true) (hcl : Nat.ble cl R.cells = true ∧ Nat.ble sl R.slots = true) (hc : Ct E yJ0_charAt_5068e cJ0_charAt_5068e 2 ((some .char)) (rmH h) [vr (2, i, 0), vi x0] M N (qi P)) (hE : ES E) (hi : i < 8) (k : ∀ r M1 N1, R32 r → P r M1 N1 → Go E RX4 cc nL ret R cl sl Z (pc + 3) L (vi r :: st) M1 N1) : Go E RX4 cc nL ret R cl sl Z (pc) L (vi x0 :: vr (2, i, 0) :: st) M N := go_callT (As := [vi x0]) hd lT4_154 hE hi rfl rfl hct ⟨rfl, rfl⟩ ⟨Nat.le_of_ble_eq_true hR.1, Nat.le_of_ble_eq_true hR.2⟩ hc hcl (fun r M1 N1 h => by obtain ⟨z, rfl, h1, h⟩ := h; exact k z M1 N1 h1 h)
theorem lT8_151 : LkT RX8 151 yJ0_length_8abf5 cJ0_length_8abf5 1 ((some .int)) 0 := ⟨mw8_151, knyJ0_length_8abf5, ksyJ0_length_8abf5, kiyJ0_length_8abf5, kyJ0_length_8abf5, rfl, by decide +kernel, by decide +kernel, by decide +kernel⟩
theorem v8_151 {E : Ev} {cc : ByteArray} {nL : Nat} {ret : Option FieldType} {R : Room} {cl sl : Nat} {Z : Zt} {pc : Nat} {L st : List Vv} {M : Mm} {N : Nn} {i : Nat}  {h : Nat} {P : Int → Mm → Nn → Prop} (hd : decode cc pc = .ok (.invokevirtual 151, 3)) (hct : Nat.ble (ctL st) 8 = true) (hR : Nat.ble (h + 1) R.frames = true ∧ Nat.ble (8 + (1 + 11) + 40 * h) R.locals = true) (hcl : Nat.ble cl R.cells = true ∧ Nat.ble sl R.slots = true) (hc : Ct E yJ0_length_8abf5 cJ0_length_8abf5 1 ((some .int)) (rmH h) [vr (2, i, 0)] M N (qi P)) (hE : ES E) (hi : i < 8) (k : ∀ r M1 N1, R32 r → P r M1 N1 → Go E RX8 cc nL ret R cl sl Z (pc + 3) L (vi r :: st) M1 N1) : Go E RX8 cc nL ret R cl sl Z (pc) L (vr (2, i, 0) :: st) M N := go_callT (As := []) hd lT8_151 hE hi rfl rfl hct ⟨rfl, rfl⟩ ⟨Nat.le_of_ble_eq_true hR.1, Nat.le_of_ble_eq_true hR.2⟩ hc hcl (fun r M1 N1 h => by obtain ⟨z, rfl, h1, h⟩ := h; exact k z M1 N1 h1 h)
theorem lT8_157 : LkT RX8 157 yJ0_charAt_5068e cJ0_charAt_5068e 2 ((some .char)) 1 := ⟨mw8_157, knyJ0_charAt_5068e, ksyJ0_charAt_5068e, kiyJ0_charAt_5068e, kyJ0_charAt_5068e, rfl, by decide +kernel, by decide +kernel, by decide +kernel⟩
theorem v8_157 {E : Ev} {cc : ByteArray} {nL : Nat} {ret : Option FieldType} {R : Room} {cl sl : Nat} {Z : Zt} {pc : Nat} {L st : List Vv} {M : Mm} {N : Nn} {i : Nat} {x0 : Int} {h : Nat} {P : Int → Mm → Nn → Prop} (hd : decode cc pc = .ok (.invokevirtual 157, 3)) (hct : Nat.ble (ctL st) 8 = true) (hR : Nat.ble (h + 1) R.frames = true ∧ Nat.ble (8 + (2 + 11) + 40 * h) R.locals = true) (hcl : Nat.ble cl R.cells = true ∧ Nat.ble sl R.slots = true) (hc : Ct E yJ0_charAt_5068e cJ0_charAt_5068e 2 ((some .char)) (rmH h) [vr (2, i, 0), vi x0] M N (qi P)) (hE : ES E) (hi : i < 8) (k : ∀ r M1 N1, R32 r → P r M1 N1 → Go E RX8 cc nL ret R cl sl Z (pc + 3) L (vi r :: st) M1 N1) : Go E RX8 cc nL ret R cl sl Z (pc) L (vi x0 :: vr (2, i, 0) :: st) M N := go_callT (As := [vi x0]) hd lT8_157 hE hi rfl rfl hct ⟨rfl, rfl⟩ ⟨Nat.le_of_ble_eq_true hR.1, Nat.le_of_ble_eq_true hR.2⟩ hc hcl (fun r M1 N1 h => by obtain ⟨z, rfl, h1, h⟩ := h; exact k z M1 N1 h1 h)
theorem lTJ0_335 : LkT RJ0 335 yJ0_coder_7d493 cJ0_coder_7d493 1 ((some .byte)) 0 := ⟨mwJ0_335, knyJ0_coder_7d493, ksyJ0_coder_7d493, kiyJ0_coder_7d493, kyJ0_coder_7d493, rfl, by decide +kernel, by decide +kernel, by decide +kernel⟩
theorem vJ0_335 {E : Ev} {cc : ByteArray} {nL : Nat} {ret : Option FieldType} {R : Room} {cl sl : Nat} {Z : Zt} {pc : Nat} {L st : List Vv} {M : Mm} {N : Nn} {i : Nat}  {h : Nat} {P : Int → Mm → Nn → Prop} (hd : decode cc pc = .ok (.invokevirtual 335, 3)) (hct : Nat.ble (ctL st) 8 = true) (hR : Nat.ble (h + 1) R.frames = true ∧ Nat.ble (8 + (1 + 11) + 40 * h) R.locals = true) (hcl : Nat.ble cl R.cells = true ∧ Nat.ble sl R.slots = true) (hc : Ct E yJ0_coder_7d493 cJ0_coder_7d493 1 ((some .byte)) (rmH h) [vr (2, i, 0)] M N (qi P)) (hE : ES E) (hi : i < 8) (k : ∀ r M1 N1, R32 r → P r M1 N1 → Go E RJ0 cc nL ret R cl sl Z (pc + 3) L (vi r :: st) M1 N1) : Go E RJ0 cc nL ret R cl sl Z (pc) L (vr (2, i, 0) :: st) M N := go_callT (As := []) hd lTJ0_335 hE hi rfl rfl hct ⟨rfl, rfl⟩ ⟨Nat.le_of_ble_eq_true hR.1, Nat.le_of_ble_eq_true hR.2⟩ hc hcl (fun r M1 N1 h => by obtain ⟨z, rfl, h1, h⟩ := h; exact k z M1 N1 h1 h)
theorem lTJ0_492 : LkT RJ0 492 yJ0_isLatin1_aae02 cJ0_isLatin1_aae02 1 ((some .boolean)) 0 := ⟨mwJ0_492, knyJ0_isLatin1_aae02, ksyJ0_isLatin1_aae02, kiyJ0_isLatin1_aae02, kyJ0_isLatin1_aae02, rfl, by decide +kernel, by decide +kernel, by decide +kernel⟩
theorem vJ0_492 {E : Ev} {cc : ByteArray} {nL : Nat} {ret : Option FieldType} {R : Room} {cl sl : Nat} {Z : Zt} {pc : Nat} {L st : List Vv} {M : Mm} {N : Nn} {i : Nat}  {h : Nat} {P : Int → Mm → Nn → Prop} (hd : decode cc pc = .ok (.invokevirtual 492, 3)) (hct : Nat.ble (ctL st) 8 = true) (hR : Nat.ble (h + 1) R.frames = true ∧ Nat.ble (8 + (1 + 11) + 40 * h) R.locals = true) (hcl : Nat.ble cl R.cells = true ∧ Nat.ble sl R.slots = true) (hc : Ct E yJ0_isLatin1_aae02 cJ0_isLatin1_aae02 1 ((some .boolean)) (rmH h) [vr (2, i, 0)] M N (qi P)) (hE : ES E) (hi : i < 8) (k : ∀ r M1 N1, R32 r → P r M1 N1 → Go E RJ0 cc nL ret R cl sl Z (pc + 3) L (vi r :: st) M1 N1) : Go E RJ0 cc nL ret R cl sl Z (pc) L (vr (2, i, 0) :: st) M N := go_callT (As := []) hd lTJ0_492 hE hi rfl rfl hct ⟨rfl, rfl⟩ ⟨Nat.le_of_ble_eq_true hR.1, Nat.le_of_ble_eq_true hR.2⟩ hc hcl (fun r M1 N1 h => by obtain ⟨z, rfl, h1, h⟩ := h; exact k z M1 N1 h1 h)
set_option maxRecDepth 100000 in
set_option maxHeartbeats 4000000 in
theorem ct_J3_checkIndex_8e157 {E : Ev} {M : Mm} {N : Nn} {a b : Int} {x : Nm} (h0 : 0 ≤ a) (h1 : a < b) : Ct E yJ3_checkIndex_8e157 cJ3_checkIndex_8e157 3 ((some .int)) (rmH 1) [vi a, vi b, vr x] M N (qi (fun r M1 N1 => r = a ∧ M = M1 ∧ N = N1)) := by
  refine ct_of (own := RJ3) (L0 := [vi a, vi b, vr x]) rfl (by decide +kernel) rfl rfl ?_
  refine go_iload_n dJ3_checkIndex_8e157_0 rfl ?_
  refine go_if_lt (tgt := 9) dJ3_checkIndex_8e157_1 rfl (fun h1 => ?_) (fun h1 => ?_)
  · exfalso; omega
  · refine go_iload_n dJ3_checkIndex_8e157_4 rfl ?_
    refine go_iload_n dJ3_checkIndex_8e157_5 rfl ?_
    refine go_icmp_lt (tgt := 16) dJ3_checkIndex_8e157_6 rfl (fun h6 => ?_) (fun h6 => ?_)
    · refine go_iload_n dJ3_checkIndex_8e157_16 rfl ?_
      exact go_reti dJ3_checkIndex_8e157_17 ⟨rfl, rfl, rfl⟩
    · exfalso; omega
set_option maxRecDepth 100000 in
set_option maxHeartbeats 4000000 in
theorem ct_J0_checkIndex_df160 {E : Ev} {M : Mm} {N : Nn} {a b : Int} (hE : ES E) (h0 : 0 ≤ a) (h1 : a < b) : Ct E yJ0_checkIndex_df160 cJ0_checkIndex_df160 2 (none) (rmH 2) [vi a, vi b] M N (qv (fun M1 N1 => M = M1 ∧ N = N1)) := by
  refine ct_of (own := RJ0) (L0 := [vi a, vi b]) rfl (by decide +kernel) rfl rfl ?_
  refine go_iload_n dJ0_checkIndex_df160_0 rfl ?_
  refine go_iload_n dJ0_checkIndex_df160_1 rfl ?_
  refine go_sfm hE dJ0_checkIndex_df160_2 ?_
  refine vJ0_1059 dJ0_checkIndex_df160_5 rfl ⟨rfl, rfl⟩ ⟨rfl, rfl⟩ (ct_J3_checkIndex_8e157 h0 h1) (fun r1 M1 N1 hr1 hq1 => ?_)
  obtain ⟨-, rfl, rfl⟩ := hq1
  first | refine go_pop_i dJ0_checkIndex_df160_8 ?_ | refine go_pop_r dJ0_checkIndex_df160_8 ?_
  exact go_retv dJ0_checkIndex_df160_9 ⟨rfl, rfl⟩
theorem sl_and {i : Nat} {x : Int} (hi : i < 8) (h0 : 0 ≤ x) (h1 : x < sln i) : ic16 (iand (sch i x) 255) = sch i x := by
  have q := sl_len i hi
  have q2 := sl_all i hi x.toNat (by omega)
  rw [Int.toNat_of_nonneg h0] at q2
  exact q2.2.1
theorem sl_rg {i : Nat} {x : Int} (hi : i < 8) (h0 : 0 ≤ x) (h1 : x < sln i) : 0 ≤ sch i x ∧ sch i x < 123 := by
  have q := sl_len i hi
  have q2 := sl_all i hi x.toNat (by omega)
  rw [Int.toNat_of_nonneg h0] at q2
  exact q2.2.2
theorem nar_c : ∀ k, k < 123 → narrow .char (.int (Int32.ofInt (k : Nat))) = .int (Int32.ofInt (k : Nat)) := by decide +kernel
theorem sl_nar {i : Nat} {x : Int} (hi : i < 8) (h0 : 0 ≤ x) (h1 : x < sln i) : narrow .char (.int (Int32.ofInt (sch i x))) = .int (Int32.ofInt (sch i x)) := by
  have q := sl_rg hi h0 h1
  have q2 := nar_c (sch i x).toNat (by omega)
  rw [Int.toNat_of_nonneg q.1] at q2
  exact q2
set_option maxRecDepth 100000 in
set_option maxHeartbeats 4000000 in
theorem ct_J1_charAt_3b067 {E : Ev} {M : Mm} {N : Nn} {i : Nat} {x : Int} (hE : ES E) (hi : i < 8) (h0 : 0 ≤ x) (h1 : x < sln i) : Ct E yJ1_charAt_3b067 cJ1_charAt_3b067 2 ((some .char)) (rmH 3) [vr (2, 8 + i, 0), vi x] M N (qi (fun r M1 N1 => r = sch i x ∧ M = M1 ∧ N = N1)) := by
  refine ct_of (own := RJ1) (L0 := [vr (2, 8 + i, 0), vi x]) rfl (by decide +kernel) rfl rfl ?_
  refine go_iload_n dJ1_charAt_3b067_0 rfl ?_
  refine go_aload_n dJ1_charAt_3b067_1 rfl rfl ?_
  refine go_slen hE hi dJ1_charAt_3b067_2 ?_
  refine vJ1_9 dJ1_charAt_3b067_3 rfl ⟨rfl, rfl⟩ ⟨rfl, rfl⟩ (ct_J0_checkIndex_df160 hE h0 h1) (fun M1 N1 hq1 => ?_)
  obtain ⟨rfl, rfl⟩ := hq1
  refine go_aload_n dJ1_charAt_3b067_6 rfl rfl ?_
  refine go_iload_n dJ1_charAt_3b067_7 rfl ?_
  refine go_sbyt hE hi h0 h1 dJ1_charAt_3b067_8 ?_
  refine go_sipush dJ1_charAt_3b067_9 ⟨by decide, by decide⟩ ?_
  refine go_iand dJ1_charAt_3b067_12 ?_
  refine go_i2c dJ1_charAt_3b067_13 ?_
  rw [sl_and hi h0 h1]
  exact go_rett dJ1_charAt_3b067_14 (sl_nar hi h0 h1) ⟨rfl, rfl, rfl⟩
set_option maxRecDepth 100000 in
set_option maxHeartbeats 4000000 in
theorem ct_J0_isLatin1_aae02 {E : Ev} {M : Mm} {N : Nn} {i : Nat} (hE : ES E) (hi : i < 8) : Ct E yJ0_isLatin1_aae02 cJ0_isLatin1_aae02 1 ((some .boolean)) (rmH 1) [vr (2, i, 0)] M N (qi (fun r M1 N1 => r = 1 ∧ M = M1 ∧ N = N1)) := by
  refine ct_of (own := RJ0) (L0 := [vr (2, i, 0)]) rfl (by decide +kernel) rfl rfl ?_
  refine go_scs hE dJ0_isLatin1_aae02_0 ?_
  refine go_if_eq (tgt := 17) dJ0_isLatin1_aae02_3 rfl (fun h3 => ?_) (fun h3 => ?_)
  · exfalso; omega
  · refine go_aload_n dJ0_isLatin1_aae02_6 rfl rfl ?_
    refine go_scod hE hi dJ0_isLatin1_aae02_7 ?_
    refine go_if_ne (tgt := 17) dJ0_isLatin1_aae02_10 rfl (fun h10 => ?_) (fun h10 => ?_)
    · exfalso; omega
    · refine go_iconst dJ0_isLatin1_aae02_13 (R32_lit rfl) ?_
      refine go_goto (tgt := 18) dJ0_isLatin1_aae02_14 rfl ?_
      exact go_retz dJ0_isLatin1_aae02_18 (by first | exact Or.inl rfl | exact Or.inr rfl | omega) ⟨rfl, rfl, rfl⟩
set_option maxRecDepth 100000 in
set_option maxHeartbeats 4000000 in
theorem ct_J0_coder_7d493 {E : Ev} {M : Mm} {N : Nn} {i : Nat} (hE : ES E) (hi : i < 8) : Ct E yJ0_coder_7d493 cJ0_coder_7d493 1 ((some .byte)) (rmH 1) [vr (2, i, 0)] M N (qi (fun r M1 N1 => r = 0 ∧ M = M1 ∧ N = N1)) := by
  refine ct_of (own := RJ0) (L0 := [vr (2, i, 0)]) rfl (by decide +kernel) rfl rfl ?_
  refine go_scs hE dJ0_coder_7d493_0 ?_
  refine go_if_eq (tgt := 13) dJ0_coder_7d493_3 rfl (fun h3 => ?_) (fun h3 => ?_)
  · exfalso; omega
  · refine go_aload_n dJ0_coder_7d493_6 rfl rfl ?_
    refine go_scod hE hi dJ0_coder_7d493_7 ?_
    refine go_goto (tgt := 14) dJ0_coder_7d493_10 rfl ?_
    exact go_rett dJ0_coder_7d493_14 rfl ⟨rfl, rfl, rfl⟩
set_option maxRecDepth 100000 in
set_option maxHeartbeats 4000000 in
theorem ct_J0_length_8abf5 {E : Ev} {M : Mm} {N : Nn} {i : Nat} (hE : ES E) (hi : i < 8) : Ct E yJ0_length_8abf5 cJ0_length_8abf5 1 ((some .int)) (rmH 2) [vr (2, i, 0)] M N (qi (fun r M1 N1 => r = sln i ∧ M = M1 ∧ N = N1)) := by
  refine ct_of (own := RJ0) (L0 := [vr (2, i, 0)]) rfl (by decide +kernel) rfl rfl ?_
  refine go_aload_n dJ0_length_8abf5_0 rfl rfl ?_
  refine go_sval hE hi dJ0_length_8abf5_1 ?_
  refine go_slen hE hi dJ0_length_8abf5_4 ?_
  refine go_aload_n dJ0_length_8abf5_5 rfl rfl ?_
  refine vJ0_335 dJ0_length_8abf5_6 rfl ⟨rfl, rfl⟩ ⟨rfl, rfl⟩ (ct_J0_coder_7d493 hE hi) hE hi (fun r1 M1 N1 hr1 hq1 => ?_)
  obtain ⟨rfl, rfl, rfl⟩ := hq1
  refine go_ishr dJ0_length_8abf5_9 ?_
  exact go_reti dJ0_length_8abf5_10 ⟨(sl_len i hi).2.2.1, rfl, rfl⟩
set_option maxRecDepth 100000 in
set_option maxHeartbeats 4000000 in
theorem ct_J0_charAt_5068e {E : Ev} {M : Mm} {N : Nn} {i : Nat} {x : Int} (hE : ES E) (hi : i < 8) (h0 : 0 ≤ x) (h1 : x < sln i) : Ct E yJ0_charAt_5068e cJ0_charAt_5068e 2 ((some .char)) (rmH 4) [vr (2, i, 0), vi x] M N (qi (fun r M1 N1 => r = sch i x ∧ M = M1 ∧ N = N1)) := by
  refine ct_of (own := RJ0) (L0 := [vr (2, i, 0), vi x]) rfl (by decide +kernel) rfl rfl ?_
  refine go_aload_n dJ0_charAt_5068e_0 rfl rfl ?_
  refine vJ0_492 dJ0_charAt_5068e_1 rfl ⟨rfl, rfl⟩ ⟨rfl, rfl⟩ (ct_J0_isLatin1_aae02 hE hi) hE hi (fun r1 M1 N1 hr1 hq1 => ?_)
  obtain ⟨rfl, rfl, rfl⟩ := hq1
  refine go_if_eq (tgt := 16) dJ0_charAt_5068e_4 rfl (fun h4 => ?_) (fun h4 => ?_)
  · exfalso; omega
  · refine go_aload_n dJ0_charAt_5068e_7 rfl rfl ?_
    refine go_sval hE hi dJ0_charAt_5068e_8 ?_
    refine go_iload_n dJ0_charAt_5068e_11 rfl ?_
    refine vJ0_495 dJ0_charAt_5068e_12 rfl ⟨rfl, rfl⟩ ⟨rfl, rfl⟩ (ct_J1_charAt_3b067 hE hi h0 h1) (fun r2 M2 N2 hr2 hq2 => ?_)
    obtain ⟨rfl, rfl, rfl⟩ := hq2
    exact go_rett dJ0_charAt_5068e_15 (sl_nar hi h0 h1) ⟨rfl, rfl, rfl⟩
/-- the word in sight is that one -/
def Wd (b : Int → Int) (kd pl af : Int) (i : Nat) : Prop := kd = 2 ∧ af - pl = sln i ∧ ∀ k, 0 ≤ k → k < sln i → b (pl + k) = sch i k
theorem Wd_step {b : Int → Int} {pl i : Int} {w : Nat} (h : ∀ k, 0 ≤ k → k < i → b (pl + k) = sch w k) (e : b (pl + i) = sch w i) : ∀ k, 0 ≤ k → k < i + 1 → b (pl + k) = sch w k := by
  intro k h0 h1
  by_cases q : k = i
  · rw [q]; exact e
  · exact h k h0 (by omega)
set_option maxRecDepth 100000 in
set_option maxHeartbeats 4000000 in
theorem lp_X4_reads {E : Ev} {M : Mm} {N : Nn} {w : Nat} (hE : ES E) (hw : w < 8) (hT : N (6, 0, 0) 2 = (4, 0, 0)) (hp0 : 0 ≤ M (6, 0, 0) 6) (hp1 : M (6, 0, 0) 6 ≤ 500) (ha0 : 0 ≤ M (6, 0, 0) 7) (ha1 : M (6, 0, 0) 7 ≤ 500) (hk : M (6, 0, 0) 5 = 2) (hs : M (6, 0, 0) 7 - M (6, 0, 0) 6 = sln w) : ∀ (n : Nat) (i : Int), (0 ≤ i) → (i ≤ sln w) → (i + n = sln w) → (∀ k, 0 ≤ k → k < i → (M (4, 0, 0)) (M (6, 0, 0) 6 + k) = sch w k) → Go E RX4 cX4_reads 3 ((some .boolean)) (rmH 5) 0 0 (zM E (qi (fun r M1 N1 => ((Wd (M (4, 0, 0)) (M (6, 0, 0) 5) (M (6, 0, 0) 6) (M (6, 0, 0) 7) w ∧ r = 1) ∨ (¬ Wd (M (4, 0, 0)) (M (6, 0, 0) 5) (M (6, 0, 0) 6) (M (6, 0, 0) 7) w ∧ r = 0)) ∧ M = M1 ∧ N = N1))) 28 [vr (6, 0, 0), vr (2, w, 0), vi i] [] M N := by
  intro n
  induction n using Nat.strongRecOn with
  | ind n ih =>
  intro i i0 i1 hn hpre
  refine go_iload_n dX4_reads_28 rfl ?_
  refine go_aload_n dX4_reads_29 rfl rfl ?_
  refine v4_149 dX4_reads_30 rfl ⟨rfl, rfl⟩ ⟨rfl, rfl⟩ (ct_J0_length_8abf5 hE hw) hE hw (fun r1 M1 N1 hr1 hq1 => ?_)
  obtain ⟨rfl, rfl, rfl⟩ := hq1
  refine go_icmp_ge (tgt := 63) dX4_reads_33 rfl (fun h33 => ?_) (fun h33 => ?_)
  · refine go_iconst dX4_reads_63 (R32_lit rfl) ?_
    exact go_retz dX4_reads_64 (by first | exact Or.inl rfl | exact Or.inr rfl | omega) ⟨Or.inl ⟨⟨hk, hs, fun k k0 k1 => hpre k k0 (by omega)⟩, rfl⟩, rfl, rfl⟩
  · refine go_aload_n dX4_reads_36 rfl rfl ?_
    refine g4_9 dX4_reads_37 ?_
    rw [hT]
    refine go_aload_n dX4_reads_40 rfl rfl ?_
    refine g4_54 dX4_reads_41 ?_
    refine go_iload_n dX4_reads_44 rfl ?_
    refine go_iaddc dX4_reads_45 ⟨by omega, by omega⟩ ?_
    refine go_bald dX4_reads_46 rfl (by omega) (by omega) ?_
    refine go_aload_n dX4_reads_47 rfl rfl ?_
    refine go_iload_n dX4_reads_48 rfl ?_
    refine v4_154 dX4_reads_49 rfl ⟨rfl, rfl⟩ ⟨rfl, rfl⟩ (ct_J0_charAt_5068e hE hw i0 (by omega)) hE hw (fun r2 M2 N2 hr2 hq2 => ?_)
    obtain ⟨rfl, rfl, rfl⟩ := hq2
    refine go_icmp_eq (tgt := 57) dX4_reads_52 rfl (fun h52 => ?_) (fun h52 => ?_)
    · refine go_iinc2c dX4_reads_57 rfl rfl ⟨by omega, by omega⟩ ?_
      refine go_goto (tgt := 28) dX4_reads_60 rfl ?_
      exact ih (n - 1) (by omega) (i + 1) (by omega) (by omega) (by omega) (Wd_step hpre h52)
    · refine go_iconst dX4_reads_55 (R32_lit rfl) ?_
      exact go_retz dX4_reads_56 (by first | exact Or.inl rfl | exact Or.inr rfl | omega) ⟨Or.inr ⟨fun q => h52 (q.2.2 i i0 (by omega)), rfl⟩, rfl, rfl⟩
set_option maxRecDepth 100000 in
set_option maxHeartbeats 4000000 in
theorem ct_X4_reads {E : Ev} {M : Mm} {N : Nn} {w : Nat} (hE : ES E) (hw : w < 8) (hT : N (6, 0, 0) 2 = (4, 0, 0)) (hp0 : 0 ≤ M (6, 0, 0) 6) (hp1 : M (6, 0, 0) 6 ≤ 500) (ha0 : 0 ≤ M (6, 0, 0) 7) (ha1 : M (6, 0, 0) 7 ≤ 500) : Ct E yX4_reads cX4_reads 3 ((some .boolean)) (rmH 5) [vr (6, 0, 0), vr (2, w, 0)] M N (qi (fun r M1 N1 => ((Wd (M (4, 0, 0)) (M (6, 0, 0) 5) (M (6, 0, 0) 6) (M (6, 0, 0) 7) w ∧ r = 1) ∨ (¬ Wd (M (4, 0, 0)) (M (6, 0, 0) 5) (M (6, 0, 0) 6) (M (6, 0, 0) 7) w ∧ r = 0)) ∧ M = M1 ∧ N = N1)) := by
  refine ct_of (own := RX4) (L0 := [vr (6, 0, 0), vr (2, w, 0), vn]) rfl (by decide +kernel) rfl rfl ?_
  refine go_aload_n dX4_reads_0 rfl rfl ?_
  refine g4_47 dX4_reads_1 ?_
  refine go_iconst dX4_reads_4 (R32_lit rfl) ?_
  refine go_icmp_ne (tgt := 24) dX4_reads_5 rfl (fun h5 => ?_) (fun h5 => ?_)
  · refine go_iconst dX4_reads_24 (R32_lit rfl) ?_
    refine go_retz dX4_reads_25 (by first | exact Or.inl rfl | exact Or.inr rfl | omega) ?_
    first
    | exact ⟨Or.inr ⟨fun q => absurd q.1 h5, rfl⟩, rfl, rfl⟩
    | exact ⟨Or.inr ⟨fun q => absurd q.2.1 h21, rfl⟩, rfl, rfl⟩
  · refine go_aload_n dX4_reads_8 rfl rfl ?_
    refine g4_37 dX4_reads_9 ?_
    refine go_aload_n dX4_reads_12 rfl rfl ?_
    refine g4_54 dX4_reads_13 ?_
    refine go_isubc dX4_reads_16 ⟨by omega, by omega⟩ ?_
    refine go_aload_n dX4_reads_17 rfl rfl ?_
    refine v4_149 dX4_reads_18 rfl ⟨rfl, rfl⟩ ⟨rfl, rfl⟩ (ct_J0_length_8abf5 hE hw) hE hw (fun r1 M1 N1 hr1 hq1 => ?_)
    obtain ⟨rfl, rfl, rfl⟩ := hq1
    refine go_icmp_eq (tgt := 26) dX4_reads_21 rfl (fun h21 => ?_) (fun h21 => ?_)
    · refine go_iconst dX4_reads_26 (R32_lit rfl) ?_
      refine go_ist2 dX4_reads_27 rfl rfl ?_
      exact lp_X4_reads hE hw hT hp0 hp1 ha0 ha1 h5 h21 (sln w).toNat 0 (by omega) (by have := sl_len w hw; omega) (by have := sl_len w hw; omega) (fun k k0 k1 => absurd k1 (by omega))
    · refine go_iconst dX4_reads_24 (R32_lit rfl) ?_
      refine go_retz dX4_reads_25 (by first | exact Or.inl rfl | exact Or.inr rfl | omega) ?_
      first
      | exact ⟨Or.inr ⟨fun q => absurd q.1 h5, rfl⟩, rfl, rfl⟩
      | exact ⟨Or.inr ⟨fun q => absurd q.2.1 h21, rfl⟩, rfl, rfl⟩
set_option maxRecDepth 100000 in
set_option maxHeartbeats 4000000 in
theorem lp_X8_isName {E : Ev} {M : Mm} {N : Nn} {w : Nat} (hE : ES E) (hw : w < 8)  (hp0 : 0 ≤ M (29, 0, 0) 16) (hp1 : M (29, 0, 0) 16 ≤ 500) (ha0 : 0 ≤ M (29, 0, 0) 17) (ha1 : M (29, 0, 0) 17 ≤ 500) (hk : M (29, 0, 0) 18 = 2) (hs : M (29, 0, 0) 17 - M (29, 0, 0) 16 = sln w) : ∀ (n : Nat) (i : Int), (0 ≤ i) → (i ≤ sln w) → (i + n = sln w) → (∀ k, 0 ≤ k → k < i → (M (30, 0, 4)) (M (29, 0, 0) 16 + k) = sch w k) → Go E RX8 cX8_isName 3 ((some .boolean)) (rmH 5) 0 0 (zM E (qi (fun r M1 N1 => ((Wd (M (30, 0, 4)) (M (29, 0, 0) 18) (M (29, 0, 0) 16) (M (29, 0, 0) 17) w ∧ r = 1) ∨ (¬ Wd (M (30, 0, 4)) (M (29, 0, 0) 18) (M (29, 0, 0) 16) (M (29, 0, 0) 17) w ∧ r = 0)) ∧ M = M1 ∧ N = N1))) 28 [vr (29, 0, 0), vr (2, w, 0), vi i] [] M N := by
  intro n
  induction n using Nat.strongRecOn with
  | ind n ih =>
  intro i i0 i1 hn hpre
  refine go_iload_n dX8_isName_28 rfl ?_
  refine go_aload_n dX8_isName_29 rfl rfl ?_
  refine v8_151 dX8_isName_30 rfl ⟨rfl, rfl⟩ ⟨rfl, rfl⟩ (ct_J0_length_8abf5 hE hw) hE hw (fun r1 M1 N1 hr1 hq1 => ?_)
  obtain ⟨rfl, rfl, rfl⟩ := hq1
  refine go_icmp_ge (tgt := 63) dX8_isName_33 rfl (fun h33 => ?_) (fun h33 => ?_)
  · refine go_iconst dX8_isName_63 (R32_lit rfl) ?_
    exact go_retz dX8_isName_64 (by first | exact Or.inl rfl | exact Or.inr rfl | omega) ⟨Or.inl ⟨⟨hk, hs, fun k k0 k1 => hpre k k0 (by omega)⟩, rfl⟩, rfl, rfl⟩
  · refine go_aload_n dX8_isName_36 rfl rfl ?_
    refine g8_15 dX8_isName_37 ?_
    refine go_aload_n dX8_isName_40 rfl rfl ?_
    refine g8_130 dX8_isName_41 ?_
    refine go_iload_n dX8_isName_44 rfl ?_
    refine go_iaddc dX8_isName_45 ⟨by omega, by omega⟩ ?_
    refine go_iald dX8_isName_46 rfl (by omega) (by omega) ?_
    refine go_aload_n dX8_isName_47 rfl rfl ?_
    refine go_iload_n dX8_isName_48 rfl ?_
    refine v8_157 dX8_isName_49 rfl ⟨rfl, rfl⟩ ⟨rfl, rfl⟩ (ct_J0_charAt_5068e hE hw i0 (by omega)) hE hw (fun r2 M2 N2 hr2 hq2 => ?_)
    obtain ⟨rfl, rfl, rfl⟩ := hq2
    refine go_icmp_eq (tgt := 57) dX8_isName_52 rfl (fun h52 => ?_) (fun h52 => ?_)
    · refine go_iinc2c dX8_isName_57 rfl rfl ⟨by omega, by omega⟩ ?_
      refine go_goto (tgt := 28) dX8_isName_60 rfl ?_
      exact ih (n - 1) (by omega) (i + 1) (by omega) (by omega) (by omega) (Wd_step hpre h52)
    · refine go_iconst dX8_isName_55 (R32_lit rfl) ?_
      exact go_retz dX8_isName_56 (by first | exact Or.inl rfl | exact Or.inr rfl | omega) ⟨Or.inr ⟨fun q => h52 (q.2.2 i i0 (by omega)), rfl⟩, rfl, rfl⟩
set_option maxRecDepth 100000 in
set_option maxHeartbeats 4000000 in
theorem ct_X8_isName {E : Ev} {M : Mm} {N : Nn} {w : Nat} (hE : ES E) (hw : w < 8)  (hp0 : 0 ≤ M (29, 0, 0) 16) (hp1 : M (29, 0, 0) 16 ≤ 500) (ha0 : 0 ≤ M (29, 0, 0) 17) (ha1 : M (29, 0, 0) 17 ≤ 500) : Ct E yX8_isName cX8_isName 3 ((some .boolean)) (rmH 5) [vr (29, 0, 0), vr (2, w, 0)] M N (qi (fun r M1 N1 => ((Wd (M (30, 0, 4)) (M (29, 0, 0) 18) (M (29, 0, 0) 16) (M (29, 0, 0) 17) w ∧ r = 1) ∨ (¬ Wd (M (30, 0, 4)) (M (29, 0, 0) 18) (M (29, 0, 0) 16) (M (29, 0, 0) 17) w ∧ r = 0)) ∧ M = M1 ∧ N = N1)) := by
  refine ct_of (own := RX8) (L0 := [vr (29, 0, 0), vr (2, w, 0), vn]) rfl (by decide +kernel) rfl rfl ?_
  refine go_aload_n dX8_isName_0 rfl rfl ?_
  refine g8_133 dX8_isName_1 ?_
  refine go_iconst dX8_isName_4 (R32_lit rfl) ?_
  refine go_icmp_ne (tgt := 24) dX8_isName_5 rfl (fun h5 => ?_) (fun h5 => ?_)
  · refine go_iconst dX8_isName_24 (R32_lit rfl) ?_
    refine go_retz dX8_isName_25 (by first | exact Or.inl rfl | exact Or.inr rfl | omega) ?_
    first
    | exact ⟨Or.inr ⟨fun q => absurd q.1 h5, rfl⟩, rfl, rfl⟩
    | exact ⟨Or.inr ⟨fun q => absurd q.2.1 h21, rfl⟩, rfl, rfl⟩
  · refine go_aload_n dX8_isName_8 rfl rfl ?_
    refine g8_123 dX8_isName_9 ?_
    refine go_aload_n dX8_isName_12 rfl rfl ?_
    refine g8_130 dX8_isName_13 ?_
    refine go_isubc dX8_isName_16 ⟨by omega, by omega⟩ ?_
    refine go_aload_n dX8_isName_17 rfl rfl ?_
    refine v8_151 dX8_isName_18 rfl ⟨rfl, rfl⟩ ⟨rfl, rfl⟩ (ct_J0_length_8abf5 hE hw) hE hw (fun r1 M1 N1 hr1 hq1 => ?_)
    obtain ⟨rfl, rfl, rfl⟩ := hq1
    refine go_icmp_eq (tgt := 26) dX8_isName_21 rfl (fun h21 => ?_) (fun h21 => ?_)
    · refine go_iconst dX8_isName_26 (R32_lit rfl) ?_
      refine go_ist2 dX8_isName_27 rfl rfl ?_
      exact lp_X8_isName hE hw  hp0 hp1 ha0 ha1 h5 h21 (sln w).toNat 0 (by omega) (by have := sl_len w hw; omega) (by have := sl_len w hw; omega) (fun k k0 k1 => absurd k1 (by omega))
    · refine go_iconst dX8_isName_24 (R32_lit rfl) ?_
      refine go_retz dX8_isName_25 (by first | exact Or.inl rfl | exact Or.inr rfl | omega) ?_
      first
      | exact ⟨Or.inr ⟨fun q => absurd q.1 h5, rfl⟩, rfl, rfl⟩
      | exact ⟨Or.inr ⟨fun q => absurd q.2.1 h21, rfl⟩, rfl, rfl⟩
