variable {E : Ev} {own : String} {cc : ByteArray} {nL : Nat} {ret : Option FieldType} {R : Room} {cl sl : Nat} {Z : Zt} {pc : Nat} {L st : List Vv} {M : Mm} {N : Nn}
theorem go_iconst {n : Int} (hd : decode cc pc = .ok (.iconst n, 1)) (hr : R32 n) (k : Go E own cc nL ret R cl sl Z (pc + 1) L (vi n :: st) M N) : Go E own cc nL ret R cl sl Z pc L (st) M N := by
  intro p e s m args below meth c C H locs ls hP hS hL hst hl
  have kk := k p e s m args below meth c C H locs ls hP hS hL (okL_cons hr hst) hl
  refine lv_iconst C.1 C.2.1 hd rfl ?_
  exact kk
theorem bi8 {n : Int} (h : -128 ≤ n ∧ n < 128) : (Int8.ofInt n).toInt32 = Int32.ofInt n := by
  apply o32_eq
  rw [Int8.toInt_toInt32]
  exact Int8.toInt_ofInt_of_le (by omega) (by omega)
theorem bi16 {n : Int} (h : -32768 ≤ n ∧ n < 32768) : (Int16.ofInt n).toInt32 = Int32.ofInt n := by
  apply o32_eq
  rw [Int16.toInt_toInt32]
  exact Int16.toInt_ofInt_of_le (by omega) (by omega)
theorem go_bipush {n : Int} (hd : decode cc pc = .ok (.bipush n, 2)) (hr : -128 ≤ n ∧ n < 128) (k : Go E own cc nL ret R cl sl Z (pc + 2) L (vi n :: st) M N) : Go E own cc nL ret R cl sl Z pc L (st) M N := by
  intro p e s m args below meth c C H locs ls hP hS hL hst hl
  have kk := k p e s m args below meth c C H locs ls hP hS hL (okL_cons ⟨by omega, by omega⟩ hst) hl
  refine lv_bipush C.1 C.2.1 hd (bi8 hr) ?_
  exact kk
theorem go_sipush {n : Int} (hd : decode cc pc = .ok (.sipush n, 3)) (hr : -32768 ≤ n ∧ n < 32768) (k : Go E own cc nL ret R cl sl Z (pc + 3) L (vi n :: st) M N) : Go E own cc nL ret R cl sl Z pc L (st) M N := by
  intro p e s m args below meth c C H locs ls hP hS hL hst hl
  have kk := k p e s m args below meth c C H locs ls hP hS hL (okL_cons ⟨by omega, by omega⟩ hst) hl
  refine lv_sipush C.1 C.2.1 hd (bi16 hr) ?_
  exact kk
theorem lc64 : ∀ n : Fin 2, Int64.ofNat (n : Nat) = Int64.ofInt ((n : Nat) : Int) := by decide
theorem go_lconst {n : Fin 2} {x : Int} (hd : decode cc pc = .ok (.lconst n, 1)) (hx : ((n : Nat) : Int) = x) (k : Go E own cc nL ret R cl sl Z (pc + 1) L (vl x :: st) M N) : Go E own cc nL ret R cl sl Z pc L (st) M N := by
  intro p e s m args below meth c C H locs ls hP hS hL hst hl
  have kk := k p e s m args below meth c C H locs ls hP hS hL (okL_cons (by have := n.2; unfold okv R64; omega) hst) hl
  refine lv_lconst (v := Int64.ofInt x) C.1 C.2.1 hd (by subst hx; exact lc64 n) ?_
  exact kk
theorem go_iload_n {j : Fin 4} {x : Int} (hd : decode cc pc = .ok (.iload_n j, 1)) (hx : L[(j : Nat)]? = some (vi x)) (k : Go E own cc nL ret R cl sl Z (pc + 1) L (vi x :: st) M N) : Go E own cc nL ret R cl sl Z pc L (st) M N := by
  intro p e s m args below meth c C H locs ls hP hS hL hst hl
  have kk := k p e s m args below meth c C H locs ls hP hS hL (okL_cons (hL.at hx) hst) hl
  refine lv_iload_n C.1 C.2.1 hd rfl (lvl_at hl hx (by intro h; cases h)) ?_
  exact kk
theorem go_iload {j : Nat} {x : Int} (hd : decode cc pc = .ok (.iload j, 2)) (hx : L[(j : Nat)]? = some (vi x)) (k : Go E own cc nL ret R cl sl Z (pc + 2) L (vi x :: st) M N) : Go E own cc nL ret R cl sl Z pc L (st) M N := by
  intro p e s m args below meth c C H locs ls hP hS hL hst hl
  have kk := k p e s m args below meth c C H locs ls hP hS hL (okL_cons (hL.at hx) hst) hl
  refine lv_iload C.1 C.2.1 hd  (lvl_at hl hx (by intro h; cases h)) ?_
  exact kk
theorem go_lload_n {j : Fin 4} {x : Int} (hd : decode cc pc = .ok (.lload_n j, 1)) (hx : L[(j : Nat)]? = some (vl x)) (k : Go E own cc nL ret R cl sl Z (pc + 1) L (vl x :: st) M N) : Go E own cc nL ret R cl sl Z pc L (st) M N := by
  intro p e s m args below meth c C H locs ls hP hS hL hst hl
  have kk := k p e s m args below meth c C H locs ls hP hS hL (okL_cons (hL.at hx) hst) hl
  refine lv_lload_n C.1 C.2.1 hd rfl (lvl_at hl hx (by intro h; cases h)) ?_
  exact kk
theorem go_lload {j : Nat} {x : Int} (hd : decode cc pc = .ok (.lload j, 2)) (hx : L[(j : Nat)]? = some (vl x)) (k : Go E own cc nL ret R cl sl Z (pc + 2) L (vl x :: st) M N) : Go E own cc nL ret R cl sl Z pc L (st) M N := by
  intro p e s m args below meth c C H locs ls hP hS hL hst hl
  have kk := k p e s m args below meth c C H locs ls hP hS hL (okL_cons (hL.at hx) hst) hl
  refine lv_lload C.1 C.2.1 hd  (lvl_at hl hx (by intro h; cases h)) ?_
  exact kk
theorem mem3 : ∀ n ∈ nmL, 3 ≤ n.1 := by decide +kernel
theorem orf_mem {n : Nm} (h : n ∈ nmL) : orf E n = some (eB E + adr n) := by
  have h3 := mem3 n h
  unfold orf
  rw [if_neg (by omega), if_neg (by omega), if_neg (by omega)]
theorem orf_some {n : Nm} (h : n.1 ≠ 0) : ∃ a, orf E n = some a := by
  unfold orf
  rw [if_neg h]
  split
  · exact ⟨_, rfl⟩
  · split
    · exact ⟨_, rfl⟩
    · exact ⟨_, rfl⟩
theorem go_aload_n {j : Fin 4} {n : Nm} (hd : decode cc pc = .ok (.aload_n j, 1)) (hx : L[(j : Nat)]? = some (vr n)) (hn : Nat.beq n.1 0 = false) (k : Go E own cc nL ret R cl sl Z (pc + 1) L (vr n :: st) M N) : Go E own cc nL ret R cl sl Z pc L st M N := by
  intro p e s m args below meth c C H locs ls hP hS hL hst hl
  have kk := k p e s m args below meth c C H locs ls hP hS hL (okL_cons (hL.at hx) hst) hl
  obtain ⟨a, ha⟩ := orf_some (E := E) (n := n) (fun h => by rw [h] at hn; cases hn)
  have hr : cv E (vr n) = .ref a := by show va_rf (orf E n) = _; rw [ha]; rfl
  have hx2 := lvl_at hl hx (by intro h; cases h)
  rw [hr] at hx2
  refine lv_aload_n C.1 C.2.1 hd rfl hx2 ?_
  rw [← hr]
  exact kk
theorem go_aload {j : Nat} {n : Nm} (hd : decode cc pc = .ok (.aload j, 2)) (hx : L[(j : Nat)]? = some (vr n)) (hn : Nat.beq n.1 0 = false) (k : Go E own cc nL ret R cl sl Z (pc + 2) L (vr n :: st) M N) : Go E own cc nL ret R cl sl Z pc L st M N := by
  intro p e s m args below meth c C H locs ls hP hS hL hst hl
  have kk := k p e s m args below meth c C H locs ls hP hS hL (okL_cons (hL.at hx) hst) hl
  obtain ⟨a, ha⟩ := orf_some (E := E) (n := n) (fun h => by rw [h] at hn; cases hn)
  have hr : cv E (vr n) = .ref a := by show va_rf (orf E n) = _; rw [ha]; rfl
  have hx2 := lvl_at hl hx (by intro h; cases h)
  rw [hr] at hx2
  refine lv_aload C.1 C.2.1 hd  hx2 ?_
  rw [← hr]
  exact kk
theorem go_istore_n {j : Fin 4} {x : Int} {L2 : List Vv} (hd : decode cc pc = .ok (.istore_n j, 1)) (hj : Nat.blt (j : Nat) nL = true) (h2 : st1 L (j : Nat) (vi x) = L2) (k : Go E own cc nL ret R cl sl Z (pc + 1) L2 st M N) : Go E own cc nL ret R cl sl Z pc L (vi x :: st) M N := by
  intro p e s m args below meth c C H locs ls hP hS hL hst hl
  subst h2
  refine lv_istore_n C.1 C.2.1 hd rfl hl (Nat.le_of_ble_eq_true hj) rfl (fun ls' hl' => ?_)
  exact k p e s m args below meth c C H locs ls' hP hS (okL_st1 hL hst.head) hst.tail (lv_mono hl' (lvl_st1 (E := E) (L := L) (i := (j : Nat)) (v := vi x)))
theorem go_istore {j : Nat} {x : Int} {L2 : List Vv} (hd : decode cc pc = .ok (.istore j, 2)) (hj : Nat.blt j nL = true) (h2 : st1 L j (vi x) = L2) (k : Go E own cc nL ret R cl sl Z (pc + 2) L2 st M N) : Go E own cc nL ret R cl sl Z pc L (vi x :: st) M N := by
  intro p e s m args below meth c C H locs ls hP hS hL hst hl
  subst h2
  refine lv_istore C.1 C.2.1 hd  hl (Nat.le_of_ble_eq_true hj) rfl (fun ls' hl' => ?_)
  exact k p e s m args below meth c C H locs ls' hP hS (okL_st1 hL hst.head) hst.tail (lv_mono hl' (lvl_st1 (E := E) (L := L) (i := j) (v := vi x)))
theorem go_lstore_n {j : Fin 4} {x : Int} {L2 : List Vv} (hd : decode cc pc = .ok (.lstore_n j, 1)) (hj : Nat.blt ((j : Nat) + 1) nL = true) (h2 : st2 L (j : Nat) (vl x) = L2) (k : Go E own cc nL ret R cl sl Z (pc + 1) L2 st M N) : Go E own cc nL ret R cl sl Z pc L (vl x :: st) M N := by
  intro p e s m args below meth c C H locs ls hP hS hL hst hl
  subst h2
  refine lv_lstore_n C.1 C.2.1 hd rfl hl (Nat.le_of_ble_eq_true hj) rfl (fun ls' hl' => ?_)
  exact k p e s m args below meth c C H locs ls' hP hS (okL_set (okL_st1 hL hst.head)) hst.tail (lv_mono hl' (lvl_st2 (E := E) (L := L) (i := (j : Nat)) (v := vl x)))
theorem go_lstore {j : Nat} {x : Int} {L2 : List Vv} (hd : decode cc pc = .ok (.lstore j, 2)) (hj : Nat.blt (j + 1) nL = true) (h2 : st2 L j (vl x) = L2) (k : Go E own cc nL ret R cl sl Z (pc + 2) L2 st M N) : Go E own cc nL ret R cl sl Z pc L (vl x :: st) M N := by
  intro p e s m args below meth c C H locs ls hP hS hL hst hl
  subst h2
  refine lv_lstore C.1 C.2.1 hd  hl (Nat.le_of_ble_eq_true hj) rfl (fun ls' hl' => ?_)
  exact k p e s m args below meth c C H locs ls' hP hS (okL_set (okL_st1 hL hst.head)) hst.tail (lv_mono hl' (lvl_st2 (E := E) (L := L) (i := j) (v := vl x)))
theorem go_astore_n {j : Fin 4} {n : Nm} {L2 : List Vv} (hd : decode cc pc = .ok (.astore_n j, 1)) (hj : Nat.blt (j : Nat) nL = true) (hn : Nat.beq n.1 0 = false) (h2 : st1 L (j : Nat) (vr n) = L2) (k : Go E own cc nL ret R cl sl Z (pc + 1) L2 st M N) : Go E own cc nL ret R cl sl Z pc L (vr n :: st) M N := by
  intro p e s m args below meth c C H locs ls hP hS hL hst hl
  subst h2
  obtain ⟨a, ha⟩ := orf_some (E := E) (n := n) (fun h => by rw [h] at hn; cases hn)
  have hr : cv E (vr n) = .ref a := by show va_rf (orf E n) = _; rw [ha]; rfl
  show W p (eL E) e R s m args below meth c H locs cl sl (Z below args s) (F0 m pc ls (cv E (vr n) :: st.map (cv E)))
  rw [hr]
  refine lv_astore_n C.1 C.2.1 hd rfl hl (Nat.le_of_ble_eq_true hj) rfl (fun ls' hl' => ?_)
  rw [← hr] at hl'
  exact k p e s m args below meth c C H locs ls' hP hS (okL_st1 hL hst.head) hst.tail (lv_mono hl' (lvl_st1 (E := E) (L := L) (i := (j : Nat)) (v := vr n)))
theorem go_astore {j : Nat} {n : Nm} {L2 : List Vv} (hd : decode cc pc = .ok (.astore j, 2)) (hj : Nat.blt j nL = true) (hn : Nat.beq n.1 0 = false) (h2 : st1 L j (vr n) = L2) (k : Go E own cc nL ret R cl sl Z (pc + 2) L2 st M N) : Go E own cc nL ret R cl sl Z pc L (vr n :: st) M N := by
  intro p e s m args below meth c C H locs ls hP hS hL hst hl
  subst h2
  obtain ⟨a, ha⟩ := orf_some (E := E) (n := n) (fun h => by rw [h] at hn; cases hn)
  have hr : cv E (vr n) = .ref a := by show va_rf (orf E n) = _; rw [ha]; rfl
  show W p (eL E) e R s m args below meth c H locs cl sl (Z below args s) (F0 m pc ls (cv E (vr n) :: st.map (cv E)))
  rw [hr]
  refine lv_astore C.1 C.2.1 hd  hl (Nat.le_of_ble_eq_true hj) rfl (fun ls' hl' => ?_)
  rw [← hr] at hl'
  exact k p e s m args below meth c C H locs ls' hP hS (okL_st1 hL hst.head) hst.tail (lv_mono hl' (lvl_st1 (E := E) (L := L) (i := j) (v := vr n)))
theorem go_iinc {j : Nat} {n x : Int} {L2 : List Vv} (hd : decode cc pc = .ok (.iinc j n, 3)) (hx : L[j]? = some (vi x)) (hj : Nat.blt j nL = true) (h2 : st1 L j (vi (w32 (x + n))) = L2) (k : Go E own cc nL ret R cl sl Z (pc + 3) L2 st M N) : Go E own cc nL ret R cl sl Z pc L st M N := by
  intro p e s m args below meth c C H locs ls hP hS hL hst hl
  subst h2
  have hm : (j, cv E (vi x)) ∈ lvl E L := lvl_mem.mpr ⟨vi x, hx, (by intro h; cases h), rfl⟩
  obtain ⟨i0, hi0⟩ := List.getElem?_of_mem hm
  refine lv_iinc (v := Int32.ofInt (w32 (x + n))) C.1 C.2.1 hd hl hi0 (by rw [o32, Int32.ofInt_add]) (Nat.le_of_ble_eq_true hj) rfl (fun ls' hl' => ?_)
  exact k p e s m args below meth c C H locs ls' hP hS (okL_st1 hL (w32_R _)) hst (lv_mono hl' (lvl_st1 (E := E) (L := L) (i := j) (v := vi (w32 (x + n)))))
theorem go_iadd {a b : Int} (hd : decode cc pc = .ok (.iadd, 1))  (k : Go E own cc nL ret R cl sl Z (pc + 1) L (vi (w32 (a + b)) :: st) M N) : Go E own cc nL ret R cl sl Z pc L (vi b :: vi a :: st) M N := by
  intro p e s m args below meth c C H locs ls hP hS hL hst hl
  have kk := k p e s m args below meth c C H locs ls hP hS hL (okL_cons (w32_R _) hst.tail.tail) hl
  refine lv_iadd C.1 C.2.1 hd  ?_
  rw [show Int32.ofInt a + Int32.ofInt b = Int32.ofInt (w32 (a + b)) by rw [o32, Int32.ofInt_add]]
  exact kk
theorem go_isub {a b : Int} (hd : decode cc pc = .ok (.isub, 1))  (k : Go E own cc nL ret R cl sl Z (pc + 1) L (vi (w32 (a - b)) :: st) M N) : Go E own cc nL ret R cl sl Z pc L (vi b :: vi a :: st) M N := by
  intro p e s m args below meth c C H locs ls hP hS hL hst hl
  have kk := k p e s m args below meth c C H locs ls hP hS hL (okL_cons (w32_R _) hst.tail.tail) hl
  refine lv_isub C.1 C.2.1 hd  ?_
  rw [show Int32.ofInt a - Int32.ofInt b = Int32.ofInt (w32 (a - b)) by rw [o32, Int32.ofInt_sub]]
  exact kk
theorem go_imul {a b : Int} (hd : decode cc pc = .ok (.imul, 1))  (k : Go E own cc nL ret R cl sl Z (pc + 1) L (vi (w32 (a * b)) :: st) M N) : Go E own cc nL ret R cl sl Z pc L (vi b :: vi a :: st) M N := by
  intro p e s m args below meth c C H locs ls hP hS hL hst hl
  have kk := k p e s m args below meth c C H locs ls hP hS hL (okL_cons (w32_R _) hst.tail.tail) hl
  refine lv_imul C.1 C.2.1 hd  ?_
  rw [show Int32.ofInt a * Int32.ofInt b = Int32.ofInt (w32 (a * b)) by rw [o32, Int32.ofInt_mul]]
  exact kk
theorem div32 {a b : Int} (ha : R32 a) (hb : R32 b) : Int32.ofInt a / Int32.ofInt b = Int32.ofInt (a.tdiv b) := by
  rw [← o32 (a.tdiv b)]
  apply o32_eq
  rw [Int32.toInt_div, i32 ha, i32 hb, w32_bmod]
theorem div64 {a b : Int} (ha : R64 a) (hb : R64 b) : Int64.ofInt a / Int64.ofInt b = Int64.ofInt (a.tdiv b) := by
  rw [← o64 (a.tdiv b)]
  apply o64_eq
  rw [Int64.toInt_div, i64 ha, i64 hb, w64_bmod]
theorem rem32 {a b : Int} (ha : R32 a) (hb : R32 b) : Int32.ofInt a - Int32.ofInt a / Int32.ofInt b * Int32.ofInt b = Int32.ofInt (a.tmod b) := by
  rw [div32 ha hb, ← Int32.ofInt_mul, ← Int32.ofInt_sub, Int.tmod_def, Int.mul_comm b]
theorem rem64 {a b : Int} (ha : R64 a) (hb : R64 b) : Int64.ofInt a - Int64.ofInt a / Int64.ofInt b * Int64.ofInt b = Int64.ofInt (a.tmod b) := by
  rw [div64 ha hb, ← Int64.ofInt_mul, ← Int64.ofInt_sub, Int.tmod_def, Int.mul_comm b]
theorem tmod_abs (a b : Int) : (a.tmod b).natAbs ≤ a.natAbs := by
  rw [Int.natAbs_tmod]
  exact Nat.mod_le _ _
theorem tmod_R32 {a b : Int} (ha : R32 a) : R32 (a.tmod b) := by
  have h := tmod_abs a b
  by_cases h0 : 0 ≤ a
  · have := Int.tmod_nonneg b h0
    unfold R32 at *; omega
  · have := Int.tmod_nonneg b (show 0 ≤ -a by omega)
    rw [Int.neg_tmod] at this
    unfold R32 at *; omega
theorem tmod_R64 {a b : Int} (ha : R64 a) : R64 (a.tmod b) := by
  have h := tmod_abs a b
  by_cases h0 : 0 ≤ a
  · have := Int.tmod_nonneg b h0
    unfold R64 at *; omega
  · have := Int.tmod_nonneg b (show 0 ≤ -a by omega)
    rw [Int.neg_tmod] at this
    unfold R64 at *; omega
theorem go_idiv {a b : Int} (hd : decode cc pc = .ok (.idiv, 1)) (hb : b ≠ 0) (k : Go E own cc nL ret R cl sl Z (pc + 1) L (vi (w32 (a.tdiv b)) :: st) M N) : Go E own cc nL ret R cl sl Z pc L (vi b :: vi a :: st) M N := by
  intro p e s m args below meth c C H locs ls hP hS hL hst hl
  have kk := k p e s m args below meth c C H locs ls hP hS hL (okL_cons (w32_R _) hst.tail.tail) hl
  refine lv_idiv C.1 C.2.1 hd (fun h => hb ((eq32 hst.head (R32_lit rfl)).mp h)) ?_
  rw [div32 hst.tail.head hst.head, ← o32]
  exact kk
theorem go_irem {a b : Int} (hd : decode cc pc = .ok (.irem, 1)) (hb : b ≠ 0) (k : Go E own cc nL ret R cl sl Z (pc + 1) L (vi (a.tmod b) :: st) M N) : Go E own cc nL ret R cl sl Z pc L (vi b :: vi a :: st) M N := by
  intro p e s m args below meth c C H locs ls hP hS hL hst hl
  have kk := k p e s m args below meth c C H locs ls hP hS hL (okL_cons (tmod_R32 hst.tail.head) hst.tail.tail) hl
  refine lv_irem C.1 C.2.1 hd (fun h => hb ((eq32 hst.head (R32_lit rfl)).mp h)) ?_
  rw [rem32 hst.tail.head hst.head]
  exact kk
theorem go_iand {a b : Int} (hd : decode cc pc = .ok (.iand, 1))  (k : Go E own cc nL ret R cl sl Z (pc + 1) L (vi (iand a b) :: st) M N) : Go E own cc nL ret R cl sl Z pc L (vi b :: vi a :: st) M N := by
  intro p e s m args below meth c C H locs ls hP hS hL hst hl
  have kk := k p e s m args below meth c C H locs ls hP hS hL (okL_cons (R32_of _) hst.tail.tail) hl
  refine lv_iand C.1 C.2.1 hd  ?_
  rw [show Int32.ofInt a &&& Int32.ofInt b = Int32.ofInt (iand a b) from (Int32.ofInt_toInt _).symm]
  exact kk
theorem go_ior {a b : Int} (hd : decode cc pc = .ok (.ior, 1))  (k : Go E own cc nL ret R cl sl Z (pc + 1) L (vi (ior a b) :: st) M N) : Go E own cc nL ret R cl sl Z pc L (vi b :: vi a :: st) M N := by
  intro p e s m args below meth c C H locs ls hP hS hL hst hl
  have kk := k p e s m args below meth c C H locs ls hP hS hL (okL_cons (R32_of _) hst.tail.tail) hl
  refine lv_ior C.1 C.2.1 hd  ?_
  rw [show Int32.ofInt a ||| Int32.ofInt b = Int32.ofInt (ior a b) from (Int32.ofInt_toInt _).symm]
  exact kk
theorem go_ishl {a b : Int} (hd : decode cc pc = .ok (.ishl, 1))  (k : Go E own cc nL ret R cl sl Z (pc + 1) L (vi (ishl a b) :: st) M N) : Go E own cc nL ret R cl sl Z pc L (vi b :: vi a :: st) M N := by
  intro p e s m args below meth c C H locs ls hP hS hL hst hl
  have kk := k p e s m args below meth c C H locs ls hP hS hL (okL_cons (R32_of _) hst.tail.tail) hl
  refine lv_ishl C.1 C.2.1 hd  ?_
  rw [show Int32.ofInt a <<< (Int32.ofInt b &&& 31) = Int32.ofInt (ishl a b) from (Int32.ofInt_toInt _).symm]
  exact kk
theorem go_ishr {a b : Int} (hd : decode cc pc = .ok (.ishr, 1))  (k : Go E own cc nL ret R cl sl Z (pc + 1) L (vi (ishr a b) :: st) M N) : Go E own cc nL ret R cl sl Z pc L (vi b :: vi a :: st) M N := by
  intro p e s m args below meth c C H locs ls hP hS hL hst hl
  have kk := k p e s m args below meth c C H locs ls hP hS hL (okL_cons (R32_of _) hst.tail.tail) hl
  refine lv_ishr C.1 C.2.1 hd  ?_
  rw [show Int32.ofInt a >>> (Int32.ofInt b &&& 31) = Int32.ofInt (ishr a b) from (Int32.ofInt_toInt _).symm]
  exact kk
theorem go_ineg {a : Int} (hd : decode cc pc = .ok (.ineg, 1))  (k : Go E own cc nL ret R cl sl Z (pc + 1) L (vi (w32 (-a)) :: st) M N) : Go E own cc nL ret R cl sl Z pc L (vi a :: st) M N := by
  intro p e s m args below meth c C H locs ls hP hS hL hst hl
  have kk := k p e s m args below meth c C H locs ls hP hS hL (okL_cons (w32_R _) hst.tail) hl
  refine lv_ineg C.1 C.2.1 hd  ?_
  rw [show -Int32.ofInt a = Int32.ofInt (w32 (-a)) by rw [o32, Int32.ofInt_neg]]
  exact kk
theorem go_ladd {a b : Int} (hd : decode cc pc = .ok (.ladd, 1))  (k : Go E own cc nL ret R cl sl Z (pc + 1) L (vl (w64 (a + b)) :: st) M N) : Go E own cc nL ret R cl sl Z pc L (vl b :: vl a :: st) M N := by
  intro p e s m args below meth c C H locs ls hP hS hL hst hl
  have kk := k p e s m args below meth c C H locs ls hP hS hL (okL_cons (w64_R _) hst.tail.tail) hl
  refine lv_ladd C.1 C.2.1 hd  ?_
  rw [show Int64.ofInt a + Int64.ofInt b = Int64.ofInt (w64 (a + b)) by rw [o64, Int64.ofInt_add]]
  exact kk
theorem go_lsub {a b : Int} (hd : decode cc pc = .ok (.lsub, 1))  (k : Go E own cc nL ret R cl sl Z (pc + 1) L (vl (w64 (a - b)) :: st) M N) : Go E own cc nL ret R cl sl Z pc L (vl b :: vl a :: st) M N := by
  intro p e s m args below meth c C H locs ls hP hS hL hst hl
  have kk := k p e s m args below meth c C H locs ls hP hS hL (okL_cons (w64_R _) hst.tail.tail) hl
  refine lv_lsub C.1 C.2.1 hd  ?_
  rw [show Int64.ofInt a - Int64.ofInt b = Int64.ofInt (w64 (a - b)) by rw [o64, Int64.ofInt_sub]]
  exact kk
theorem go_lmul {a b : Int} (hd : decode cc pc = .ok (.lmul, 1))  (k : Go E own cc nL ret R cl sl Z (pc + 1) L (vl (w64 (a * b)) :: st) M N) : Go E own cc nL ret R cl sl Z pc L (vl b :: vl a :: st) M N := by
  intro p e s m args below meth c C H locs ls hP hS hL hst hl
  have kk := k p e s m args below meth c C H locs ls hP hS hL (okL_cons (w64_R _) hst.tail.tail) hl
  refine lv_lmul C.1 C.2.1 hd  ?_
  rw [show Int64.ofInt a * Int64.ofInt b = Int64.ofInt (w64 (a * b)) by rw [o64, Int64.ofInt_mul]]
  exact kk
theorem go_ldiv {a b : Int} (hd : decode cc pc = .ok (.ldiv, 1)) (hb : b ≠ 0) (k : Go E own cc nL ret R cl sl Z (pc + 1) L (vl (w64 (a.tdiv b)) :: st) M N) : Go E own cc nL ret R cl sl Z pc L (vl b :: vl a :: st) M N := by
  intro p e s m args below meth c C H locs ls hP hS hL hst hl
  have kk := k p e s m args below meth c C H locs ls hP hS hL (okL_cons (w64_R _) hst.tail.tail) hl
  refine lv_ldiv C.1 C.2.1 hd (fun h => hb ((eq64 hst.head (R64_lit rfl)).mp h)) ?_
  rw [div64 hst.tail.head hst.head, ← o64]
  exact kk
theorem go_lrem {a b : Int} (hd : decode cc pc = .ok (.lrem, 1)) (hb : b ≠ 0) (k : Go E own cc nL ret R cl sl Z (pc + 1) L (vl (a.tmod b) :: st) M N) : Go E own cc nL ret R cl sl Z pc L (vl b :: vl a :: st) M N := by
  intro p e s m args below meth c C H locs ls hP hS hL hst hl
  have kk := k p e s m args below meth c C H locs ls hP hS hL (okL_cons (tmod_R64 hst.tail.head) hst.tail.tail) hl
  refine lv_lrem C.1 C.2.1 hd (fun h => hb ((eq64 hst.head (R64_lit rfl)).mp h)) ?_
  rw [rem64 hst.tail.head hst.head]
  exact kk
theorem go_land {a b : Int} (hd : decode cc pc = .ok (.land, 1))  (k : Go E own cc nL ret R cl sl Z (pc + 1) L (vl (land a b) :: st) M N) : Go E own cc nL ret R cl sl Z pc L (vl b :: vl a :: st) M N := by
  intro p e s m args below meth c C H locs ls hP hS hL hst hl
  have kk := k p e s m args below meth c C H locs ls hP hS hL (okL_cons (R64_of _) hst.tail.tail) hl
  refine lv_land C.1 C.2.1 hd  ?_
  rw [show Int64.ofInt a &&& Int64.ofInt b = Int64.ofInt (land a b) from (Int64.ofInt_toInt _).symm]
  exact kk
theorem go_lxor {a b : Int} (hd : decode cc pc = .ok (.lxor, 1))  (k : Go E own cc nL ret R cl sl Z (pc + 1) L (vl (lxor a b) :: st) M N) : Go E own cc nL ret R cl sl Z pc L (vl b :: vl a :: st) M N := by
  intro p e s m args below meth c C H locs ls hP hS hL hst hl
  have kk := k p e s m args below meth c C H locs ls hP hS hL (okL_cons (R64_of _) hst.tail.tail) hl
  refine lv_lxor C.1 C.2.1 hd  ?_
  rw [show Int64.ofInt a ^^^ Int64.ofInt b = Int64.ofInt (lxor a b) from (Int64.ofInt_toInt _).symm]
  exact kk
theorem go_lneg {a : Int} (hd : decode cc pc = .ok (.lneg, 1))  (k : Go E own cc nL ret R cl sl Z (pc + 1) L (vl (w64 (-a)) :: st) M N) : Go E own cc nL ret R cl sl Z pc L (vl a :: st) M N := by
  intro p e s m args below meth c C H locs ls hP hS hL hst hl
  have kk := k p e s m args below meth c C H locs ls hP hS hL (okL_cons (w64_R _) hst.tail) hl
  refine lv_lneg C.1 C.2.1 hd  ?_
  rw [show -Int64.ofInt a = Int64.ofInt (w64 (-a)) by rw [o64, Int64.ofInt_neg]]
  exact kk
theorem go_lshl {a b : Int} (hd : decode cc pc = .ok (.lshl, 1))  (k : Go E own cc nL ret R cl sl Z (pc + 1) L (vl (lshl a b) :: st) M N) : Go E own cc nL ret R cl sl Z pc L (vi b :: vl a :: st) M N := by
  intro p e s m args below meth c C H locs ls hP hS hL hst hl
  have kk := k p e s m args below meth c C H locs ls hP hS hL (okL_cons (R64_of _) hst.tail.tail) hl
  refine lv_lshl C.1 C.2.1 hd (Int64.ofInt_toInt _).symm ?_
  exact kk
theorem go_lshr {a b : Int} (hd : decode cc pc = .ok (.lshr, 1))  (k : Go E own cc nL ret R cl sl Z (pc + 1) L (vl (lshr a b) :: st) M N) : Go E own cc nL ret R cl sl Z pc L (vi b :: vl a :: st) M N := by
  intro p e s m args below meth c C H locs ls hP hS hL hst hl
  have kk := k p e s m args below meth c C H locs ls hP hS hL (okL_cons (R64_of _) hst.tail.tail) hl
  refine lv_lshr C.1 C.2.1 hd (Int64.ofInt_toInt _).symm ?_
  exact kk
theorem go_i2l {a : Int} (hd : decode cc pc = .ok (.i2l, 1))  (k : Go E own cc nL ret R cl sl Z (pc + 1) L (vl a :: st) M N) : Go E own cc nL ret R cl sl Z pc L (vi a :: st) M N := by
  intro p e s m args below meth c C H locs ls hP hS hL hst hl
  have kk := k p e s m args below meth c C H locs ls hP hS hL (okL_cons (R32.to64 hst.head) hst.tail) hl
  refine lv_i2l (v := Int64.ofInt a) C.1 C.2.1 hd (o64_eq (by rw [Int32.toInt_toInt64]; exact i32 hst.head)) ?_
  exact kk
theorem go_l2i {a : Int} (hd : decode cc pc = .ok (.l2i, 1))  (k : Go E own cc nL ret R cl sl Z (pc + 1) L (vi (w32 a) :: st) M N) : Go E own cc nL ret R cl sl Z pc L (vl a :: st) M N := by
  intro p e s m args below meth c C H locs ls hP hS hL hst hl
  have kk := k p e s m args below meth c C H locs ls hP hS hL (okL_cons (w32_R _) hst.tail) hl
  refine lv_l2i (v := Int32.ofInt (w32 a)) C.1 C.2.1 hd (o32_eq (by rw [Int64.toInt_toInt32, i64 hst.head, w32_bmod])) ?_
  exact kk
theorem ib8_R (a : Int) : R32 (ib8 a) := by unfold R32 ib8; omega
theorem ib8_bmod (x : Int) : ib8 x = x.bmod 256 := by
  unfold ib8
  rw [Int.bmod_def]
  split <;> omega
theorem go_i2b {a : Int} (hd : decode cc pc = .ok (.i2b, 1))  (k : Go E own cc nL ret R cl sl Z (pc + 1) L (vi (ib8 a) :: st) M N) : Go E own cc nL ret R cl sl Z pc L (vi a :: st) M N := by
  intro p e s m args below meth c C H locs ls hP hS hL hst hl
  have kk := k p e s m args below meth c C H locs ls hP hS hL (okL_cons (ib8_R _) hst.tail) hl
  refine lv_i2b (v := Int32.ofInt (ib8 a)) C.1 C.2.1 hd (o32_eq (by rw [Int8.toInt_toInt32, Int32.toInt_toInt8, i32 hst.head, ib8_bmod])) ?_
  exact kk
theorem cat1 {v : Vv} (h : ∀ x, v ≠ vl x) : (cv E v).category = 1 := (lv_cat _).resolve_right (fun q => (cv_cat2.mp q).elim h)
theorem go_dup_i {x : Int} (hd : decode cc pc = .ok (.dup, 1)) (k : Go E own cc nL ret R cl sl Z (pc + 1) L (vi x :: vi x :: st) M N) : Go E own cc nL ret R cl sl Z pc L (vi x :: st) M N := by
  intro p e s m args below meth c C H locs ls hP hS hL hst hl
  have kk := k p e s m args below meth c C H locs ls hP hS hL (okL_cons hst.head hst) hl
  exact lv_dup C.1 C.2.1 hd (cat1 (fun _ h => by cases h)) kk
theorem go_pop_i {x : Int} (hd : decode cc pc = .ok (.pop, 1)) (k : Go E own cc nL ret R cl sl Z (pc + 1) L st M N) : Go E own cc nL ret R cl sl Z pc L (vi x :: st) M N := by
  intro p e s m args below meth c C H locs ls hP hS hL hst hl
  have kk := k p e s m args below meth c C H locs ls hP hS hL hst.tail hl
  exact lv_pop C.1 C.2.1 hd (cat1 (fun _ h => by cases h)) kk
theorem go_dup_r {n : Nm} (hd : decode cc pc = .ok (.dup, 1)) (k : Go E own cc nL ret R cl sl Z (pc + 1) L (vr n :: vr n :: st) M N) : Go E own cc nL ret R cl sl Z pc L (vr n :: st) M N := by
  intro p e s m args below meth c C H locs ls hP hS hL hst hl
  have kk := k p e s m args below meth c C H locs ls hP hS hL (okL_cons hst.head hst) hl
  exact lv_dup C.1 C.2.1 hd (cat1 (fun _ h => by cases h)) kk
theorem go_pop_r {n : Nm} (hd : decode cc pc = .ok (.pop, 1)) (k : Go E own cc nL ret R cl sl Z (pc + 1) L st M N) : Go E own cc nL ret R cl sl Z pc L (vr n :: st) M N := by
  intro p e s m args below meth c C H locs ls hP hS hL hst hl
  have kk := k p e s m args below meth c C H locs ls hP hS hL hst.tail hl
  exact lv_pop C.1 C.2.1 hd (cat1 (fun _ h => by cases h)) kk
theorem go_dup2_ir {x : Int} {n : Nm} (hd : decode cc pc = .ok (.dup2, 1)) (k : Go E own cc nL ret R cl sl Z (pc + 1) L (vi x :: vr n :: vi x :: vr n :: st) M N) : Go E own cc nL ret R cl sl Z pc L (vi x :: vr n :: st) M N := by
  intro p e s m args below meth c C H locs ls hP hS hL hst hl
  have kk := k p e s m args below meth c C H locs ls hP hS hL (okL_cons hst.head (okL_cons hst.tail.head hst)) hl
  exact lv_dup2_11 C.1 C.2.1 hd (cat1 (fun _ h => by cases h)) (cat1 (fun _ h => by cases h)) kk
theorem go_icmp_eq {a b off : Int} {tgt : Nat} (hd : decode cc pc = .ok (.if_icmp .eq off, 3)) (ht : (pc : Int) + off = (tgt : Int)) (kt : a = b → Go E own cc nL ret R cl sl Z tgt L st M N) (kf : ¬ (a = b) → Go E own cc nL ret R cl sl Z (pc + 3) L st M N) : Go E own cc nL ret R cl sl Z pc L (vi b :: vi a :: st) M N := by
  intro p e s m args below meth c C H locs ls hP hS hL hst hl
  refine lv_icmp_eq C.1 C.2.1 hd ht (fun h => ?_) (fun h => ?_)
  · exact kt ((eq32 hst.tail.head hst.head).mp h) p e s m args below meth c C H locs ls hP hS hL hst.tail.tail hl
  · exact kf (fun q => h ((eq32 hst.tail.head hst.head).mpr q)) p e s m args below meth c C H locs ls hP hS hL hst.tail.tail hl
theorem go_if_eq {a off : Int} {tgt : Nat} (hd : decode cc pc = .ok (.ifCond .eq off, 3)) (ht : (pc : Int) + off = (tgt : Int)) (kt : a = 0 → Go E own cc nL ret R cl sl Z tgt L st M N) (kf : ¬ (a = 0) → Go E own cc nL ret R cl sl Z (pc + 3) L st M N) : Go E own cc nL ret R cl sl Z pc L (vi a :: st) M N := by
  intro p e s m args below meth c C H locs ls hP hS hL hst hl
  refine lv_if_eq C.1 C.2.1 hd ht (fun h => ?_) (fun h => ?_)
  · exact kt ((eq32 hst.head (R32_lit rfl)).mp h) p e s m args below meth c C H locs ls hP hS hL hst.tail hl
  · exact kf (fun q => h ((eq32 hst.head (R32_lit rfl)).mpr q)) p e s m args below meth c C H locs ls hP hS hL hst.tail hl
theorem go_icmp_ne {a b off : Int} {tgt : Nat} (hd : decode cc pc = .ok (.if_icmp .ne off, 3)) (ht : (pc : Int) + off = (tgt : Int)) (kt : a ≠ b → Go E own cc nL ret R cl sl Z tgt L st M N) (kf : a = b → Go E own cc nL ret R cl sl Z (pc + 3) L st M N) : Go E own cc nL ret R cl sl Z pc L (vi b :: vi a :: st) M N := by
  intro p e s m args below meth c C H locs ls hP hS hL hst hl
  refine lv_icmp_ne C.1 C.2.1 hd ht (fun h => ?_) (fun h => ?_)
  · exact kt ((not_congr (eq32 hst.tail.head hst.head)).mp h) p e s m args below meth c C H locs ls hP hS hL hst.tail.tail hl
  · exact kf ((eq32 hst.tail.head hst.head).mp h) p e s m args below meth c C H locs ls hP hS hL hst.tail.tail hl
theorem go_if_ne {a off : Int} {tgt : Nat} (hd : decode cc pc = .ok (.ifCond .ne off, 3)) (ht : (pc : Int) + off = (tgt : Int)) (kt : a ≠ 0 → Go E own cc nL ret R cl sl Z tgt L st M N) (kf : a = 0 → Go E own cc nL ret R cl sl Z (pc + 3) L st M N) : Go E own cc nL ret R cl sl Z pc L (vi a :: st) M N := by
  intro p e s m args below meth c C H locs ls hP hS hL hst hl
  refine lv_if_ne C.1 C.2.1 hd ht (fun h => ?_) (fun h => ?_)
  · exact kt ((not_congr (eq32 hst.head (R32_lit rfl))).mp h) p e s m args below meth c C H locs ls hP hS hL hst.tail hl
  · exact kf ((eq32 hst.head (R32_lit rfl)).mp h) p e s m args below meth c C H locs ls hP hS hL hst.tail hl
theorem go_icmp_lt {a b off : Int} {tgt : Nat} (hd : decode cc pc = .ok (.if_icmp .lt off, 3)) (ht : (pc : Int) + off = (tgt : Int)) (kt : a < b → Go E own cc nL ret R cl sl Z tgt L st M N) (kf : ¬ (a < b) → Go E own cc nL ret R cl sl Z (pc + 3) L st M N) : Go E own cc nL ret R cl sl Z pc L (vi b :: vi a :: st) M N := by
  intro p e s m args below meth c C H locs ls hP hS hL hst hl
  refine lv_icmp_lt C.1 C.2.1 hd ht (fun h => ?_) (fun h => ?_)
  · exact kt ((lt32 hst.tail.head hst.head).mp h) p e s m args below meth c C H locs ls hP hS hL hst.tail.tail hl
  · exact kf (fun q => h ((lt32 hst.tail.head hst.head).mpr q)) p e s m args below meth c C H locs ls hP hS hL hst.tail.tail hl
theorem go_if_lt {a off : Int} {tgt : Nat} (hd : decode cc pc = .ok (.ifCond .lt off, 3)) (ht : (pc : Int) + off = (tgt : Int)) (kt : a < 0 → Go E own cc nL ret R cl sl Z tgt L st M N) (kf : ¬ (a < 0) → Go E own cc nL ret R cl sl Z (pc + 3) L st M N) : Go E own cc nL ret R cl sl Z pc L (vi a :: st) M N := by
  intro p e s m args below meth c C H locs ls hP hS hL hst hl
  refine lv_if_lt C.1 C.2.1 hd ht (fun h => ?_) (fun h => ?_)
  · exact kt ((lt32 hst.head (R32_lit rfl)).mp h) p e s m args below meth c C H locs ls hP hS hL hst.tail hl
  · exact kf (fun q => h ((lt32 hst.head (R32_lit rfl)).mpr q)) p e s m args below meth c C H locs ls hP hS hL hst.tail hl
theorem go_icmp_ge {a b off : Int} {tgt : Nat} (hd : decode cc pc = .ok (.if_icmp .ge off, 3)) (ht : (pc : Int) + off = (tgt : Int)) (kt : b ≤ a → Go E own cc nL ret R cl sl Z tgt L st M N) (kf : ¬ (b ≤ a) → Go E own cc nL ret R cl sl Z (pc + 3) L st M N) : Go E own cc nL ret R cl sl Z pc L (vi b :: vi a :: st) M N := by
  intro p e s m args below meth c C H locs ls hP hS hL hst hl
  refine lv_icmp_ge C.1 C.2.1 hd ht (fun h => ?_) (fun h => ?_)
  · exact kt ((le32 hst.head hst.tail.head).mp h) p e s m args below meth c C H locs ls hP hS hL hst.tail.tail hl
  · exact kf (fun q => h ((le32 hst.head hst.tail.head).mpr q)) p e s m args below meth c C H locs ls hP hS hL hst.tail.tail hl
theorem go_if_ge {a off : Int} {tgt : Nat} (hd : decode cc pc = .ok (.ifCond .ge off, 3)) (ht : (pc : Int) + off = (tgt : Int)) (kt : 0 ≤ a → Go E own cc nL ret R cl sl Z tgt L st M N) (kf : ¬ (0 ≤ a) → Go E own cc nL ret R cl sl Z (pc + 3) L st M N) : Go E own cc nL ret R cl sl Z pc L (vi a :: st) M N := by
  intro p e s m args below meth c C H locs ls hP hS hL hst hl
  refine lv_if_ge C.1 C.2.1 hd ht (fun h => ?_) (fun h => ?_)
  · exact kt ((le32 (R32_lit rfl) hst.head).mp h) p e s m args below meth c C H locs ls hP hS hL hst.tail hl
  · exact kf (fun q => h ((le32 (R32_lit rfl) hst.head).mpr q)) p e s m args below meth c C H locs ls hP hS hL hst.tail hl
theorem go_icmp_gt {a b off : Int} {tgt : Nat} (hd : decode cc pc = .ok (.if_icmp .gt off, 3)) (ht : (pc : Int) + off = (tgt : Int)) (kt : b < a → Go E own cc nL ret R cl sl Z tgt L st M N) (kf : ¬ (b < a) → Go E own cc nL ret R cl sl Z (pc + 3) L st M N) : Go E own cc nL ret R cl sl Z pc L (vi b :: vi a :: st) M N := by
  intro p e s m args below meth c C H locs ls hP hS hL hst hl
  refine lv_icmp_gt C.1 C.2.1 hd ht (fun h => ?_) (fun h => ?_)
  · exact kt ((lt32 hst.head hst.tail.head).mp h) p e s m args below meth c C H locs ls hP hS hL hst.tail.tail hl
  · exact kf (fun q => h ((lt32 hst.head hst.tail.head).mpr q)) p e s m args below meth c C H locs ls hP hS hL hst.tail.tail hl
theorem go_if_gt {a off : Int} {tgt : Nat} (hd : decode cc pc = .ok (.ifCond .gt off, 3)) (ht : (pc : Int) + off = (tgt : Int)) (kt : 0 < a → Go E own cc nL ret R cl sl Z tgt L st M N) (kf : ¬ (0 < a) → Go E own cc nL ret R cl sl Z (pc + 3) L st M N) : Go E own cc nL ret R cl sl Z pc L (vi a :: st) M N := by
  intro p e s m args below meth c C H locs ls hP hS hL hst hl
  refine lv_if_gt C.1 C.2.1 hd ht (fun h => ?_) (fun h => ?_)
  · exact kt ((lt32 (R32_lit rfl) hst.head).mp h) p e s m args below meth c C H locs ls hP hS hL hst.tail hl
  · exact kf (fun q => h ((lt32 (R32_lit rfl) hst.head).mpr q)) p e s m args below meth c C H locs ls hP hS hL hst.tail hl
theorem go_icmp_le {a b off : Int} {tgt : Nat} (hd : decode cc pc = .ok (.if_icmp .le off, 3)) (ht : (pc : Int) + off = (tgt : Int)) (kt : a ≤ b → Go E own cc nL ret R cl sl Z tgt L st M N) (kf : ¬ (a ≤ b) → Go E own cc nL ret R cl sl Z (pc + 3) L st M N) : Go E own cc nL ret R cl sl Z pc L (vi b :: vi a :: st) M N := by
  intro p e s m args below meth c C H locs ls hP hS hL hst hl
  refine lv_icmp_le C.1 C.2.1 hd ht (fun h => ?_) (fun h => ?_)
  · exact kt ((le32 hst.tail.head hst.head).mp h) p e s m args below meth c C H locs ls hP hS hL hst.tail.tail hl
  · exact kf (fun q => h ((le32 hst.tail.head hst.head).mpr q)) p e s m args below meth c C H locs ls hP hS hL hst.tail.tail hl
theorem go_if_le {a off : Int} {tgt : Nat} (hd : decode cc pc = .ok (.ifCond .le off, 3)) (ht : (pc : Int) + off = (tgt : Int)) (kt : a ≤ 0 → Go E own cc nL ret R cl sl Z tgt L st M N) (kf : ¬ (a ≤ 0) → Go E own cc nL ret R cl sl Z (pc + 3) L st M N) : Go E own cc nL ret R cl sl Z pc L (vi a :: st) M N := by
  intro p e s m args below meth c C H locs ls hP hS hL hst hl
  refine lv_if_le C.1 C.2.1 hd ht (fun h => ?_) (fun h => ?_)
  · exact kt ((le32 hst.head (R32_lit rfl)).mp h) p e s m args below meth c C H locs ls hP hS hL hst.tail hl
  · exact kf (fun q => h ((le32 hst.head (R32_lit rfl)).mpr q)) p e s m args below meth c C H locs ls hP hS hL hst.tail hl
theorem go_goto {off : Int} {tgt : Nat} (hd : decode cc pc = .ok (.goto off, 3)) (ht : (pc : Int) + off = (tgt : Int)) (k : Go E own cc nL ret R cl sl Z tgt L st M N) : Go E own cc nL ret R cl sl Z pc L st M N := by
  intro p e s m args below meth c C H locs ls hP hS hL hst hl
  exact lv_goto C.1 C.2.1 hd ht (k p e s m args below meth c C H locs ls hP hS hL hst hl)
theorem lcm_lg {a b : Int} (ha : R64 a) (hb : R64 b) : lg_cmp (Int64.ofInt a) (Int64.ofInt b) = Int32.ofInt (lcm a b) := by
  unfold lg_cmp lcm
  simp only [gt_iff_lt, lt64 hb ha, eq64 ha hb]
  by_cases h1 : b < a
  · rw [if_pos h1, if_neg (by omega), if_neg (by omega)]; rfl
  · rw [if_neg h1]
    by_cases h2 : a = b
    · rw [if_pos h2, if_neg (by omega), if_pos h2]; rfl
    · rw [if_neg h2, if_pos (by omega)]; rfl
theorem lcm_R (a b : Int) : R32 (lcm a b) := by
  unfold lcm R32
  split
  · omega
  · split <;> omega
theorem go_lcmp {a b : Int} (hd : decode cc pc = .ok (.lcmp, 1))  (k : Go E own cc nL ret R cl sl Z (pc + 1) L (vi (lcm a b) :: st) M N) : Go E own cc nL ret R cl sl Z pc L (vl b :: vl a :: st) M N := by
  intro p e s m args below meth c C H locs ls hP hS hL hst hl
  have kk := k p e s m args below meth c C H locs ls hP hS hL (okL_cons (lcm_R _ _) hst.tail.tail) hl
  refine W.lcmp C.1 C.2.1 hd  ?_
  rw [lcm_lg hst.tail.head hst.head]
  exact kk
theorem lcm_eq {a b : Int} : lcm a b = 0 ↔ a = b := by
  unfold lcm
  split
  · omega
  · split <;> omega
theorem go_lcmp_eq {a b off : Int} {tgt : Nat} (hd : decode cc pc = .ok (.lcmp, 1)) (hd2 : decode cc (pc + 1) = .ok (.ifCond .eq off, 3)) (ht : ((pc + 1 : Nat) : Int) + off = (tgt : Int)) (kt : a = b → Go E own cc nL ret R cl sl Z tgt L st M N) (kf : ¬ (a = b) → Go E own cc nL ret R cl sl Z (pc + 1 + 3) L st M N) : Go E own cc nL ret R cl sl Z pc L (vl b :: vl a :: st) M N :=
  go_lcmp hd (go_if_eq hd2 ht (fun h => kt (lcm_eq.mp h)) (fun h => kf (fun q => h (lcm_eq.mpr q))))
theorem lcm_ne {a b : Int} : lcm a b ≠ 0 ↔ a ≠ b := by
  unfold lcm
  split
  · omega
  · split <;> omega
theorem go_lcmp_ne {a b off : Int} {tgt : Nat} (hd : decode cc pc = .ok (.lcmp, 1)) (hd2 : decode cc (pc + 1) = .ok (.ifCond .ne off, 3)) (ht : ((pc + 1 : Nat) : Int) + off = (tgt : Int)) (kt : a ≠ b → Go E own cc nL ret R cl sl Z tgt L st M N) (kf : a = b → Go E own cc nL ret R cl sl Z (pc + 1 + 3) L st M N) : Go E own cc nL ret R cl sl Z pc L (vl b :: vl a :: st) M N :=
  go_lcmp hd (go_if_ne hd2 ht (fun h => kt (lcm_ne.mp h)) (fun h => kf (lcm_eq.mp h)))
theorem lcm_lt {a b : Int} : lcm a b < 0 ↔ a < b := by
  unfold lcm
  split
  · omega
  · split <;> omega
theorem go_lcmp_lt {a b off : Int} {tgt : Nat} (hd : decode cc pc = .ok (.lcmp, 1)) (hd2 : decode cc (pc + 1) = .ok (.ifCond .lt off, 3)) (ht : ((pc + 1 : Nat) : Int) + off = (tgt : Int)) (kt : a < b → Go E own cc nL ret R cl sl Z tgt L st M N) (kf : ¬ (a < b) → Go E own cc nL ret R cl sl Z (pc + 1 + 3) L st M N) : Go E own cc nL ret R cl sl Z pc L (vl b :: vl a :: st) M N :=
  go_lcmp hd (go_if_lt hd2 ht (fun h => kt (lcm_lt.mp h)) (fun h => kf (fun q => h (lcm_lt.mpr q))))
theorem lcm_ge {a b : Int} : 0 ≤ lcm a b ↔ b ≤ a := by
  unfold lcm
  split
  · omega
  · split <;> omega
theorem go_lcmp_ge {a b off : Int} {tgt : Nat} (hd : decode cc pc = .ok (.lcmp, 1)) (hd2 : decode cc (pc + 1) = .ok (.ifCond .ge off, 3)) (ht : ((pc + 1 : Nat) : Int) + off = (tgt : Int)) (kt : b ≤ a → Go E own cc nL ret R cl sl Z tgt L st M N) (kf : ¬ (b ≤ a) → Go E own cc nL ret R cl sl Z (pc + 1 + 3) L st M N) : Go E own cc nL ret R cl sl Z pc L (vl b :: vl a :: st) M N :=
  go_lcmp hd (go_if_ge hd2 ht (fun h => kt (lcm_ge.mp h)) (fun h => kf (fun q => h (lcm_ge.mpr q))))
theorem lcm_gt {a b : Int} : 0 < lcm a b ↔ b < a := by
  unfold lcm
  split
  · omega
  · split <;> omega
theorem go_lcmp_gt {a b off : Int} {tgt : Nat} (hd : decode cc pc = .ok (.lcmp, 1)) (hd2 : decode cc (pc + 1) = .ok (.ifCond .gt off, 3)) (ht : ((pc + 1 : Nat) : Int) + off = (tgt : Int)) (kt : b < a → Go E own cc nL ret R cl sl Z tgt L st M N) (kf : ¬ (b < a) → Go E own cc nL ret R cl sl Z (pc + 1 + 3) L st M N) : Go E own cc nL ret R cl sl Z pc L (vl b :: vl a :: st) M N :=
  go_lcmp hd (go_if_gt hd2 ht (fun h => kt (lcm_gt.mp h)) (fun h => kf (fun q => h (lcm_gt.mpr q))))
theorem lcm_le {a b : Int} : lcm a b ≤ 0 ↔ a ≤ b := by
  unfold lcm
  split
  · omega
  · split <;> omega
theorem go_lcmp_le {a b off : Int} {tgt : Nat} (hd : decode cc pc = .ok (.lcmp, 1)) (hd2 : decode cc (pc + 1) = .ok (.ifCond .le off, 3)) (ht : ((pc + 1 : Nat) : Int) + off = (tgt : Int)) (kt : a ≤ b → Go E own cc nL ret R cl sl Z tgt L st M N) (kf : ¬ (a ≤ b) → Go E own cc nL ret R cl sl Z (pc + 1 + 3) L st M N) : Go E own cc nL ret R cl sl Z pc L (vl b :: vl a :: st) M N :=
  go_lcmp hd (go_if_le hd2 ht (fun h => kt (lcm_le.mp h)) (fun h => kf (fun q => h (lcm_le.mpr q))))
