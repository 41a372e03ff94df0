/-! the growing layer: the first places are made, all references are given -/
abbrev Rfn : Type := Nm → Nat → Nm
def fvF (E : Ev) (M : Mm) (F : Rfn) (n : Nm) (k : Nat) : Value := bif Nat.beq (slk n k) 0 then .int (Int32.ofInt (M n k)) else bif Nat.beq (slk n k) 1 then .long (Int64.ofInt (M n k)) else rfv E (F n k)
def clF (E : Ev) (M : Mm) (F : Rfn) (n : Nm) : va_E :=
  bif Nat.blt (shp n).1 20 then .inr ((shp n).1, (List.range (shp n).2).map (fvF E M F n))
  else bif Nat.beq (shp n).1 22 then .inl (eC E 2, (shp n).2, .inr (.inl (fun j => Int64.ofInt (M n j))))
  else bif Nat.beq (shp n).1 24 then .inl (eC E 4, (shp n).2, .inr (.inr (.inr (.inr (fun j => orf E (F n j))))))
  else .inl (eC E ((shp n).1 - 20), (shp n).2, .inl (fun j => Int32.ofInt (M n j)))
def wsF (E : Ev) (k : Nat) (M : Mm) (F : Rfn) : va_W := (nmL.take k).map (fun n => (eB E + adr n, clF E M F n))
def HdF (E : Ev) (k : Nat) (M : Mm) (F : Rfn) (H : Heap) : Prop := va_P (eD E) vwCl (wsF E k M F) H ∧ H.size = eB E + k
theorem wsF_at {E : Ev} {k : Nat} {M : Mm} {F : Rfn} {n : Nm} {i : Nat} (h : nmL[i]? = some n) (hi : i < k) : (wsF E k M F)[i]? = some (eB E + i, clF E M F n) := by
  unfold wsF
  rw [List.getElem?_map, List.getElem?_take, if_pos hi, h]
  show some (eB E + adr n, _) = _
  rw [← nm_idx h]
theorem wsF_of {E : Ev} {k : Nat} {M : Mm} {F : Rfn} {i : Nat} {q : Nat × va_E} (h : (wsF E k M F)[i]? = some q) : ∃ n, nmL[i]? = some n ∧ i < k ∧ q = (eB E + i, clF E M F n) := by
  unfold wsF at h
  rw [List.getElem?_map, List.getElem?_take] at h
  by_cases z : i < k
  · rw [if_pos z] at h
    cases hn : nmL[i]? with
    | none => rw [hn] at h; cases h
    | some n =>
      rw [hn] at h
      have h : some (eB E + adr n, clF E M F n) = some q := h
      rw [← nm_idx hn] at h
      exact ⟨n, rfl, z, (Option.some.inj h).symm⟩
  · rw [if_neg z] at h; cases h
theorem wsF_D {E : Ev} {k : Nat} {M : Mm} {F : Rfn} : va_D (eA E) (wsF E k M F) := by
  refine ⟨fun i j p q hi hj e => ?_, fun i q hi => ?_⟩
  · obtain ⟨n, -, -, rfl⟩ := wsF_of hi
    obtain ⟨n', -, -, rfl⟩ := wsF_of hj
    have e : eB E + i = eB E + j := e
    omega
  · obtain ⟨n, -, -, rfl⟩ := wsF_of hi
    exact Nat.le_add_right _ _
theorem wsF_push {E : Ev} {k : Nat} {M : Mm} {F : Rfn} {n : Nm} (h : nmL[k]? = some n) : wsF E (k + 1) M F = wsF E k M F ++ [(eB E + k, clF E M F n)] := by
  unfold wsF
  rw [List.take_add_one, h, List.map_append]
  show _ ++ [(eB E + adr n, clF E M F n)] = _
  rw [← nm_idx h]
theorem wsF_set {E : Ev} {k : Nat} {M M' : Mm} {F F' : Rfn} {n : Nm} {i : Nat} (h : nmL[i]? = some n) (hi : i < k) (ho : ∀ x, x ≠ n → clF E M' F' x = clF E M F x) : (wsF E k M F).set i (eB E + i, clF E M' F' n) = wsF E k M' F' := by
  have hlen : i < (wsF E k M F).length := (List.getElem?_eq_some_iff.mp (wsF_at (E := E) (M := M) (F := F) h hi)).1
  apply List.ext_getElem?
  intro j
  by_cases z : j = i
  · subst z
    rw [List.getElem?_set_self hlen, wsF_at h hi]
  · rw [List.getElem?_set_ne (fun q => z q.symm)]
    unfold wsF
    rw [List.getElem?_map, List.getElem?_map, List.getElem?_take]
    by_cases y : j < k
    · rw [if_pos y]
      cases hx : nmL[j]? with
      | none => rfl
      | some x =>
        have hne : x ≠ n := fun e => z (by rw [nm_idx hx, e, ← nm_idx h])
        show some (_, clF E M F x) = some (_, clF E M' F' x)
        rw [ho x hne]
    · rw [if_neg y]; rfl
theorem clF_obj {E : Ev} {M : Mm} {F : Rfn} {n : Nm} {ci Nf : Nat} (hs : shp n = (ci, Nf)) (h3 : Nat.blt ci 20 = true) : clF E M F n = .inr (ci, (List.range Nf).map (fvF E M F n)) := by
  unfold clF
  rw [hs]
  show (bif Nat.blt ci 20 then _ else _) = _
  rw [h3]; rfl
def GoG (E : Ev) (own : String) (cc : ByteArray) (nL : Nat) (ret : Option FieldType) (R : Room) (cl sl : Nat) (bI : Bool) (Z : Zt) (pc : Nat) (L st : List Vv) (Hq : Heap → Prop) : Prop :=
  ∀ (p : Program) (e : Env) (s : State) (m : MethodId) (args : Array Value) (below : List Frame) (meth : Method) (c : Code), Cx E own cc nL ret p s m args meth c → (bI = true → meth.name = "<init>") →
  ∀ (H : Heap) (locs : List Loc) (ls : Array Slot), Hq H → va_S (eA E) s.heap H locs → okL L → okL st → lv_has ls nL (lvl E L) →
  W p (eL E) e R s m args below meth c H locs cl sl (Z below args s) (F0 m pc ls (st.map (cv E)))
variable {E : Ev} {own : String} {cc : ByteArray} {nL : Nat} {ret : Option FieldType} {R : Room} {cl sl : Nat} {bI : Bool} {Z : Zt} {pc : Nat} {L st : List Vv} {Hq : Heap → Prop}
theorem gg_iconst {n : Int} (hd : decode cc pc = .ok (.iconst n, 1)) (hr : R32 n) (k : GoG E own cc nL ret R cl sl bI Z (pc + 1) L (vi n :: st) Hq) : GoG E own cc nL ret R cl sl bI Z pc L (st) Hq := by
  intro p e s m args below meth c C hb0 H locs ls hP hS hL hst hl
  have kk := k p e s m args below meth c C hb0 H locs ls hP hS hL (okL_cons hr hst) hl
  refine lv_iconst C.1 C.2.1 hd rfl ?_
  exact kk
theorem gg_bipush {n : Int} (hd : decode cc pc = .ok (.bipush n, 2)) (hr : -128 ≤ n ∧ n < 128) (k : GoG E own cc nL ret R cl sl bI Z (pc + 2) L (vi n :: st) Hq) : GoG E own cc nL ret R cl sl bI Z pc L (st) Hq := by
  intro p e s m args below meth c C hb0 H locs ls hP hS hL hst hl
  have kk := k p e s m args below meth c C hb0 H locs ls hP hS hL (okL_cons ⟨by omega, by omega⟩ hst) hl
  refine lv_bipush C.1 C.2.1 hd (bi8 hr) ?_
  exact kk
theorem gg_sipush {n : Int} (hd : decode cc pc = .ok (.sipush n, 3)) (hr : -32768 ≤ n ∧ n < 32768) (k : GoG E own cc nL ret R cl sl bI Z (pc + 3) L (vi n :: st) Hq) : GoG E own cc nL ret R cl sl bI Z pc L (st) Hq := by
  intro p e s m args below meth c C hb0 H locs ls hP hS hL hst hl
  have kk := k p e s m args below meth c C hb0 H locs ls hP hS hL (okL_cons ⟨by omega, by omega⟩ hst) hl
  refine lv_sipush C.1 C.2.1 hd (bi16 hr) ?_
  exact kk
theorem gg_iload_n {j : Fin 4} {x : Int} (hd : decode cc pc = .ok (.iload_n j, 1)) (hx : L[(j : Nat)]? = some (vi x)) (k : GoG E own cc nL ret R cl sl bI Z (pc + 1) L (vi x :: st) Hq) : GoG E own cc nL ret R cl sl bI Z pc L (st) Hq := by
  intro p e s m args below meth c C hb0 H locs ls hP hS hL hst hl
  have kk := k p e s m args below meth c C hb0 H locs ls hP hS hL (okL_cons (hL.at hx) hst) hl
  refine lv_iload_n C.1 C.2.1 hd rfl (lvl_at hl hx (by intro h; cases h)) ?_
  exact kk
theorem gg_aload_n {j : Fin 4} {n : Nm} (hd : decode cc pc = .ok (.aload_n j, 1)) (hx : L[(j : Nat)]? = some (vr n)) (hn : Nat.beq n.1 0 = false) (k : GoG E own cc nL ret R cl sl bI Z (pc + 1) L (vr n :: st) Hq) : GoG E own cc nL ret R cl sl bI Z pc L st Hq := by
  intro p e s m args below meth c C hb0 H locs ls hP hS hL hst hl
  have kk := k p e s m args below meth c C hb0 H locs ls hP hS hL (okL_cons (hL.at hx) hst) hl
  obtain ⟨a, ha⟩ := orf_some (E := E) (n := n) (fun h => by rw [h] at hn; cases hn)
  have hr : cv E (vr n) = .ref a := by show va_rf (orf E n) = _; rw [ha]; rfl
  have hx2 := lvl_at hl hx (by intro h; cases h)
  rw [hr] at hx2
  refine lv_aload_n C.1 C.2.1 hd rfl hx2 ?_
  rw [← hr]
  exact kk
theorem gg_istore_n {j : Fin 4} {x : Int} {L2 : List Vv} (hd : decode cc pc = .ok (.istore_n j, 1)) (hj : Nat.blt (j : Nat) nL = true) (h2 : st1 L (j : Nat) (vi x) = L2) (k : GoG E own cc nL ret R cl sl bI Z (pc + 1) L2 st Hq) : GoG E own cc nL ret R cl sl bI Z pc L (vi x :: st) Hq := by
  intro p e s m args below meth c C hb0 H locs ls hP hS hL hst hl
  subst h2
  refine lv_istore_n C.1 C.2.1 hd rfl hl (Nat.le_of_ble_eq_true hj) rfl (fun ls' hl' => ?_)
  exact k p e s m args below meth c C hb0 H locs ls' hP hS (okL_st1 hL hst.head) hst.tail (lv_mono hl' (lvl_st1 (E := E) (L := L) (i := (j : Nat)) (v := vi x)))
theorem gg_istore {j : Nat} {x : Int} {L2 : List Vv} (hd : decode cc pc = .ok (.istore j, 2)) (hj : Nat.blt j nL = true) (h2 : st1 L j (vi x) = L2) (k : GoG E own cc nL ret R cl sl bI Z (pc + 2) L2 st Hq) : GoG E own cc nL ret R cl sl bI Z pc L (vi x :: st) Hq := by
  intro p e s m args below meth c C hb0 H locs ls hP hS hL hst hl
  subst h2
  refine lv_istore C.1 C.2.1 hd  hl (Nat.le_of_ble_eq_true hj) rfl (fun ls' hl' => ?_)
  exact k p e s m args below meth c C hb0 H locs ls' hP hS (okL_st1 hL hst.head) hst.tail (lv_mono hl' (lvl_st1 (E := E) (L := L) (i := j) (v := vi x)))
theorem gg_astore_n {j : Fin 4} {n : Nm} {L2 : List Vv} (hd : decode cc pc = .ok (.astore_n j, 1)) (hj : Nat.blt (j : Nat) nL = true) (hn : Nat.beq n.1 0 = false) (h2 : st1 L (j : Nat) (vr n) = L2) (k : GoG E own cc nL ret R cl sl bI Z (pc + 1) L2 st Hq) : GoG E own cc nL ret R cl sl bI Z pc L (vr n :: st) Hq := by
  intro p e s m args below meth c C hb0 H locs ls hP hS hL hst hl
  subst h2
  obtain ⟨a, ha⟩ := orf_some (E := E) (n := n) (fun h => by rw [h] at hn; cases hn)
  have hr : cv E (vr n) = .ref a := by show va_rf (orf E n) = _; rw [ha]; rfl
  show W p (eL E) e R s m args below meth c H locs cl sl (Z below args s) (F0 m pc ls (cv E (vr n) :: st.map (cv E)))
  rw [hr]
  refine lv_astore_n C.1 C.2.1 hd rfl hl (Nat.le_of_ble_eq_true hj) rfl (fun ls' hl' => ?_)
  rw [← hr] at hl'
  exact k p e s m args below meth c C hb0 H locs ls' hP hS (okL_st1 hL hst.head) hst.tail (lv_mono hl' (lvl_st1 (E := E) (L := L) (i := (j : Nat)) (v := vr n)))
theorem gg_astore {j : Nat} {n : Nm} {L2 : List Vv} (hd : decode cc pc = .ok (.astore j, 2)) (hj : Nat.blt j nL = true) (hn : Nat.beq n.1 0 = false) (h2 : st1 L j (vr n) = L2) (k : GoG E own cc nL ret R cl sl bI Z (pc + 2) L2 st Hq) : GoG E own cc nL ret R cl sl bI Z pc L (vr n :: st) Hq := by
  intro p e s m args below meth c C hb0 H locs ls hP hS hL hst hl
  subst h2
  obtain ⟨a, ha⟩ := orf_some (E := E) (n := n) (fun h => by rw [h] at hn; cases hn)
  have hr : cv E (vr n) = .ref a := by show va_rf (orf E n) = _; rw [ha]; rfl
  show W p (eL E) e R s m args below meth c H locs cl sl (Z below args s) (F0 m pc ls (cv E (vr n) :: st.map (cv E)))
  rw [hr]
  refine lv_astore C.1 C.2.1 hd  hl (Nat.le_of_ble_eq_true hj) rfl (fun ls' hl' => ?_)
  rw [← hr] at hl'
  exact k p e s m args below meth c C hb0 H locs ls' hP hS (okL_st1 hL hst.head) hst.tail (lv_mono hl' (lvl_st1 (E := E) (L := L) (i := j) (v := vr n)))
theorem gg_iinc {j : Nat} {n x : Int} {L2 : List Vv} (hd : decode cc pc = .ok (.iinc j n, 3)) (hx : L[j]? = some (vi x)) (hj : Nat.blt j nL = true) (h2 : st1 L j (vi (w32 (x + n))) = L2) (k : GoG E own cc nL ret R cl sl bI Z (pc + 3) L2 st Hq) : GoG E own cc nL ret R cl sl bI Z pc L st Hq := by
  intro p e s m args below meth c C hb0 H locs ls hP hS hL hst hl
  subst h2
  have hm : (j, cv E (vi x)) ∈ lvl E L := lvl_mem.mpr ⟨vi x, hx, (by intro h; cases h), rfl⟩
  obtain ⟨i0, hi0⟩ := List.getElem?_of_mem hm
  refine lv_iinc (v := Int32.ofInt (w32 (x + n))) C.1 C.2.1 hd hl hi0 (by rw [o32, Int32.ofInt_add]) (Nat.le_of_ble_eq_true hj) rfl (fun ls' hl' => ?_)
  exact k p e s m args below meth c C hb0 H locs ls' hP hS (okL_st1 hL (w32_R _)) hst (lv_mono hl' (lvl_st1 (E := E) (L := L) (i := j) (v := vi (w32 (x + n)))))
theorem gg_dup_r {n : Nm} (hd : decode cc pc = .ok (.dup, 1)) (k : GoG E own cc nL ret R cl sl bI Z (pc + 1) L (vr n :: vr n :: st) Hq) : GoG E own cc nL ret R cl sl bI Z pc L (vr n :: st) Hq := by
  intro p e s m args below meth c C hb0 H locs ls hP hS hL hst hl
  have kk := k p e s m args below meth c C hb0 H locs ls hP hS hL (okL_cons hst.head hst) hl
  exact lv_dup C.1 C.2.1 hd (cat1 (fun _ h => by cases h)) kk
theorem gg_goto {off : Int} {tgt : Nat} (hd : decode cc pc = .ok (.goto off, 3)) (ht : (pc : Int) + off = (tgt : Int)) (k : GoG E own cc nL ret R cl sl bI Z tgt L st Hq) : GoG E own cc nL ret R cl sl bI Z pc L st Hq := by
  intro p e s m args below meth c C hb0 H locs ls hP hS hL hst hl
  exact lv_goto C.1 C.2.1 hd ht (k p e s m args below meth c C hb0 H locs ls hP hS hL hst hl)
theorem gg_icmp_ge {a b off : Int} {tgt : Nat} (hd : decode cc pc = .ok (.if_icmp .ge off, 3)) (ht : (pc : Int) + off = (tgt : Int)) (kt : b ≤ a → GoG E own cc nL ret R cl sl bI Z tgt L st Hq) (kf : ¬ (b ≤ a) → GoG E own cc nL ret R cl sl bI Z (pc + 3) L st Hq) : GoG E own cc nL ret R cl sl bI Z pc L (vi b :: vi a :: st) Hq := by
  intro p e s m args below meth c C hb0 H locs ls hP hS hL hst hl
  refine lv_icmp_ge C.1 C.2.1 hd ht (fun h => ?_) (fun h => ?_)
  · exact kt ((le32 hst.head hst.tail.head).mp h) p e s m args below meth c C hb0 H locs ls hP hS hL hst.tail.tail hl
  · exact kf (fun q => h ((le32 hst.head hst.tail.head).mpr q)) p e s m args below meth c C hb0 H locs ls hP hS hL hst.tail.tail hl
theorem gg_cs {cl' sl' : Nat} (h1 : cl' = cl) (h2 : sl' = sl) (k : GoG E own cc nL ret R cl' sl' bI Z pc L st Hq) : GoG E own cc nL ret R cl sl bI Z pc L st Hq := by
  subst h1 h2; exact k
theorem gg_hq {Hq' : Heap → Prop} (h : Hq = Hq') (k : GoG E own cc nL ret R cl sl bI Z pc L st Hq') : GoG E own cc nL ret R cl sl bI Z pc L st Hq := by
  subst h; exact k
theorem gg_obj {n : Nm} {idx : Nat} (hd : decode cc pc = .ok (.invokespecial idx, 3)) (w : Cond.methodLink own idx Lib.objectInit ∈ BIG) (hn : n ∈ nmL) (wi : Cond.instanceMethod Lib.objectInit ∈ BIG) (wc : Cond.code Lib.objectInit ⟨#[0xb1]⟩ 1 none ∈ BIG) (hR : Nat.ble 1 R.frames = true ∧ Nat.ble (ctL st + 12) R.locals = true) (k : GoG E own cc nL ret R cl sl bI Z (pc + 3) L st Hq) : GoG E own cc nL ret R cl sl bI Z pc L (vr n :: st) Hq := by
  intro p e s m args below meth c C hb0 H locs ls hP hS hL hst hl
  have hts := C.2.2.2.2.2.1
  show W p (eL E) e R s m args below meth c H locs cl sl (Z below args s) (F0 m pc ls (cv E (vr n) :: st.map (cv E)))
  rw [cv_mem hn]
  refine W.objInit C.1 C.2.1 C.2.2.2.2.1 (hts _ w) (hts _ wi) (hts _ wc) rfl (by rw [C.2.2.1]; exact hl.1) rfl hd (Nat.le_of_ble_eq_true hR.1) ?_ ?_
  · show 2 * 0 + _ + 12 ≤ _
    rw [ctL_cat]
    have := Nat.le_of_ble_eq_true hR.2
    omega
  · exact k p e s m args below meth c C hb0 H locs ls hP hS hL hst.tail hl
variable {k : Nat} {M : Mm} {F : Rfn}
/-- a class whose objects may be made: its name, its number -/
def NLk (own : String) (idx ci : Nat) (n : Nm) : Prop := ∃ (C : String) (T : u_T) (Nf : Nat) (ty : Nat → FieldType), vwCl[ci]? = some (C, T, Nf) ∧ shp n = (ci, Nf) ∧ Nat.blt ci 20 = true ∧ (∀ w ∈ u_ws C T Nf, w ∈ BIG) ∧ (∀ k, k < Nf → parseFieldDescriptor (T k).2.2.1 = some (ty k)) ∧ Cond.classLink own idx C ∈ BIG ∧ Cond.instantiable C Nf ∈ BIG ∧ Cond.initialized C ∈ BIG ∧
  ∀ j, j < Nf → defaultValue (ty j) = bif Nat.beq (slk n j) 0 then .int 0 else bif Nat.beq (slk n j) 1 then .long 0 else .null
theorem fvF_0 {n : Nm} {j : Nat} (hM : M n j = 0) (hF : F n j = (0, 0, 0)) : fvF E M F n j = bif Nat.beq (slk n j) 0 then .int 0 else bif Nat.beq (slk n j) 1 then .long 0 else .null := by
  unfold fvF
  rw [hM, hF]
  rfl
theorem gg_new {n : Nm} {idx ci Nf : Nat} (hd : decode cc pc = .ok (.new idx, 3)) (lk : NLk own idx ci n) (hsz : shp n = (ci, Nf)) (hn : nmL[k]? = some n) (hM : ∀ j : Int, M n j = 0) (hF : ∀ j, F n j = (0, 0, 0)) (hcl : cl + 1 ≤ R.cells) (hsl : sl + Nf ≤ R.slots) (kk : GoG E own cc nL ret R (cl + 1) (sl + Nf) bI Z (pc + 3) L (vr n :: st) (HdF E (k + 1) M F)) : GoG E own cc nL ret R cl sl bI Z pc L st (HdF E k M F) := by
  intro p e s m args below meth c C hb0 H locs ls hP hS hL hst hl
  obtain ⟨Cn, T, Nf', ty, h1, h2, h3, h4, h5, h6, h7, h8, h9⟩ := lk
  have e : Nf' = Nf := congrArg Prod.snd (h2.symm.trans hsz)
  subst e
  have hts := C.2.2.2.2.2.1
  have hK := C.2.2.2.2.2.2.2.1
  have hKn := hK.1 ci _ h1
  refine W.newcK C.1 C.2.1 C.2.2.2.2.1 (hts _ h6) (hts _ h7) (hts _ h8) rfl hd hcl hsl hKn.2.1 hP.2 fun H1 kC hkC e1 z1 o1 => ?_
  have hmem : n ∈ nmL := List.mem_of_getElem? hn
  have hk : ∀ (i : Nat) (x : Nat × va_E), (wsF E k M F)[i]? = some x → H1[x.1]? = H[x.1]? := fun i x hx => by
    obtain ⟨n', -, hi, rfl⟩ := wsF_of hx
    exact o1 _ (by show eB E + i < eB E + k; omega)
  have hP1 : HdF E (k + 1) M F H1 := by
    refine ⟨?_, z1⟩
    rw [wsF_push hn]
    refine (hP.1.kept hk).app (fun i x hx => ?_)
    have hz : i < 1 := (List.getElem?_eq_some_iff.mp hx).1
    rw [show i = 0 by omega] at hx
    cases hx
    rw [clF_obj h2 h3]
    refine ⟨_, h1, (u_born ty hts h4 hKn hkC e1 h5).to (fun j hj => ?_)⟩
    unfold vp_V
    rw [List.getD_eq_getElem?_getD, List.getElem?_map, List.getElem?_range hj]
    show _ = fvF E M F n j
    rw [fvF_0 (hM j) (hF j)]
    exact h9 j hj
  have kr := kk p e s m args below meth c C hb0 H1 locs ls hP1 ⟨Nat.le_trans hS.1 (by rw [z1, hP.2]; omega), fun x q1 q2 => (o1 x (by have := hS.1; have := hP.2; omega)).trans (hS.2.1 x q1 q2), hS.2.2⟩ hL (okL_cons (Or.inr hmem) hst) hl
  have ev : cv E (vr n) = .ref (eB E + k) := by rw [cv_mem hmem, ← nm_idx hn]
  rw [show (vr n :: st).map (cv E) = cv E (vr n) :: st.map (cv E) from rfl, ev] at kr
  exact kr
theorem arrV_cg {cA : ClassId} {N : Nat} {f g : Nat → Value} (h : ∀ j, j < N → f j = g j) : arrV cA N f = arrV cA N g := by
  unfold arrV
  have e : (fun j : Fin N => f j.val) = fun j : Fin N => g j.val := funext fun j => h j.val j.isLt
  rw [e]
/-- a new row of numbers -/
theorem gg_newa {n : Nm} {atype : ArrayType} {t0 len : Nat} {ty : FieldType} {x : Int} (hd : decode cc pc = .ok (.newarray atype, 2)) (w : Cond.arrayClass (newarray.typeOf atype) ∈ BIG) (hty : newarray.typeOf atype = ty) (hb : ∀ C, ty ≠ .object C) (ht : (tysl E)[t0]? = some (eC E t0, ty)) (hn : nmL[k]? = some n) (hsz : shp n = (20 + t0, len)) (hx : x = len) (hlen : Nat.ble len 1000000 = true) (hcb : Nat.ble (componentBytes ty) 8 = true)
    (hc : vp_cell (eC E t0) (match clF E M F n with | .inl a => a.2 | .inr _ => (0, .inl (fun _ => 0))) = arrV (eC E t0) len (fun _ => defaultValue ty)) (hc2 : ∃ a, clF E M F n = .inl (eC E t0, a)) (hcl : cl + 1 ≤ R.cells) (hsl : sl + len ≤ R.slots) (kk : GoG E own cc nL ret R (cl + 1) (sl + len) bI Z (pc + 2) L (vr n :: st) (HdF E (k + 1) M F)) : GoG E own cc nL ret R cl sl bI Z pc L (vi x :: st) (HdF E k M F) := by
  intro p e s m args below meth c C hb0 H locs ls hP hS hL hst hl
  subst hty hx
  have hts := C.2.2.2.2.2.1
  have hK := C.2.2.2.2.2.2.2.1
  have hl6 := Nat.le_of_ble_eq_true hlen
  have hcb8 := Nat.le_of_ble_eq_true hcb
  have hv : (Int32.ofInt (len : Int)).toInt = len := i32 ⟨by omega, by omega⟩
  refine va_newaK (N := len) C.1 C.2.1 (hts _ w) rfl hd (n := Int32.ofInt (len : Int)) rfl (fun q => ?_) ?_ (Nat.le_trans (Nat.mul_le_mul hl6 hcb8) (by decide)) hcl hsl hP.2 fun H1 cA e1 z1 o1 hAr hNm => ?_
  · have q := Int32.lt_iff_toInt_lt.mp q
    rw [hv] at q
    have q : (len : Int) < 0 := q
    omega
  · show (Int32.ofInt (len : Int)).toInt.toNat = len
    rw [hv]; omega
  have hRA := (hK.2 t0 _ ht).2
  have hcA : cA = eC E t0 := by
    have h2 : s.vm.findClass ("[" ++ (newarray.typeOf atype).toString) = some (eC E t0) := by
      cases hq : newarray.typeOf atype with
      | object C => exact absurd hq (hb C)
      | _ => rw [hq] at hRA; exact hRA
    exact Option.some.inj (hNm.symm.trans h2)
  subst hcA
  have hmem : n ∈ nmL := List.mem_of_getElem? hn
  obtain ⟨a, ha⟩ := hc2
  rw [ha] at hc
  have hc : vp_cell (eC E t0) a = arrV (eC E t0) len (fun _ => defaultValue (newarray.typeOf atype)) := hc
  have hk : ∀ (i : Nat) (x : Nat × va_E), (wsF E k M F)[i]? = some x → H1[x.1]? = H[x.1]? := fun i x hx => by
    obtain ⟨n', -, hi, rfl⟩ := wsF_of hx
    exact o1 _ (by show eB E + i < eB E + k; omega)
  have hP1 : HdF E (k + 1) M F H1 := by
    refine ⟨?_, z1⟩
    rw [wsF_push hn]
    refine (hP.1.kept hk).app (fun i x hx => ?_)
    have hz : i < 1 := (List.getElem?_eq_some_iff.mp hx).1
    rw [show i = 0 by omega] at hx
    cases hx
    rw [ha]
    show H1[eB E + k]? = some (vp_cell (eC E t0) a)
    rw [hc]; exact e1
  have kr := kk p e s m args below meth c C hb0 H1 locs ls hP1 ⟨Nat.le_trans hS.1 (by rw [z1, hP.2]; omega), fun x q1 q2 => (o1 x (by have := hS.1; have := hP.2; omega)).trans (hS.2.1 x q1 q2), hS.2.2⟩ hL (okL_cons (Or.inr hmem) hst.tail) hl
  have ev : cv E (vr n) = .ref (eB E + k) := by rw [cv_mem hmem, ← nm_idx hn]
  rw [show (vr n :: st).map (cv E) = cv E (vr n) :: st.map (cv E) from rfl, ev] at kr
  exact kr
