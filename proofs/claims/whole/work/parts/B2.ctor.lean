/-! the constructors -/
theorem wA_0 : Cond.arrayClass (newarray.typeOf .byte) ∈ BIG := bg1 76 (by decide +kernel) rfl
theorem wA_1 : Cond.arrayClass (newarray.typeOf .int) ∈ BIG := bg1 77 (by decide +kernel) rfl
theorem wA_2 : Cond.arrayClass (newarray.typeOf .long) ∈ BIG := bg1 105 (by decide +kernel) rfl
theorem wA_3 : Cond.arrayClass (newarray.typeOf .boolean) ∈ BIG := bg5 225 (by decide +kernel) rfl
theorem wOI : Cond.instanceMethod Lib.objectInit ∈ BIG := bg1 26 (by decide +kernel) rfl
theorem wOC : Cond.code Lib.objectInit ⟨#[0xb1]⟩ 1 none ∈ BIG := bg1 27 (by rfl) rfl
/-- places that aren't made yet are blank -/
def Fresh (k : Nat) (M : Mm) (F : Rfn) : Prop := ∀ (i : Nat) (n : Nm), k ≤ i → nmL[i]? = some n → (∀ x : Int, M n x = 0) ∧ ∀ x : Nat, F n x = (0, 0, 0)
theorem Fresh.s {k : Nat} {M : Mm} {F : Rfn} (h : Fresh k M F) : Fresh (k + 1) M F := fun i n hi hn => h i n (by omega) hn
theorem Fresh.w {k : Nat} {M : Mm} {F : Rfn} (h : Fresh k M F) {i : Nat} {n r : Nm} {j : Nat} (hn : nmL[i]? = some n) (hi : i < k) : Fresh k M (wrF F n j r) := fun i' n' hi' hn' => by
  have g := h i' n' hi' hn'
  refine ⟨g.1, fun x => ?_⟩
  rw [wrF_nn (fun e => by rw [e] at hn'; have h1 := nm_idx hn'; have h2 := nm_idx hn; omega)]
  exact g.2 x
theorem Fresh.wm {k : Nat} {M : Mm} {F : Rfn} (h : Fresh k M F) {i : Nat} {n : Nm} {j x : Int} (hn : nmL[i]? = some n) (hi : i < k) : Fresh k (wr M n j x) F := fun i' n' hi' hn' => by
  have g := h i' n' hi' hn'
  refine ⟨fun y => ?_, g.2⟩
  rw [wr_nn (fun e => by rw [e] at hn'; have h1 := nm_idx hn'; have h2 := nm_idx hn; omega)]
  exact g.1 y
theorem clF_i {E : Ev} {M : Mm} {F : Rfn} {n : Nm} {t0 len : Nat} (hs : shp n = (20 + t0, len)) (h22 : Nat.beq t0 2 = false) (h24 : Nat.beq t0 4 = false) : clF E M F n = .inl (eC E t0, len, .inl (fun j => Int32.ofInt (M n j))) := by
  unfold clF
  rw [hs]
  show (bif Nat.blt (20 + t0) 20 then _ else bif Nat.beq (20 + t0) 22 then _ else bif Nat.beq (20 + t0) 24 then _ else _) = _
  have e1 : Nat.blt (20 + t0) 20 = false := by
    cases e : Nat.blt (20 + t0) 20 with
    | false => rfl
    | true => have := Nat.le_of_ble_eq_true e; omega
  have e2 : Nat.beq (20 + t0) 22 = false := beqF (fun e => by have : t0 = 2 := by omega
                                                              rw [this] at h22; cases h22)
  have e3 : Nat.beq (20 + t0) 24 = false := beqF (fun e => by have : t0 = 4 := by omega
                                                              rw [this] at h24; cases h24)
  rw [e1, e2, e3]
  show Sum.inl (eC E (20 + t0 - 20), len, _) = _
  rw [Nat.add_sub_cancel_left]
theorem hc_i {E : Ev} {M : Mm} {F : Rfn} {n : Nm} {t0 len : Nat} {ty : FieldType} (hs : shp n = (20 + t0, len)) (h22 : Nat.beq t0 2 = false) (h24 : Nat.beq t0 4 = false) (hM : ∀ x : Int, M n x = 0) (hd : defaultValue ty = .int 0) : vp_cell (eC E t0) (match clF E M F n with | .inl a => a.2 | .inr _ => (0, .inl (fun _ => 0))) = arrV (eC E t0) len (fun _ => defaultValue ty) := by
  rw [clF_i hs h22 h24]
  show vp_cell (eC E t0) (len, .inl (fun j => Int32.ofInt (M n j))) = _
  rw [vp_cell_i]
  exact arrV_cg (fun j _ => by rw [hM, hd]; rfl)
theorem clF_l {E : Ev} {M : Mm} {F : Rfn} {n : Nm} {len : Nat} (hs : shp n = (20 + 2, len)) : clF E M F n = .inl (eC E 2, len, .inr (.inl (fun j => Int64.ofInt (M n j)))) := by
  unfold clF
  rw [hs]; rfl
theorem hc_l {E : Ev} {M : Mm} {F : Rfn} {n : Nm} {len : Nat} (hs : shp n = (20 + 2, len)) (hM : ∀ x : Int, M n x = 0) : vp_cell (eC E 2) (match clF E M F n with | .inl a => a.2 | .inr _ => (0, .inl (fun _ => 0))) = arrV (eC E 2) len (fun _ => defaultValue .long) := by
  rw [clF_l hs]
  show vp_cell (eC E 2) (len, .inr (.inl (fun j => Int64.ofInt (M n j)))) = _
  rw [vp_cell_l]
  exact arrV_cg (fun j _ => by rw [hM]; rfl)
section NEWA
variable {E : Ev} {own : String} {cc : ByteArray} {nL : Nat} {ret : Option FieldType} {R : Room} {cl sl : Nat} {Z : Zt} {pc : Nat} {L st : List Vv} {k : Nat} {M : Mm} {F : Rfn} {bI : Bool}
theorem gg_newi {n : Nm} {atype : ArrayType} {t0 len : Nat} {ty : FieldType} {x : Int} (hd : decode cc pc = .ok (.newarray atype, 2)) (w : Cond.arrayClass (newarray.typeOf atype) ∈ BIG) (hty : newarray.typeOf atype = ty) (hb : ∀ C, ty ≠ .object C) (ht : (tysl E)[t0]? = some (eC E t0, ty)) (hn : nmL[k]? = some n) (hsz : shp n = (20 + t0, len)) (hx : x = len) (hlen : Nat.ble len 1000000 = true) (hcb : Nat.ble (componentBytes ty) 8 = true) (h22 : Nat.beq t0 2 = false) (h24 : Nat.beq t0 4 = false) (hM : ∀ x : Int, M n x = 0) (hdv : defaultValue ty = .int 0) (hcl : cl + 1 ≤ R.cells) (hsl : sl + len ≤ R.slots) (kk : GoG E own cc nL ret R (cl + 1) (sl + len) bI Z (pc + 2) L (vr n :: st) (HdF E (k + 1) M F)) : GoG E own cc nL ret R cl sl bI Z pc L (vi x :: st) (HdF E k M F) :=
  gg_newa hd w hty hb ht hn hsz hx hlen hcb (hc_i hsz h22 h24 hM hdv) ⟨_, clF_i hsz h22 h24⟩ hcl hsl kk
theorem gg_newl {n : Nm} {len : Nat} {x : Int} (hd : decode cc pc = .ok (.newarray .long, 2)) (hn : nmL[k]? = some n) (hsz : shp n = (20 + 2, len)) (hx : x = len) (hlen : Nat.ble len 1000000 = true) (hM : ∀ x : Int, M n x = 0) (hcl : cl + 1 ≤ R.cells) (hsl : sl + len ≤ R.slots) (kk : GoG E own cc nL ret R (cl + 1) (sl + len) bI Z (pc + 2) L (vr n :: st) (HdF E (k + 1) M F)) : GoG E own cc nL ret R cl sl bI Z pc L (vi x :: st) (HdF E k M F) :=
  gg_newa (t0 := 2) hd wA_2 rfl (by intro C h; cases h) rfl hn hsz hx hlen rfl (hc_l hsz hM) ⟨_, clF_l hsz⟩ hcl hsl kk
end NEWA
theorem wO0 : Cond.methodLink RX0 3 Lib.objectInit ∈ BIG := bg1 90 (by decide +kernel) rfl
theorem wO1 : Cond.methodLink RX1 3 Lib.objectInit ∈ BIG := bg1 83 (by decide +kernel) rfl
theorem wO2 : Cond.methodLink RX2 3 Lib.objectInit ∈ BIG := bg1 158 (by decide +kernel) rfl
theorem wO3 : Cond.methodLink RX3 3 Lib.objectInit ∈ BIG := bg1 166 (by decide +kernel) rfl
theorem wO4 : Cond.methodLink RX4 3 Lib.objectInit ∈ BIG := bg1 33 (by decide +kernel) rfl
theorem wO5 : Cond.methodLink RX5 3 Lib.objectInit ∈ BIG := bg2 37 (by decide +kernel) rfl
theorem wO6 : Cond.methodLink RX6 3 Lib.objectInit ∈ BIG := bg2 31 (by decide +kernel) rfl
theorem wO7 : Cond.methodLink RX7 5 Lib.objectInit ∈ BIG := bg1 25 (by decide +kernel) rfl
theorem wO8 : Cond.methodLink RX8 5 Lib.objectInit ∈ BIG := bg5 67 (by decide +kernel) rfl
/-- what stays, for constructors: nest mates, the class of rows of Forms -/
def EI (E : Ev) : Prop := (∀ s, eF E s → va_Nw (.methodLinkNest RX7 21 yX4_init RX7) s) ∧ (∀ s, eF E s → va_Nw (.methodLinkNest RX7 35 yX2_init RX7) s) ∧ (∀ s, eF E s → va_Nw (.methodLinkNest RX7 42 yX6_init RX7) s) ∧ (∀ s, eF E s → va_Nw (.methodLinkNest RX7 49 yX3_init RX7) s) ∧ (∀ s, eF E s → va_Nw (.methodLinkNest RX1 33 yX0_init RX7) s) ∧ (∀ s, eF E s → va_Nw (.methodLinkNest RX2 20 yX3_init RX7) s) ∧ (∀ s, eF E s → va_Nw (.methodLinkNest RX6 20 yX5_init RX7) s) ∧ ∀ s, eF E s → va_AO RX0 s
theorem qf0_9 : QLk RX0 9 0 0 (.array .long) true := ⟨RX0, TX0, 3, rfl, by decide, rfl, ly0, fw0_9, ⟨tyX0, tyX0_ok⟩, nmX0, rfl, by decide +kernel, rfl⟩
def fX0 (f j : Nat) (F : Rfn) : Rfn := wrF F (15, f, j) 0 (16, f, j)
set_option maxRecDepth 100000 in
set_option maxHeartbeats 4000000 in
theorem cf_X0 {E : Ev} {M : Mm} {F : Rfn} {f j i k : Nat} (hi : nmL[i]? = some (15, f, j)) (hik : i < k) (h0 : nmL[k]? = some (16, f, j)) (fr : Fresh k M F) : CtF E yX0_init cX0_init 1 1 1 63 (15, f, j) k M F (fun k' M' F' => k' = k + 1 ∧ M' = M ∧ F' = fX0 f j F ∧ Fresh (k + 1) M (fX0 f j F)) := by
  refine ctF_of (own := RX0) (L0 := [vr (15, f, j)]) rfl (by decide +kernel) rfl rfl rfl ?_
  refine gg_aload_n dX0_init_0 rfl rfl ?_
  refine gg_obj dX0_init_1 wO0 (List.mem_of_getElem? hi) wOI wOC ⟨rfl, rfl⟩ ?_
  refine gg_aload_n dX0_init_4 rfl rfl ?_
  refine gg_bipush dX0_init_5 ⟨by decide, by decide⟩ ?_
  refine gg_newl (n := (16, f, j)) (len := 63) dX0_init_7 h0 rfl rfl rfl (fr _ _ (Nat.le_refl _) h0).1 (Nat.le_of_ble_eq_true rfl) (Nat.le_of_ble_eq_true rfl) ?_
  have fr := fr.s
  refine gg_putr dX0_init_9 qf0_9 rfl hi (by omega) rfl rfl (fun _ => ⟨rfl, rfl⟩) ?_
  have fr := fr.w (j := 0) (r := (16, f, j)) hi (by omega)
  exact gg_vret dX0_init_12 ⟨rfl, rfl, rfl, fr⟩
theorem qf3_9 : QLk RX3 9 3 0 (.array .int) true := ⟨RX3, TX3, 13, rfl, by decide, rfl, ly3, fw3_9, ⟨tyX3, tyX3_ok⟩, nmX3, rfl, by decide +kernel, rfl⟩
theorem qf3_15 : QLk RX3 15 3 1 (.array .int) true := ⟨RX3, TX3, 13, rfl, by decide, rfl, ly3, fw3_15, ⟨tyX3, tyX3_ok⟩, nmX3, rfl, by decide +kernel, rfl⟩
theorem qf3_18 : QLk RX3 18 3 2 (.array .int) true := ⟨RX3, TX3, 13, rfl, by decide, rfl, ly3, fw3_18, ⟨tyX3, tyX3_ok⟩, nmX3, rfl, by decide +kernel, rfl⟩
theorem qf3_21 : QLk RX3 21 3 3 (.array .int) true := ⟨RX3, TX3, 13, rfl, by decide, rfl, ly3, fw3_21, ⟨tyX3, tyX3_ok⟩, nmX3, rfl, by decide +kernel, rfl⟩
theorem qf3_24 : QLk RX3 24 3 4 (.array .int) true := ⟨RX3, TX3, 13, rfl, by decide, rfl, ly3, fw3_24, ⟨tyX3, tyX3_ok⟩, nmX3, rfl, by decide +kernel, rfl⟩
theorem qf3_27 : QLk RX3 27 3 5 (.array .int) true := ⟨RX3, TX3, 13, rfl, by decide, rfl, ly3, fw3_27, ⟨tyX3, tyX3_ok⟩, nmX3, rfl, by decide +kernel, rfl⟩
theorem qf3_30 : QLk RX3 30 3 6 (.array .long) true := ⟨RX3, TX3, 13, rfl, by decide, rfl, ly3, fw3_30, ⟨tyX3, tyX3_ok⟩, nmX3, rfl, by decide +kernel, rfl⟩
theorem qf3_34 : QLk RX3 34 3 7 (.array .int) true := ⟨RX3, TX3, 13, rfl, by decide, rfl, ly3, fw3_34, ⟨tyX3, tyX3_ok⟩, nmX3, rfl, by decide +kernel, rfl⟩
theorem qf3_37 : QLk RX3 37 3 8 (.array .int) true := ⟨RX3, TX3, 13, rfl, by decide, rfl, ly3, fw3_37, ⟨tyX3, tyX3_ok⟩, nmX3, rfl, by decide +kernel, rfl⟩
theorem qf3_40 : QLk RX3 40 3 9 (.array .int) true := ⟨RX3, TX3, 13, rfl, by decide, rfl, ly3, fw3_40, ⟨tyX3, tyX3_ok⟩, nmX3, rfl, by decide +kernel, rfl⟩
theorem qf3_43 : QLk RX3 43 3 10 (.array .int) true := ⟨RX3, TX3, 13, rfl, by decide, rfl, ly3, fw3_43, ⟨tyX3, tyX3_ok⟩, nmX3, rfl, by decide +kernel, rfl⟩
def fX3 (p : Nat) (F : Rfn) : Rfn := wrF (wrF (wrF (wrF (wrF (wrF (wrF (wrF (wrF (wrF (wrF (F) (18, p, 0) 0 (19, p, 0)) (18, p, 0) 1 (19, p, 1)) (18, p, 0) 2 (19, p, 2)) (18, p, 0) 3 (19, p, 3)) (18, p, 0) 4 (19, p, 4)) (18, p, 0) 5 (19, p, 5)) (18, p, 0) 6 (19, p, 6)) (18, p, 0) 7 (19, p, 7)) (18, p, 0) 8 (19, p, 8)) (18, p, 0) 9 (19, p, 9)) (18, p, 0) 10 (19, p, 10)
set_option maxRecDepth 100000 in
set_option maxHeartbeats 4000000 in
theorem cf_X3 {E : Ev} {M : Mm} {F : Rfn} {p i k : Nat} (hi : nmL[i]? = some (18, p, 0)) (hik : i < k) (hN : ∀ x, x < 11 → nmL[k + x]? = some (19, p, x)) (fr : Fresh k M F) : CtF E yX3_init cX3_init 1 1 11 243 (18, p, 0) k M F (fun k' M' F' => k' = k + 11 ∧ M' = M ∧ F' = fX3 p F ∧ Fresh (k + 11) M (fX3 p F)) := by
  refine ctF_of (own := RX3) (L0 := [vr (18, p, 0)]) rfl (by decide +kernel) rfl rfl rfl ?_
  refine gg_aload_n dX3_init_0 rfl rfl ?_
  refine gg_obj dX3_init_1 wO3 (List.mem_of_getElem? hi) wOI wOC ⟨rfl, rfl⟩ ?_
  refine gg_aload_n dX3_init_4 rfl rfl ?_
  refine gg_bipush dX3_init_5 ⟨by decide, by decide⟩ ?_
  refine gg_newi (n := (19, p, 0)) (t0 := 1) (len := 15) dX3_init_7 wA_1 rfl (by intro C h; cases h) rfl (hN 0 (by decide)) rfl rfl rfl rfl rfl rfl (fr _ _ (Nat.le_refl _) (hN 0 (by decide))).1 rfl (Nat.le_of_ble_eq_true rfl) (Nat.le_of_ble_eq_true rfl) ?_
  have fr := fr.s
  refine gg_putr dX3_init_9 qf3_9 rfl hi (by omega) rfl rfl (fun _ => ⟨rfl, rfl⟩) ?_
  have fr := fr.w (j := 0) (r := (19, p, 0)) hi (by omega)
  refine gg_aload_n dX3_init_12 rfl rfl ?_
  refine gg_bipush dX3_init_13 ⟨by decide, by decide⟩ ?_
  refine gg_newi (n := (19, p, 1)) (t0 := 1) (len := 15) dX3_init_15 wA_1 rfl (by intro C h; cases h) rfl (hN 1 (by decide)) rfl rfl rfl rfl rfl rfl (fr _ _ (Nat.le_refl _) (hN 1 (by decide))).1 rfl (Nat.le_of_ble_eq_true rfl) (Nat.le_of_ble_eq_true rfl) ?_
  have fr := fr.s
  refine gg_putr dX3_init_17 qf3_15 rfl hi (by omega) rfl rfl (fun _ => ⟨rfl, rfl⟩) ?_
  have fr := fr.w (j := 1) (r := (19, p, 1)) hi (by omega)
  refine gg_aload_n dX3_init_20 rfl rfl ?_
  refine gg_bipush dX3_init_21 ⟨by decide, by decide⟩ ?_
  refine gg_newi (n := (19, p, 2)) (t0 := 1) (len := 15) dX3_init_23 wA_1 rfl (by intro C h; cases h) rfl (hN 2 (by decide)) rfl rfl rfl rfl rfl rfl (fr _ _ (Nat.le_refl _) (hN 2 (by decide))).1 rfl (Nat.le_of_ble_eq_true rfl) (Nat.le_of_ble_eq_true rfl) ?_
  have fr := fr.s
  refine gg_putr dX3_init_25 qf3_18 rfl hi (by omega) rfl rfl (fun _ => ⟨rfl, rfl⟩) ?_
  have fr := fr.w (j := 2) (r := (19, p, 2)) hi (by omega)
  refine gg_aload_n dX3_init_28 rfl rfl ?_
  refine gg_bipush dX3_init_29 ⟨by decide, by decide⟩ ?_
  refine gg_newi (n := (19, p, 3)) (t0 := 1) (len := 15) dX3_init_31 wA_1 rfl (by intro C h; cases h) rfl (hN 3 (by decide)) rfl rfl rfl rfl rfl rfl (fr _ _ (Nat.le_refl _) (hN 3 (by decide))).1 rfl (Nat.le_of_ble_eq_true rfl) (Nat.le_of_ble_eq_true rfl) ?_
  have fr := fr.s
  refine gg_putr dX3_init_33 qf3_21 rfl hi (by omega) rfl rfl (fun _ => ⟨rfl, rfl⟩) ?_
  have fr := fr.w (j := 3) (r := (19, p, 3)) hi (by omega)
  refine gg_aload_n dX3_init_36 rfl rfl ?_
  refine gg_bipush dX3_init_37 ⟨by decide, by decide⟩ ?_
  refine gg_newi (n := (19, p, 4)) (t0 := 1) (len := 15) dX3_init_39 wA_1 rfl (by intro C h; cases h) rfl (hN 4 (by decide)) rfl rfl rfl rfl rfl rfl (fr _ _ (Nat.le_refl _) (hN 4 (by decide))).1 rfl (Nat.le_of_ble_eq_true rfl) (Nat.le_of_ble_eq_true rfl) ?_
  have fr := fr.s
  refine gg_putr dX3_init_41 qf3_24 rfl hi (by omega) rfl rfl (fun _ => ⟨rfl, rfl⟩) ?_
  have fr := fr.w (j := 4) (r := (19, p, 4)) hi (by omega)
  refine gg_aload_n dX3_init_44 rfl rfl ?_
  refine gg_bipush dX3_init_45 ⟨by decide, by decide⟩ ?_
  refine gg_newi (n := (19, p, 5)) (t0 := 1) (len := 15) dX3_init_47 wA_1 rfl (by intro C h; cases h) rfl (hN 5 (by decide)) rfl rfl rfl rfl rfl rfl (fr _ _ (Nat.le_refl _) (hN 5 (by decide))).1 rfl (Nat.le_of_ble_eq_true rfl) (Nat.le_of_ble_eq_true rfl) ?_
  have fr := fr.s
  refine gg_putr dX3_init_49 qf3_27 rfl hi (by omega) rfl rfl (fun _ => ⟨rfl, rfl⟩) ?_
  have fr := fr.w (j := 5) (r := (19, p, 5)) hi (by omega)
  refine gg_aload_n dX3_init_52 rfl rfl ?_
  refine gg_bipush dX3_init_53 ⟨by decide, by decide⟩ ?_
  refine gg_newl (n := (19, p, 6)) (len := 15) dX3_init_55 (hN 6 (by decide)) rfl rfl rfl (fr _ _ (Nat.le_refl _) (hN 6 (by decide))).1 (Nat.le_of_ble_eq_true rfl) (Nat.le_of_ble_eq_true rfl) ?_
  have fr := fr.s
  refine gg_putr dX3_init_57 qf3_30 rfl hi (by omega) rfl rfl (fun _ => ⟨rfl, rfl⟩) ?_
  have fr := fr.w (j := 6) (r := (19, p, 6)) hi (by omega)
  refine gg_aload_n dX3_init_60 rfl rfl ?_
  refine gg_bipush dX3_init_61 ⟨by decide, by decide⟩ ?_
  refine gg_newi (n := (19, p, 7)) (t0 := 1) (len := 15) dX3_init_63 wA_1 rfl (by intro C h; cases h) rfl (hN 7 (by decide)) rfl rfl rfl rfl rfl rfl (fr _ _ (Nat.le_refl _) (hN 7 (by decide))).1 rfl (Nat.le_of_ble_eq_true rfl) (Nat.le_of_ble_eq_true rfl) ?_
  have fr := fr.s
  refine gg_putr dX3_init_65 qf3_34 rfl hi (by omega) rfl rfl (fun _ => ⟨rfl, rfl⟩) ?_
  have fr := fr.w (j := 7) (r := (19, p, 7)) hi (by omega)
  refine gg_aload_n dX3_init_68 rfl rfl ?_
  refine gg_bipush dX3_init_69 ⟨by decide, by decide⟩ ?_
  refine gg_newi (n := (19, p, 8)) (t0 := 1) (len := 60) dX3_init_71 wA_1 rfl (by intro C h; cases h) rfl (hN 8 (by decide)) rfl rfl rfl rfl rfl rfl (fr _ _ (Nat.le_refl _) (hN 8 (by decide))).1 rfl (Nat.le_of_ble_eq_true rfl) (Nat.le_of_ble_eq_true rfl) ?_
  have fr := fr.s
  refine gg_putr dX3_init_73 qf3_37 rfl hi (by omega) rfl rfl (fun _ => ⟨rfl, rfl⟩) ?_
  have fr := fr.w (j := 8) (r := (19, p, 8)) hi (by omega)
  refine gg_aload_n dX3_init_76 rfl rfl ?_
  refine gg_bipush dX3_init_77 ⟨by decide, by decide⟩ ?_
  refine gg_newi (n := (19, p, 9)) (t0 := 1) (len := 60) dX3_init_79 wA_1 rfl (by intro C h; cases h) rfl (hN 9 (by decide)) rfl rfl rfl rfl rfl rfl (fr _ _ (Nat.le_refl _) (hN 9 (by decide))).1 rfl (Nat.le_of_ble_eq_true rfl) (Nat.le_of_ble_eq_true rfl) ?_
  have fr := fr.s
  refine gg_putr dX3_init_81 qf3_40 rfl hi (by omega) rfl rfl (fun _ => ⟨rfl, rfl⟩) ?_
  have fr := fr.w (j := 9) (r := (19, p, 9)) hi (by omega)
  refine gg_aload_n dX3_init_84 rfl rfl ?_
  refine gg_iconst dX3_init_85 (R32_lit rfl) ?_
  refine gg_newi (n := (19, p, 10)) (t0 := 1) (len := 3) dX3_init_86 wA_1 rfl (by intro C h; cases h) rfl (hN 10 (by decide)) rfl rfl rfl rfl rfl rfl (fr _ _ (Nat.le_refl _) (hN 10 (by decide))).1 rfl (Nat.le_of_ble_eq_true rfl) (Nat.le_of_ble_eq_true rfl) ?_
  have fr := fr.s
  refine gg_putr dX3_init_88 qf3_43 rfl hi (by omega) rfl rfl (fun _ => ⟨rfl, rfl⟩) ?_
  have fr := fr.w (j := 10) (r := (19, p, 10)) hi (by omega)
  exact gg_vret dX3_init_91 ⟨rfl, rfl, rfl, fr⟩
set_option maxRecDepth 100000 in
set_option maxHeartbeats 4000000 in
theorem cf_X4 {E : Ev} {M : Mm} {F : Rfn} {i k : Nat} (hi : nmL[i]? = some (6, 0, 0)) (hik : i < k) (fr : Fresh k M F) : CtF E yX4_init cX4_init 1 1 0 0 (6, 0, 0) k M F (fun k' M' F' => k' = k ∧ M' = M ∧ F' = F ∧ Fresh k M F) := by
  refine ctF_of (own := RX4) (L0 := [vr (6, 0, 0)]) rfl (by decide +kernel) rfl rfl rfl ?_
  refine gg_aload_n dX4_init_0 rfl rfl ?_
  refine gg_obj dX4_init_1 wO4 (List.mem_of_getElem? hi) wOI wOC ⟨rfl, rfl⟩ ?_
  exact gg_vret dX4_init_4 ⟨rfl, rfl, rfl, fr⟩
theorem qf5_9 : QLk RX5 9 5 0 (.array .long) true := ⟨RX5, TX5, 2, rfl, by decide, rfl, ly5, fw5_9, ⟨tyX5, tyX5_ok⟩, nmX5, rfl, by decide +kernel, rfl⟩
theorem qf5_15 : QLk RX5 15 5 1 (.array .long) true := ⟨RX5, TX5, 2, rfl, by decide, rfl, ly5, fw5_15, ⟨tyX5, tyX5_ok⟩, nmX5, rfl, by decide +kernel, rfl⟩
def fX5 (F : Rfn) : Rfn := wrF (wrF (F) (26, 0, 0) 0 (27, 0, 0)) (26, 0, 0) 1 (28, 0, 0)
set_option maxRecDepth 100000 in
set_option maxHeartbeats 4000000 in
theorem cf_X5 {E : Ev} {M : Mm} {F : Rfn} {i k : Nat} (hi : nmL[i]? = some (26, 0, 0)) (hik : i < k) (hN : ∀ x, x < 2 → nmL[k + x]? = some (27 + x, 0, 0)) (fr : Fresh k M F) : CtF E yX5_init cX5_init 1 1 2 30 (26, 0, 0) k M F (fun k' M' F' => k' = k + 2 ∧ M' = M ∧ F' = fX5 F ∧ Fresh (k + 2) M (fX5 F)) := by
  refine ctF_of (own := RX5) (L0 := [vr (26, 0, 0)]) rfl (by decide +kernel) rfl rfl rfl ?_
  refine gg_aload_n dX5_init_0 rfl rfl ?_
  refine gg_obj dX5_init_1 wO5 (List.mem_of_getElem? hi) wOI wOC ⟨rfl, rfl⟩ ?_
  refine gg_aload_n dX5_init_4 rfl rfl ?_
  refine gg_bipush dX5_init_5 ⟨by decide, by decide⟩ ?_
  refine gg_newl (n := (27, 0, 0)) (len := 15) dX5_init_7 (hN 0 (by decide)) rfl rfl rfl (fr _ _ (Nat.le_refl _) (hN 0 (by decide))).1 (Nat.le_of_ble_eq_true rfl) (Nat.le_of_ble_eq_true rfl) ?_
  have fr := fr.s
  refine gg_putr dX5_init_9 qf5_9 rfl hi (by omega) rfl rfl (fun _ => ⟨rfl, rfl⟩) ?_
  have fr := fr.w (j := 0) (r := (27, 0, 0)) hi (by omega)
  refine gg_aload_n dX5_init_12 rfl rfl ?_
  refine gg_bipush dX5_init_13 ⟨by decide, by decide⟩ ?_
  refine gg_newl (n := (28, 0, 0)) (len := 15) dX5_init_15 (hN 1 (by decide)) rfl rfl rfl (fr _ _ (Nat.le_refl _) (hN 1 (by decide))).1 (Nat.le_of_ble_eq_true rfl) (Nat.le_of_ble_eq_true rfl) ?_
  have fr := fr.s
  refine gg_putr dX5_init_17 qf5_15 rfl hi (by omega) rfl rfl (fun _ => ⟨rfl, rfl⟩) ?_
  have fr := fr.w (j := 1) (r := (28, 0, 0)) hi (by omega)
  exact gg_vret dX5_init_20 ⟨rfl, rfl, rfl, fr⟩
theorem qf1_9 : QLk RX1 9 1 0 (.array .int) true := ⟨RX1, TX1, 14, rfl, by decide, rfl, ly1, fw1_9, ⟨tyX1, tyX1_ok⟩, nmX1, rfl, by decide +kernel, rfl⟩
theorem qf1_15 : QLk RX1 15 1 1 (.array .int) true := ⟨RX1, TX1, 14, rfl, by decide, rfl, ly1, fw1_15, ⟨tyX1, tyX1_ok⟩, nmX1, rfl, by decide +kernel, rfl⟩
theorem qf1_18 : QLk RX1 18 1 2 (.array .int) true := ⟨RX1, TX1, 14, rfl, by decide, rfl, ly1, fw1_18, ⟨tyX1, tyX1_ok⟩, nmX1, rfl, by decide +kernel, rfl⟩
theorem qf1_23 : QLk RX1 23 1 4 (.array (.object "RoundedSums$Form")) true := ⟨RX1, TX1, 14, rfl, by decide, rfl, ly1, fw1_23, ⟨tyX1, tyX1_ok⟩, nmX1, rfl, by decide +kernel, rfl⟩
theorem qf1_27 : QLk RX1 27 1 5 (.array (.object "RoundedSums$Form")) true := ⟨RX1, TX1, 14, rfl, by decide, rfl, ly1, fw1_27, ⟨tyX1, tyX1_ok⟩, nmX1, rfl, by decide +kernel, rfl⟩
theorem qf1_30 : QLk RX1 30 1 6 (.array (.object "RoundedSums$Form")) true := ⟨RX1, TX1, 14, rfl, by decide, rfl, ly1, fw1_30, ⟨tyX1, tyX1_ok⟩, nmX1, rfl, by decide +kernel, rfl⟩
theorem nl1_21 {a b : Nat} : NLk RX1 21 0 (15, a, b) := ⟨RX0, TX0, 3, tyX0, rfl, rfl, rfl, ly0, tyX0_ok, bg1 84 (by decide +kernel) rfl, bg1 86 (by decide +kernel) rfl, bg1 4 (by decide +kernel) rfl, fun j hj => by
  match j, hj with
  | 0, _ => rfl
  | 1, _ => rfl
  | 2, _ => rfl⟩
theorem li0 {own : String} {idx : Nat} : LkI own idx yX0_init cX0_init 1 := ⟨bg1 88 (by decide +kernel) rfl, bg1 4 (by decide +kernel) rfl, bg1 89 (by rfl) rfl, by decide +kernel, by decide +kernel, by decide +kernel, rfl⟩
theorem qf1_34 : QLk RX1 34 1 7 (.object "RoundedSums$Form") true := ⟨RX1, TX1, 14, rfl, by decide, rfl, ly1, fw1_34, ⟨tyX1, tyX1_ok⟩, nmX1, rfl, by decide +kernel, rfl⟩
theorem qf1_38 : QLk RX1 38 1 8 (.object "RoundedSums$Form") true := ⟨RX1, TX1, 14, rfl, by decide, rfl, ly1, fw1_38, ⟨tyX1, tyX1_ok⟩, nmX1, rfl, by decide +kernel, rfl⟩
theorem qf1_41 : QLk RX1 41 1 9 (.object "RoundedSums$Form") true := ⟨RX1, TX1, 14, rfl, by decide, rfl, ly1, fw1_41, ⟨tyX1, tyX1_ok⟩, nmX1, rfl, by decide +kernel, rfl⟩
theorem qf1_44 : QLk RX1 44 1 10 (.object "RoundedSums$Form") true := ⟨RX1, TX1, 14, rfl, by decide, rfl, ly1, fw1_44, ⟨tyX1, tyX1_ok⟩, nmX1, rfl, by decide +kernel, rfl⟩
theorem qf1_47 : QLk RX1 47 1 11 (.object "RoundedSums$Form") true := ⟨RX1, TX1, 14, rfl, by decide, rfl, ly1, fw1_47, ⟨tyX1, tyX1_ok⟩, nmX1, rfl, by decide +kernel, rfl⟩
theorem qf1_50 : QLk RX1 50 1 12 (.array (.object "RoundedSums$Form")) true := ⟨RX1, TX1, 14, rfl, by decide, rfl, ly1, fw1_50, ⟨tyX1, tyX1_ok⟩, nmX1, rfl, by decide +kernel, rfl⟩
def fX1a (f : Nat) (F : Rfn) : Rfn := wrF (wrF (fX0 f 38 (wrF (fX0 f 37 (wrF (fX0 f 36 (wrF (fX0 f 35 (wrF (fX0 f 34 (wrF (wrF (wrF (wrF (wrF (wrF (F) (7, f, 0) 0 (8, f, 0)) (7, f, 0) 1 (9, f, 0)) (7, f, 0) 2 (10, f, 0)) (7, f, 0) 4 (11, f, 0)) (7, f, 0) 5 (12, f, 0)) (7, f, 0) 6 (13, f, 0))) (7, f, 0) 7 (15, f, 34))) (7, f, 0) 8 (15, f, 35))) (7, f, 0) 9 (15, f, 36))) (7, f, 0) 10 (15, f, 37))) (7, f, 0) 11 (15, f, 38)) (7, f, 0) 12 (14, f, 0)
def fX1v (f : Nat) (F : Rfn) : Nat → Rfn
  | 0 => F
  | v + 1 => wrF (fX0 f (15 + v) (wrF (fX0 f v (fX1v f F v)) (11, f, 0) v (15, f, v))) (12, f, 0) v (15, f, 15 + v)
def fX1n (f : Nat) (F : Rfn) : Nat → Rfn
  | 0 => F
  | i + 1 => wrF (fX0 f (30 + i) (fX1n f F i)) (13, f, 0) i (15, f, 30 + i)
def fX1 (f : Nat) (F : Rfn) : Rfn := fX1n f (fX1v f (fX1a f F) 15) 4
theorem fX1v_7 {f : Nat} {F : Rfn} {j : Nat} : ∀ v : Nat, fX1v f F v (7, f, 0) j = F (7, f, 0) j
  | 0 => rfl
  | v + 1 => by
    have ih := fX1v_7 (f := f) (F := F) (j := j) v
    unfold fX1v fX0
    rw [wrF_nn (nm_ne1 (by decide)), wrF_nn (nm_ne1 (by decide)), wrF_nn (nm_ne1 (by decide)), wrF_nn (nm_ne1 (by decide))]
    exact ih
theorem fX1n_7 {f : Nat} {F : Rfn} {j : Nat} : ∀ v : Nat, fX1n f F v (7, f, 0) j = F (7, f, 0) j
  | 0 => rfl
  | v + 1 => by
    have ih := fX1n_7 (f := f) (F := F) (j := j) v
    unfold fX1n fX0
    rw [wrF_nn (nm_ne1 (by decide)), wrF_nn (nm_ne1 (by decide))]
    exact ih
set_option maxRecDepth 100000 in
set_option maxHeartbeats 4000000 in
theorem lpO_X1 {E : Ev} {M : Mm} {F F0 : Rfn} {f i k : Nat} (hE : EI E) (hi : nmL[i]? = some (7, f, 0)) (hik : i < k) (hN : ∀ x, x < 17 → nmL[k + x]? = ([(8, f, 0), (9, f, 0), (10, f, 0), (11, f, 0), (12, f, 0), (13, f, 0), (15, f, 34), (16, f, 34), (15, f, 35), (16, f, 35), (15, f, 36), (16, f, 36), (15, f, 37), (16, f, 37), (15, f, 38), (16, f, 38), (14, f, 0)] : List Nm)[x]?) (hV : ∀ v, v < 15 → nmL[k + 17 + 4 * v]? = some (15, f, v) ∧ nmL[k + 17 + 4 * v + 1]? = some (16, f, v) ∧ nmL[k + 17 + 4 * v + 2]? = some (15, f, 15 + v) ∧ nmL[k + 17 + 4 * v + 3]? = some (16, f, 15 + v)) (hO : ∀ v, v < 4 → nmL[k + 77 + 2 * v]? = some (15, f, 30 + v) ∧ nmL[k + 77 + 2 * v + 1]? = some (16, f, 30 + v)) (h13 : ∀ v : Nat, fX1n f F0 v (7, f, 0) 6 = (13, f, 0)) (hF : fX1n f F0 4 = fX1 f F) : ∀ (d v : Nat), v + d = 4 → Fresh (k + 77 + 2 * v) M (fX1n f F0 v) → GoG E RX1 cX1_init 2 none (rmF 2 85 2753) (77 + 2 * v) (2489 + 66 * v) true (zF E (fun k' M' F' => k' = k + 85 ∧ M' = M ∧ F' = fX1 f F ∧ Fresh (k + 85) M (fX1 f F)) 85 2753) 159 [vr (7, f, 0), vi v] [] (HdF E (k + 77 + 2 * v) M (fX1n f F0 v)) := by
  intro d
  induction d with
  | zero =>
    intro v hv fr
    have hv : v = 4 := by omega
    subst hv
    refine gg_iload_n dX1_init_159 rfl ?_
    refine gg_iconst dX1_init_160 (R32_lit rfl) ?_
    refine gg_icmp_ge (tgt := 183) dX1_init_161 rfl (fun _ => ?_) (fun h => absurd h (by decide))
    refine gg_cs (cl' := 85) (sl' := 2753) rfl rfl ?_
    refine gg_vret dX1_init_183 ?_
    refine ⟨rfl, rfl, hF, ?_⟩
    rw [← hF]; exact fr
  | succ d ih =>
    intro v hv fr
    obtain ⟨n1, n2⟩ := hO v (by omega)
    refine gg_iload_n dX1_init_159 rfl ?_
    refine gg_iconst dX1_init_160 (R32_lit rfl) ?_
    refine gg_icmp_ge (tgt := 183) dX1_init_161 rfl (fun h => absurd h (by omega)) (fun _ => ?_)
    refine gg_aload_n dX1_init_164 rfl rfl ?_
    refine gg_getr dX1_init_165 f1_30 rfl hi (by omega) rfl (h13 v) (List.mem_of_getElem? (hN 5 (by decide))) ?_
    refine gg_iload_n dX1_init_168 rfl ?_
    refine gg_new (n := (15, f, 30 + v)) dX1_init_169 (nl1_21) rfl n1 (fr _ _ (Nat.le_refl _) n1).1 (fr _ _ (Nat.le_refl _) n1).2 (by show _ ≤ 85; omega) (by show _ ≤ 2753; omega) ?_
    have fr := fr.s
    refine gg_dup_r dX1_init_172 ?_
    refine gg_callIN dX1_init_173 li0 hE.2.2.2.2.1 rfl ⟨by decide, by decide⟩ (List.mem_of_getElem? n1) (cf_X0 n1 (by omega) n2 fr) (by show _ ≤ 85; omega) (by show _ ≤ 2753; omega) (fun k' M' F' hq => ?_)
    obtain ⟨rfl, rfl, rfl, fr⟩ := hq
    refine gg_ast (len := 4) (j := v) dX1_init_176 rfl rfl (hN 5 (by decide)) (by omega) n1 (by omega) rfl (by omega) rfl ?_
    have fr := fr.w (j := v) (r := (15, f, 30 + v)) (hN 5 (by decide)) (by omega)
    refine gg_iinc (L2 := [vr (7, f, 0), vi ((v + 1 : Nat) : Int)]) dX1_init_177 rfl rfl ?_ ?_
    · show [vr (7, f, 0), vi (w32 ((v : Int) + 1))] = _
      rw [w32_id ⟨by omega, by omega⟩]
      rfl
    refine gg_goto (tgt := 159) dX1_init_180 rfl ?_
    refine gg_cs (cl' := 77 + 2 * (v + 1)) (sl' := 2489 + 66 * (v + 1)) (by omega) (by omega) ?_
    exact ih (v + 1) (by omega) fr
set_option maxRecDepth 100000 in
set_option maxHeartbeats 4000000 in
theorem lpV_X1 {E : Ev} {M : Mm} {F F0 : Rfn} {f i k : Nat} (hE : EI E) (hi : nmL[i]? = some (7, f, 0)) (hik : i < k) (hN : ∀ x, x < 17 → nmL[k + x]? = ([(8, f, 0), (9, f, 0), (10, f, 0), (11, f, 0), (12, f, 0), (13, f, 0), (15, f, 34), (16, f, 34), (15, f, 35), (16, f, 35), (15, f, 36), (16, f, 36), (15, f, 37), (16, f, 37), (15, f, 38), (16, f, 38), (14, f, 0)] : List Nm)[x]?) (hV : ∀ v, v < 15 → nmL[k + 17 + 4 * v]? = some (15, f, v) ∧ nmL[k + 17 + 4 * v + 1]? = some (16, f, v) ∧ nmL[k + 17 + 4 * v + 2]? = some (15, f, 15 + v) ∧ nmL[k + 17 + 4 * v + 3]? = some (16, f, 15 + v)) (hO : ∀ v, v < 4 → nmL[k + 77 + 2 * v]? = some (15, f, 30 + v) ∧ nmL[k + 77 + 2 * v + 1]? = some (16, f, 30 + v)) (h11 : F0 (7, f, 0) 4 = (11, f, 0)) (h12 : F0 (7, f, 0) 5 = (12, f, 0)) (h13 : F0 (7, f, 0) 6 = (13, f, 0)) (hF : fX1n f (fX1v f F0 15) 4 = fX1 f F) : ∀ (d v : Nat), v + d = 15 → Fresh (k + 17 + 4 * v) M (fX1v f F0 v) → GoG E RX1 cX1_init 2 none (rmF 2 85 2753) (17 + 4 * v) (509 + 132 * v) true (zF E (fun k' M' F' => k' = k + 85 ∧ M' = M ∧ F' = fX1 f F ∧ Fresh (k + 85) M (fX1 f F)) 85 2753) 119 [vr (7, f, 0), vi v] [] (HdF E (k + 17 + 4 * v) M (fX1v f F0 v)) := by
  intro d
  induction d with
  | zero =>
    intro v hv fr
    have hv : v = 15 := by omega
    subst hv
    refine gg_iload_n dX1_init_119 rfl ?_
    refine gg_bipush dX1_init_120 ⟨by decide, by decide⟩ ?_
    refine gg_icmp_ge (tgt := 157) dX1_init_122 rfl (fun _ => ?_) (fun h => absurd h (by decide))
    refine gg_iconst dX1_init_157 (R32_lit rfl) ?_
    refine gg_istore_n (L2 := [vr (7, f, 0), vi ((0 : Nat) : Int)]) dX1_init_158 rfl rfl ?_
    exact lpO_X1 hE hi hik hN hV hO (fun v => by rw [fX1n_7, fX1v_7]; exact h13) hF 4 0 rfl fr
  | succ d ih =>
    intro v hv fr
    obtain ⟨n1, n2, n3, n4⟩ := hV v (by omega)
    refine gg_iload_n dX1_init_119 rfl ?_
    refine gg_bipush dX1_init_120 ⟨by decide, by decide⟩ ?_
    refine gg_icmp_ge (tgt := 157) dX1_init_122 rfl (fun h => absurd h (by omega)) (fun _ => ?_)
    refine gg_aload_n dX1_init_125 rfl rfl ?_
    refine gg_getr dX1_init_126 f1_23 rfl hi (by omega) rfl (by rw [fX1v_7]; exact h11) (List.mem_of_getElem? (hN 3 (by decide))) ?_
    refine gg_iload_n dX1_init_129 rfl ?_
    refine gg_new (n := (15, f, v)) dX1_init_130 (nl1_21) rfl n1 (fr _ _ (Nat.le_refl _) n1).1 (fr _ _ (Nat.le_refl _) n1).2 (by show _ ≤ 85; omega) (by show _ ≤ 2753; omega) ?_
    have fr := fr.s
    refine gg_dup_r dX1_init_133 ?_
    refine gg_callIN dX1_init_134 li0 hE.2.2.2.2.1 rfl ⟨by decide, by decide⟩ (List.mem_of_getElem? n1) (cf_X0 n1 (by omega) n2 fr) (by show _ ≤ 85; omega) (by show _ ≤ 2753; omega) (fun k' M' F' hq => ?_)
    obtain ⟨rfl, rfl, rfl, fr⟩ := hq
    refine gg_ast (len := 15) (j := v) dX1_init_137 rfl rfl (hN 3 (by decide)) (by omega) n1 (by omega) rfl (by omega) rfl ?_
    have fr := fr.w (j := v) (r := (15, f, v)) (hN 3 (by decide)) (by omega)
    refine gg_aload_n dX1_init_138 rfl rfl ?_
    refine gg_getr dX1_init_139 f1_27 rfl hi (by omega) rfl (by unfold fX0; rw [wrF_nn (nm_ne1 (by decide)), wrF_nn (nm_ne1 (by decide)), fX1v_7]; exact h12) (List.mem_of_getElem? (hN 4 (by decide))) ?_
    refine gg_iload_n dX1_init_142 rfl ?_
    refine gg_new (n := (15, f, 15 + v)) dX1_init_143 (nl1_21) rfl n3 (fr _ _ (Nat.le_refl _) n3).1 (fr _ _ (Nat.le_refl _) n3).2 (by show _ ≤ 85; omega) (by show _ ≤ 2753; omega) ?_
    have fr := fr.s
    refine gg_dup_r dX1_init_146 ?_
    refine gg_callIN dX1_init_147 li0 hE.2.2.2.2.1 rfl ⟨by decide, by decide⟩ (List.mem_of_getElem? n3) (cf_X0 n3 (by omega) n4 fr) (by show _ ≤ 85; omega) (by show _ ≤ 2753; omega) (fun k' M' F' hq => ?_)
    obtain ⟨rfl, rfl, rfl, fr⟩ := hq
    refine gg_ast (len := 15) (j := v) dX1_init_150 rfl rfl (hN 4 (by decide)) (by omega) n3 (by omega) rfl (by omega) rfl ?_
    have fr := fr.w (j := v) (r := (15, f, 15 + v)) (hN 4 (by decide)) (by omega)
    refine gg_iinc (L2 := [vr (7, f, 0), vi ((v + 1 : Nat) : Int)]) dX1_init_151 rfl rfl ?_ ?_
    · show [vr (7, f, 0), vi (w32 ((v : Int) + 1))] = _
      rw [w32_id ⟨by omega, by omega⟩]
      rfl
    refine gg_goto (tgt := 119) dX1_init_154 rfl ?_
    refine gg_cs (cl' := 17 + 4 * (v + 1)) (sl' := 509 + 132 * (v + 1)) (by omega) (by omega) ?_
    exact ih (v + 1) (by omega) fr
set_option maxRecDepth 100000 in
set_option maxHeartbeats 4000000 in
theorem cf_X1 {E : Ev} {M : Mm} {F : Rfn} {f i k : Nat} (hE : EI E) (hi : nmL[i]? = some (7, f, 0)) (hik : i < k) (hN : ∀ x, x < 17 → nmL[k + x]? = ([(8, f, 0), (9, f, 0), (10, f, 0), (11, f, 0), (12, f, 0), (13, f, 0), (15, f, 34), (16, f, 34), (15, f, 35), (16, f, 35), (15, f, 36), (16, f, 36), (15, f, 37), (16, f, 37), (15, f, 38), (16, f, 38), (14, f, 0)] : List Nm)[x]?) (hV : ∀ v, v < 15 → nmL[k + 17 + 4 * v]? = some (15, f, v) ∧ nmL[k + 17 + 4 * v + 1]? = some (16, f, v) ∧ nmL[k + 17 + 4 * v + 2]? = some (15, f, 15 + v) ∧ nmL[k + 17 + 4 * v + 3]? = some (16, f, 15 + v)) (hO : ∀ v, v < 4 → nmL[k + 77 + 2 * v]? = some (15, f, 30 + v) ∧ nmL[k + 77 + 2 * v + 1]? = some (16, f, 30 + v)) (fr : Fresh k M F) : CtF E yX1_init cX1_init 2 2 85 2753 (7, f, 0) k M F (fun k' M' F' => k' = k + 85 ∧ M' = M ∧ F' = fX1 f F ∧ Fresh (k + 85) M (fX1 f F)) := by
  refine ctF_of (own := RX1) (L0 := [vr (7, f, 0), vn]) rfl (by decide +kernel) rfl rfl rfl ?_
  refine gg_aload_n dX1_init_0 rfl rfl ?_
  refine gg_obj dX1_init_1 wO1 (List.mem_of_getElem? hi) wOI wOC ⟨rfl, rfl⟩ ?_
  refine gg_aload_n dX1_init_4 rfl rfl ?_
  refine gg_bipush dX1_init_5 ⟨by decide, by decide⟩ ?_
  refine gg_newi (n := (8, f, 0)) (t0 := 1) (len := 15) dX1_init_7 wA_1 rfl (by intro C h; cases h) rfl (hN 0 (by decide)) rfl rfl rfl rfl rfl rfl (fr _ _ (Nat.le_refl _) (hN 0 (by decide))).1 rfl (Nat.le_of_ble_eq_true rfl) (Nat.le_of_ble_eq_true rfl) ?_
  have fr := fr.s
  refine gg_putr dX1_init_9 qf1_9 rfl hi (by omega) rfl rfl (fun _ => ⟨rfl, rfl⟩) ?_
  have fr := fr.w (j := 0) (r := (8, f, 0)) hi (by omega)
  refine gg_aload_n dX1_init_12 rfl rfl ?_
  refine gg_bipush dX1_init_13 ⟨by decide, by decide⟩ ?_
  refine gg_newi (n := (9, f, 0)) (t0 := 1) (len := 63) dX1_init_15 wA_1 rfl (by intro C h; cases h) rfl (hN 1 (by decide)) rfl rfl rfl rfl rfl rfl (fr _ _ (Nat.le_refl _) (hN 1 (by decide))).1 rfl (Nat.le_of_ble_eq_true rfl) (Nat.le_of_ble_eq_true rfl) ?_
  have fr := fr.s
  refine gg_putr dX1_init_17 qf1_15 rfl hi (by omega) rfl rfl (fun _ => ⟨rfl, rfl⟩) ?_
  have fr := fr.w (j := 1) (r := (9, f, 0)) hi (by omega)
  refine gg_aload_n dX1_init_20 rfl rfl ?_
  refine gg_bipush dX1_init_21 ⟨by decide, by decide⟩ ?_
  refine gg_newi (n := (10, f, 0)) (t0 := 1) (len := 63) dX1_init_23 wA_1 rfl (by intro C h; cases h) rfl (hN 2 (by decide)) rfl rfl rfl rfl rfl rfl (fr _ _ (Nat.le_refl _) (hN 2 (by decide))).1 rfl (Nat.le_of_ble_eq_true rfl) (Nat.le_of_ble_eq_true rfl) ?_
  have fr := fr.s
  refine gg_putr dX1_init_25 qf1_18 rfl hi (by omega) rfl rfl (fun _ => ⟨rfl, rfl⟩) ?_
  have fr := fr.w (j := 2) (r := (10, f, 0)) hi (by omega)
  refine gg_aload_n dX1_init_28 rfl rfl ?_
  refine gg_bipush dX1_init_29 ⟨by decide, by decide⟩ ?_
  refine gg_newq (n := (11, f, 0)) (len := 15) dX1_init_31 (bg1 84 (by decide +kernel) rfl) hE.2.2.2.2.2.2.2 (hN 3 (by decide)) rfl rfl rfl (fr _ _ (Nat.le_refl _) (hN 3 (by decide))).2 (Nat.le_of_ble_eq_true rfl) (Nat.le_of_ble_eq_true rfl) ?_
  have fr := fr.s
  refine gg_putr dX1_init_34 qf1_23 rfl hi (by omega) rfl rfl (fun _ => ⟨rfl, rfl⟩) ?_
  have fr := fr.w (j := 4) (r := (11, f, 0)) hi (by omega)
  refine gg_aload_n dX1_init_37 rfl rfl ?_
  refine gg_bipush dX1_init_38 ⟨by decide, by decide⟩ ?_
  refine gg_newq (n := (12, f, 0)) (len := 15) dX1_init_40 (bg1 84 (by decide +kernel) rfl) hE.2.2.2.2.2.2.2 (hN 4 (by decide)) rfl rfl rfl (fr _ _ (Nat.le_refl _) (hN 4 (by decide))).2 (Nat.le_of_ble_eq_true rfl) (Nat.le_of_ble_eq_true rfl) ?_
  have fr := fr.s
  refine gg_putr dX1_init_43 qf1_27 rfl hi (by omega) rfl rfl (fun _ => ⟨rfl, rfl⟩) ?_
  have fr := fr.w (j := 5) (r := (12, f, 0)) hi (by omega)
  refine gg_aload_n dX1_init_46 rfl rfl ?_
  refine gg_iconst dX1_init_47 (R32_lit rfl) ?_
  refine gg_newq (n := (13, f, 0)) (len := 4) dX1_init_48 (bg1 84 (by decide +kernel) rfl) hE.2.2.2.2.2.2.2 (hN 5 (by decide)) rfl rfl rfl (fr _ _ (Nat.le_refl _) (hN 5 (by decide))).2 (Nat.le_of_ble_eq_true rfl) (Nat.le_of_ble_eq_true rfl) ?_
  have fr := fr.s
  refine gg_putr dX1_init_51 qf1_30 rfl hi (by omega) rfl rfl (fun _ => ⟨rfl, rfl⟩) ?_
  have fr := fr.w (j := 6) (r := (13, f, 0)) hi (by omega)
  refine gg_aload_n dX1_init_54 rfl rfl ?_
  refine gg_new (n := (15, f, 34)) dX1_init_55 (nl1_21) rfl (hN 6 (by decide)) (fr _ _ (Nat.le_refl _) (hN 6 (by decide))).1 (fr _ _ (Nat.le_refl _) (hN 6 (by decide))).2 (Nat.le_of_ble_eq_true rfl) (Nat.le_of_ble_eq_true rfl) ?_
  have fr := fr.s
  refine gg_dup_r dX1_init_58 ?_
  refine gg_callIN dX1_init_59 li0 hE.2.2.2.2.1 rfl ⟨by decide, by decide⟩ (List.mem_of_getElem? (hN 6 (by decide))) (cf_X0 (i := k + 6) (k := k + 7) (hN 6 (by decide)) (by omega) (hN 7 (by decide)) fr) (Nat.le_of_ble_eq_true rfl) (Nat.le_of_ble_eq_true rfl) (fun k' M' F' hq => ?_)
  obtain ⟨rfl, rfl, rfl, fr⟩ := hq
  refine gg_putr dX1_init_62 qf1_34 rfl hi (by omega) rfl rfl (fun _ => ⟨rfl, rfl⟩) ?_
  have fr := fr.w (j := 7) (r := (15, f, 34)) hi (by omega)
  refine gg_aload_n dX1_init_65 rfl rfl ?_
  refine gg_new (n := (15, f, 35)) dX1_init_66 (nl1_21) rfl (hN 8 (by decide)) (fr _ _ (Nat.le_refl _) (hN 8 (by decide))).1 (fr _ _ (Nat.le_refl _) (hN 8 (by decide))).2 (Nat.le_of_ble_eq_true rfl) (Nat.le_of_ble_eq_true rfl) ?_
  have fr := fr.s
  refine gg_dup_r dX1_init_69 ?_
  refine gg_callIN dX1_init_70 li0 hE.2.2.2.2.1 rfl ⟨by decide, by decide⟩ (List.mem_of_getElem? (hN 8 (by decide))) (cf_X0 (i := k + 8) (k := k + 9) (hN 8 (by decide)) (by omega) (hN 9 (by decide)) fr) (Nat.le_of_ble_eq_true rfl) (Nat.le_of_ble_eq_true rfl) (fun k' M' F' hq => ?_)
  obtain ⟨rfl, rfl, rfl, fr⟩ := hq
  refine gg_putr dX1_init_73 qf1_38 rfl hi (by omega) rfl rfl (fun _ => ⟨rfl, rfl⟩) ?_
  have fr := fr.w (j := 8) (r := (15, f, 35)) hi (by omega)
  refine gg_aload_n dX1_init_76 rfl rfl ?_
  refine gg_new (n := (15, f, 36)) dX1_init_77 (nl1_21) rfl (hN 10 (by decide)) (fr _ _ (Nat.le_refl _) (hN 10 (by decide))).1 (fr _ _ (Nat.le_refl _) (hN 10 (by decide))).2 (Nat.le_of_ble_eq_true rfl) (Nat.le_of_ble_eq_true rfl) ?_
  have fr := fr.s
  refine gg_dup_r dX1_init_80 ?_
  refine gg_callIN dX1_init_81 li0 hE.2.2.2.2.1 rfl ⟨by decide, by decide⟩ (List.mem_of_getElem? (hN 10 (by decide))) (cf_X0 (i := k + 10) (k := k + 11) (hN 10 (by decide)) (by omega) (hN 11 (by decide)) fr) (Nat.le_of_ble_eq_true rfl) (Nat.le_of_ble_eq_true rfl) (fun k' M' F' hq => ?_)
  obtain ⟨rfl, rfl, rfl, fr⟩ := hq
  refine gg_putr dX1_init_84 qf1_41 rfl hi (by omega) rfl rfl (fun _ => ⟨rfl, rfl⟩) ?_
  have fr := fr.w (j := 9) (r := (15, f, 36)) hi (by omega)
  refine gg_aload_n dX1_init_87 rfl rfl ?_
  refine gg_new (n := (15, f, 37)) dX1_init_88 (nl1_21) rfl (hN 12 (by decide)) (fr _ _ (Nat.le_refl _) (hN 12 (by decide))).1 (fr _ _ (Nat.le_refl _) (hN 12 (by decide))).2 (Nat.le_of_ble_eq_true rfl) (Nat.le_of_ble_eq_true rfl) ?_
  have fr := fr.s
  refine gg_dup_r dX1_init_91 ?_
  refine gg_callIN dX1_init_92 li0 hE.2.2.2.2.1 rfl ⟨by decide, by decide⟩ (List.mem_of_getElem? (hN 12 (by decide))) (cf_X0 (i := k + 12) (k := k + 13) (hN 12 (by decide)) (by omega) (hN 13 (by decide)) fr) (Nat.le_of_ble_eq_true rfl) (Nat.le_of_ble_eq_true rfl) (fun k' M' F' hq => ?_)
  obtain ⟨rfl, rfl, rfl, fr⟩ := hq
  refine gg_putr dX1_init_95 qf1_44 rfl hi (by omega) rfl rfl (fun _ => ⟨rfl, rfl⟩) ?_
  have fr := fr.w (j := 10) (r := (15, f, 37)) hi (by omega)
  refine gg_aload_n dX1_init_98 rfl rfl ?_
  refine gg_new (n := (15, f, 38)) dX1_init_99 (nl1_21) rfl (hN 14 (by decide)) (fr _ _ (Nat.le_refl _) (hN 14 (by decide))).1 (fr _ _ (Nat.le_refl _) (hN 14 (by decide))).2 (Nat.le_of_ble_eq_true rfl) (Nat.le_of_ble_eq_true rfl) ?_
  have fr := fr.s
  refine gg_dup_r dX1_init_102 ?_
  refine gg_callIN dX1_init_103 li0 hE.2.2.2.2.1 rfl ⟨by decide, by decide⟩ (List.mem_of_getElem? (hN 14 (by decide))) (cf_X0 (i := k + 14) (k := k + 15) (hN 14 (by decide)) (by omega) (hN 15 (by decide)) fr) (Nat.le_of_ble_eq_true rfl) (Nat.le_of_ble_eq_true rfl) (fun k' M' F' hq => ?_)
  obtain ⟨rfl, rfl, rfl, fr⟩ := hq
  refine gg_putr dX1_init_106 qf1_47 rfl hi (by omega) rfl rfl (fun _ => ⟨rfl, rfl⟩) ?_
  have fr := fr.w (j := 11) (r := (15, f, 38)) hi (by omega)
  refine gg_aload_n dX1_init_109 rfl rfl ?_
  refine gg_iconst dX1_init_110 (R32_lit rfl) ?_
  refine gg_newq (n := (14, f, 0)) (len := 4) dX1_init_111 (bg1 84 (by decide +kernel) rfl) hE.2.2.2.2.2.2.2 (hN 16 (by decide)) rfl rfl rfl (fr _ _ (Nat.le_refl _) (hN 16 (by decide))).2 (Nat.le_of_ble_eq_true rfl) (Nat.le_of_ble_eq_true rfl) ?_
  have fr := fr.s
  refine gg_putr dX1_init_114 qf1_50 rfl hi (by omega) rfl rfl (fun _ => ⟨rfl, rfl⟩) ?_
  have fr := fr.w (j := 12) (r := (14, f, 0)) hi (by omega)
  refine gg_iconst dX1_init_117 (R32_lit rfl) ?_
  refine gg_istore_n dX1_init_118 rfl rfl ?_
  exact lpV_X1 hE hi hik hN hV hO (by simp [fX1a, fX0, wrF]) (by simp [fX1a, fX0, wrF]) (by simp [fX1a, fX0, wrF]) rfl 15 0 rfl fr
