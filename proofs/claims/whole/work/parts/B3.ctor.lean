theorem nl2_9 {a b : Nat} : NLk RX2 9 1 (7, a, 0) := ⟨RX1, TX1, 14, tyX1, rfl, rfl, rfl, ly1, tyX1_ok, bg1 159 (by decide +kernel) rfl, bg1 79 (by decide +kernel) rfl, bg1 3 (by decide +kernel) rfl, fun j hj => by
  match j, hj with
  | 0, _ => rfl
  | 1, _ => rfl
  | 2, _ => rfl
  | 3, _ => rfl
  | 4, _ => rfl
  | 5, _ => rfl
  | 6, _ => rfl
  | 7, _ => rfl
  | 8, _ => rfl
  | 9, _ => rfl
  | 10, _ => rfl
  | 11, _ => rfl
  | 12, _ => rfl
  | 13, _ => rfl⟩
theorem li1 {own : String} {idx : Nat} : LkI own idx yX1_init cX1_init 2 := ⟨bg1 81 (by decide +kernel) rfl, bg1 3 (by decide +kernel) rfl, bg1 82 (by rfl) rfl, by decide +kernel, by decide +kernel, by decide +kernel, rfl⟩
theorem qf2_12 : QLk RX2 12 2 0 (.object "RoundedSums$Forms") true := ⟨RX2, TX2, 8, rfl, by decide, rfl, ly2, fw2_12, ⟨tyX2, tyX2_ok⟩, nmX2, rfl, by decide +kernel, rfl⟩
theorem nl2_18 {a b : Nat} : NLk RX2 18 3 (18, a, 0) := ⟨RX3, TX3, 13, tyX3, rfl, rfl, rfl, ly3, tyX3_ok, bg1 161 (by decide +kernel) rfl, bg1 162 (by decide +kernel) rfl, bg1 6 (by decide +kernel) rfl, fun j hj => by
  match j, hj with
  | 0, _ => rfl
  | 1, _ => rfl
  | 2, _ => rfl
  | 3, _ => rfl
  | 4, _ => rfl
  | 5, _ => rfl
  | 6, _ => rfl
  | 7, _ => rfl
  | 8, _ => rfl
  | 9, _ => rfl
  | 10, _ => rfl
  | 11, _ => rfl
  | 12, _ => rfl⟩
theorem li3 {own : String} {idx : Nat} : LkI own idx yX3_init cX3_init 1 := ⟨bg1 164 (by decide +kernel) rfl, bg1 6 (by decide +kernel) rfl, bg1 165 (by rfl) rfl, by decide +kernel, by decide +kernel, by decide +kernel, rfl⟩
theorem qf2_21 : QLk RX2 21 2 1 (.object "RoundedSums$Program") true := ⟨RX2, TX2, 8, rfl, by decide, rfl, ly2, fw2_21, ⟨tyX2, tyX2_ok⟩, nmX2, rfl, by decide +kernel, rfl⟩
theorem qf2_25 : QLk RX2 25 2 2 (.array .int) true := ⟨RX2, TX2, 8, rfl, by decide, rfl, ly2, fw2_25, ⟨tyX2, tyX2_ok⟩, nmX2, rfl, by decide +kernel, rfl⟩
theorem qf2_29 : QLk RX2 29 2 3 (.array .int) true := ⟨RX2, TX2, 8, rfl, by decide, rfl, ly2, fw2_29, ⟨tyX2, tyX2_ok⟩, nmX2, rfl, by decide +kernel, rfl⟩
theorem qf2_32 : QLk RX2 32 2 4 (.array .long) true := ⟨RX2, TX2, 8, rfl, by decide, rfl, ly2, fw2_32, ⟨tyX2, tyX2_ok⟩, nmX2, rfl, by decide +kernel, rfl⟩
def fX2 (F : Rfn) : Rfn := wrF (wrF (wrF (wrF (fX3 0 (wrF (fX1 1 (F)) (17, 0, 0) 0 (7, 1, 0))) (17, 0, 0) 1 (18, 0, 0)) (17, 0, 0) 2 (20, 0, 0)) (17, 0, 0) 3 (21, 0, 0)) (17, 0, 0) 4 (22, 0, 0)
set_option maxRecDepth 100000 in
set_option maxHeartbeats 4000000 in
theorem cf_X2 {E : Ev} {M : Mm} {F : Rfn}  (hE : EI E) (fr : Fresh 91 M F) : CtF E yX2_init cX2_init 1 3 101 3590 (17, 0, 0) 91 M F (fun k' M' F' => k' = 192 ∧ M' = M ∧ F' = fX2 F ∧ Fresh 192 (M) (fX2 F)) := by
  refine ctF_of (own := RX2) (L0 := [vr (17, 0, 0)]) rfl (by decide +kernel) rfl rfl rfl ?_
  have hi : nmL[90]? = some (17, 0, 0) := by decide +kernel
  refine gg_aload_n dX2_init_0 rfl rfl ?_
  refine gg_obj dX2_init_1 wO2 (List.mem_of_getElem? hi) wOI wOC ⟨rfl, rfl⟩ ?_
  refine gg_aload_n dX2_init_4 rfl rfl ?_
  refine gg_new (n := (7, 1, 0)) dX2_init_5 (nl2_9 (b := 0)) rfl (by decide +kernel) (fr _ _ (Nat.le_refl _) (by decide +kernel)).1 (fr _ _ (Nat.le_refl _) (by decide +kernel)).2 (Nat.le_of_ble_eq_true rfl) (Nat.le_of_ble_eq_true rfl) ?_
  have fr := fr.s
  refine gg_dup_r dX2_init_8 ?_
  refine gg_callI dX2_init_9 li1 (bg1 160 (by decide +kernel) rfl) rfl ⟨by decide, by decide⟩ (List.mem_of_getElem? (show nmL[91]? = some (7, 1, 0) from by decide +kernel)) (cf_X1 (f := 1) (i := 91) hE (by decide +kernel) (by omega) (by decide +kernel) (by decide +kernel) (by decide +kernel) fr) (Nat.le_of_ble_eq_true rfl) (Nat.le_of_ble_eq_true rfl) (fun k' M' F' hq => ?_)
  obtain ⟨rfl, rfl, rfl, fr⟩ := hq
  refine gg_putr dX2_init_12 qf2_12 rfl hi (by omega) rfl rfl (fun _ => ⟨rfl, rfl⟩) ?_
  have fr := fr.w (j := 0) (r := (7, 1, 0)) hi (by omega)
  refine gg_aload_n dX2_init_15 rfl rfl ?_
  refine gg_new (n := (18, 0, 0)) dX2_init_16 (nl2_18 (b := 0)) rfl (by decide +kernel) (fr _ _ (Nat.le_refl _) (by decide +kernel)).1 (fr _ _ (Nat.le_refl _) (by decide +kernel)).2 (Nat.le_of_ble_eq_true rfl) (Nat.le_of_ble_eq_true rfl) ?_
  have fr := fr.s
  refine gg_dup_r dX2_init_19 ?_
  refine gg_callIN dX2_init_20 li3 hE.2.2.2.2.2.1 rfl ⟨by decide, by decide⟩ (List.mem_of_getElem? (show nmL[177]? = some (18, 0, 0) from by decide +kernel)) (cf_X3 (p := 0) (i := 177) (by decide +kernel) (by omega) (by decide +kernel) fr) (Nat.le_of_ble_eq_true rfl) (Nat.le_of_ble_eq_true rfl) (fun k' M' F' hq => ?_)
  obtain ⟨rfl, rfl, rfl, fr⟩ := hq
  refine gg_putr dX2_init_23 qf2_21 rfl hi (by omega) rfl rfl (fun _ => ⟨rfl, rfl⟩) ?_
  have fr := fr.w (j := 1) (r := (18, 0, 0)) hi (by omega)
  refine gg_aload_n dX2_init_26 rfl rfl ?_
  refine gg_sipush dX2_init_27 ⟨by decide, by decide⟩ ?_
  refine gg_newi (n := (20, 0, 0)) (t0 := 1) (len := 243) dX2_init_30 wA_1 rfl (by intro C h; cases h) rfl (by decide +kernel) rfl rfl rfl rfl rfl rfl (fr _ _ (Nat.le_refl _) (by decide +kernel)).1 rfl (Nat.le_of_ble_eq_true rfl) (Nat.le_of_ble_eq_true rfl) ?_
  have fr := fr.s
  refine gg_putr dX2_init_32 qf2_25 rfl hi (by omega) rfl rfl (fun _ => ⟨rfl, rfl⟩) ?_
  have fr := fr.w (j := 2) (r := (20, 0, 0)) hi (by omega)
  refine gg_aload_n dX2_init_35 rfl rfl ?_
  refine gg_sipush dX2_init_36 ⟨by decide, by decide⟩ ?_
  refine gg_newi (n := (21, 0, 0)) (t0 := 1) (len := 243) dX2_init_39 wA_1 rfl (by intro C h; cases h) rfl (by decide +kernel) rfl rfl rfl rfl rfl rfl (fr _ _ (Nat.le_refl _) (by decide +kernel)).1 rfl (Nat.le_of_ble_eq_true rfl) (Nat.le_of_ble_eq_true rfl) ?_
  have fr := fr.s
  refine gg_putr dX2_init_41 qf2_29 rfl hi (by omega) rfl rfl (fun _ => ⟨rfl, rfl⟩) ?_
  have fr := fr.w (j := 3) (r := (21, 0, 0)) hi (by omega)
  refine gg_aload_n dX2_init_44 rfl rfl ?_
  refine gg_bipush dX2_init_45 ⟨by decide, by decide⟩ ?_
  refine gg_newl (n := (22, 0, 0)) (len := 81) dX2_init_47 (by decide +kernel) rfl rfl rfl (fr _ _ (Nat.le_refl _) (by decide +kernel)).1 (Nat.le_of_ble_eq_true rfl) (Nat.le_of_ble_eq_true rfl) ?_
  have fr := fr.s
  refine gg_putr dX2_init_49 qf2_32 rfl hi (by omega) rfl rfl (fun _ => ⟨rfl, rfl⟩) ?_
  have fr := fr.w (j := 4) (r := (22, 0, 0)) hi (by omega)
  exact gg_vret dX2_init_52 ⟨rfl, rfl, rfl, fr⟩
theorem qf6_9 : QLk RX6 9 6 1 (.array .int) true := ⟨RX6, TX6, 5, rfl, by decide, rfl, ly6, fw6_9, ⟨tyX6, tyX6_ok⟩, nmX6, rfl, by decide +kernel, rfl⟩
theorem qf6_15 : QLk RX6 15 6 2 (.array .int) true := ⟨RX6, TX6, 5, rfl, by decide, rfl, ly6, fw6_15, ⟨tyX6, tyX6_ok⟩, nmX6, rfl, by decide +kernel, rfl⟩
theorem nl6_18 {a b : Nat} : NLk RX6 18 5 (26, 0, 0) := ⟨RX5, TX5, 2, tyX5, rfl, rfl, rfl, ly5, tyX5_ok, bg2 32 (by decide +kernel) rfl, bg2 33 (by decide +kernel) rfl, bg1 8 (by decide +kernel) rfl, fun j hj => by
  match j, hj with
  | 0, _ => rfl
  | 1, _ => rfl⟩
theorem li5 {own : String} {idx : Nat} : LkI own idx yX5_init cX5_init 1 := ⟨bg2 35 (by decide +kernel) rfl, bg1 8 (by decide +kernel) rfl, bg2 36 (by rfl) rfl, by decide +kernel, by decide +kernel, by decide +kernel, rfl⟩
theorem qf6_21 : QLk RX6 21 6 3 (.object "RoundedSums$Run") true := ⟨RX6, TX6, 5, rfl, by decide, rfl, ly6, fw6_21, ⟨tyX6, tyX6_ok⟩, nmX6, rfl, by decide +kernel, rfl⟩
def fX6 (F : Rfn) : Rfn := wrF (fX5 (wrF (wrF (F) (23, 0, 0) 1 (24, 0, 0)) (23, 0, 0) 2 (25, 0, 0))) (23, 0, 0) 3 (26, 0, 0)
set_option maxRecDepth 100000 in
set_option maxHeartbeats 4000000 in
theorem cf_X6 {E : Ev} {M : Mm} {F : Rfn}  (hE : EI E) (fr : Fresh 193 M F) : CtF E yX6_init cX6_init 1 2 5 62 (23, 0, 0) 193 M F (fun k' M' F' => k' = 198 ∧ M' = M ∧ F' = fX6 F ∧ Fresh 198 (M) (fX6 F)) := by
  refine ctF_of (own := RX6) (L0 := [vr (23, 0, 0)]) rfl (by decide +kernel) rfl rfl rfl ?_
  have hi : nmL[192]? = some (23, 0, 0) := by decide +kernel
  refine gg_aload_n dX6_init_0 rfl rfl ?_
  refine gg_obj dX6_init_1 wO6 (List.mem_of_getElem? hi) wOI wOC ⟨rfl, rfl⟩ ?_
  refine gg_aload_n dX6_init_4 rfl rfl ?_
  refine gg_bipush dX6_init_5 ⟨by decide, by decide⟩ ?_
  refine gg_newi (n := (24, 0, 0)) (t0 := 1) (len := 15) dX6_init_7 wA_1 rfl (by intro C h; cases h) rfl (by decide +kernel) rfl rfl rfl rfl rfl rfl (fr _ _ (Nat.le_refl _) (by decide +kernel)).1 rfl (Nat.le_of_ble_eq_true rfl) (Nat.le_of_ble_eq_true rfl) ?_
  have fr := fr.s
  refine gg_putr dX6_init_9 qf6_9 rfl hi (by omega) rfl rfl (fun _ => ⟨rfl, rfl⟩) ?_
  have fr := fr.w (j := 1) (r := (24, 0, 0)) hi (by omega)
  refine gg_aload_n dX6_init_12 rfl rfl ?_
  refine gg_bipush dX6_init_13 ⟨by decide, by decide⟩ ?_
  refine gg_newi (n := (25, 0, 0)) (t0 := 1) (len := 15) dX6_init_15 wA_1 rfl (by intro C h; cases h) rfl (by decide +kernel) rfl rfl rfl rfl rfl rfl (fr _ _ (Nat.le_refl _) (by decide +kernel)).1 rfl (Nat.le_of_ble_eq_true rfl) (Nat.le_of_ble_eq_true rfl) ?_
  have fr := fr.s
  refine gg_putr dX6_init_17 qf6_15 rfl hi (by omega) rfl rfl (fun _ => ⟨rfl, rfl⟩) ?_
  have fr := fr.w (j := 2) (r := (25, 0, 0)) hi (by omega)
  refine gg_aload_n dX6_init_20 rfl rfl ?_
  refine gg_new (n := (26, 0, 0)) dX6_init_21 (nl6_18 (a := 0) (b := 0)) rfl (by decide +kernel) (fr _ _ (Nat.le_refl _) (by decide +kernel)).1 (fr _ _ (Nat.le_refl _) (by decide +kernel)).2 (Nat.le_of_ble_eq_true rfl) (Nat.le_of_ble_eq_true rfl) ?_
  have fr := fr.s
  refine gg_dup_r dX6_init_24 ?_
  refine gg_callIN dX6_init_25 li5 hE.2.2.2.2.2.2.1 rfl ⟨by decide, by decide⟩ (List.mem_of_getElem? (show nmL[195]? = some (26, 0, 0) from by decide +kernel)) (cf_X5 (i := 195) (by decide +kernel) (by omega) (by decide +kernel) fr) (Nat.le_of_ble_eq_true rfl) (Nat.le_of_ble_eq_true rfl) (fun k' M' F' hq => ?_)
  obtain ⟨rfl, rfl, rfl, fr⟩ := hq
  refine gg_putr dX6_init_28 qf6_21 rfl hi (by omega) rfl rfl (fun _ => ⟨rfl, rfl⟩) ?_
  have fr := fr.w (j := 3) (r := (26, 0, 0)) hi (by omega)
  exact gg_vret dX6_init_31 ⟨rfl, rfl, rfl, fr⟩
theorem qf7_11 : QLk RX7 11 7 0 (.array .byte) true := ⟨RX7, TX7, 12, rfl, by decide, rfl, ly7, fw7_11, ⟨tyX7, tyX7_ok⟩, nmX7, rfl, by decide +kernel, rfl⟩
theorem qf7_15 : QLk RX7 15 7 1 (.array .int) true := ⟨RX7, TX7, 12, rfl, by decide, rfl, ly7, fw7_15, ⟨tyX7, tyX7_ok⟩, nmX7, rfl, by decide +kernel, rfl⟩
theorem nl7_19 {a b : Nat} : NLk RX7 19 4 (6, 0, 0) := ⟨RX4, TX4, 13, tyX4, rfl, rfl, rfl, ly4, tyX4_ok, bg1 28 (by decide +kernel) rfl, bg1 29 (by decide +kernel) rfl, bg1 2 (by decide +kernel) rfl, fun j hj => by
  match j, hj with
  | 0, _ => rfl
  | 1, _ => rfl
  | 2, _ => rfl
  | 3, _ => rfl
  | 4, _ => rfl
  | 5, _ => rfl
  | 6, _ => rfl
  | 7, _ => rfl
  | 8, _ => rfl
  | 9, _ => rfl
  | 10, _ => rfl
  | 11, _ => rfl
  | 12, _ => rfl⟩
theorem li4 {own : String} {idx : Nat} : LkI own idx yX4_init cX4_init 1 := ⟨bg1 31 (by decide +kernel) rfl, bg1 2 (by decide +kernel) rfl, bg1 32 (by rfl) rfl, by decide +kernel, by decide +kernel, by decide +kernel, rfl⟩
theorem qf7_22 : QLk RX7 22 7 2 (.object "RoundedSums$Reader") true := ⟨RX7, TX7, 12, rfl, by decide, rfl, ly7, fw7_22, ⟨tyX7, tyX7_ok⟩, nmX7, rfl, by decide +kernel, rfl⟩
theorem nl7_26 {a b : Nat} : NLk RX7 26 1 (7, a, 0) := ⟨RX1, TX1, 14, tyX1, rfl, rfl, rfl, ly1, tyX1_ok, bg1 78 (by decide +kernel) rfl, bg1 79 (by decide +kernel) rfl, bg1 3 (by decide +kernel) rfl, fun j hj => by
  match j, hj with
  | 0, _ => rfl
  | 1, _ => rfl
  | 2, _ => rfl
  | 3, _ => rfl
  | 4, _ => rfl
  | 5, _ => rfl
  | 6, _ => rfl
  | 7, _ => rfl
  | 8, _ => rfl
  | 9, _ => rfl
  | 10, _ => rfl
  | 11, _ => rfl
  | 12, _ => rfl
  | 13, _ => rfl⟩
theorem qf7_29 : QLk RX7 29 7 3 (.object "RoundedSums$Forms") true := ⟨RX7, TX7, 12, rfl, by decide, rfl, ly7, fw7_29, ⟨tyX7, tyX7_ok⟩, nmX7, rfl, by decide +kernel, rfl⟩
theorem nl7_33 {a b : Nat} : NLk RX7 33 2 (17, 0, 0) := ⟨RX2, TX2, 8, tyX2, rfl, rfl, rfl, ly2, tyX2_ok, bg1 153 (by decide +kernel) rfl, bg1 154 (by decide +kernel) rfl, bg1 5 (by decide +kernel) rfl, fun j hj => by
  match j, hj with
  | 0, _ => rfl
  | 1, _ => rfl
  | 2, _ => rfl
  | 3, _ => rfl
  | 4, _ => rfl
  | 5, _ => rfl
  | 6, _ => rfl
  | 7, _ => rfl⟩
theorem li2 {own : String} {idx : Nat} : LkI own idx yX2_init cX2_init 1 := ⟨bg1 156 (by decide +kernel) rfl, bg1 5 (by decide +kernel) rfl, bg1 157 (by rfl) rfl, by decide +kernel, by decide +kernel, by decide +kernel, rfl⟩
theorem qf7_36 : QLk RX7 36 7 4 (.object "RoundedSums$Pieces") true := ⟨RX7, TX7, 12, rfl, by decide, rfl, ly7, fw7_36, ⟨tyX7, tyX7_ok⟩, nmX7, rfl, by decide +kernel, rfl⟩
theorem nl7_40 {a b : Nat} : NLk RX7 40 6 (23, 0, 0) := ⟨RX6, TX6, 5, tyX6, rfl, rfl, rfl, ly6, tyX6_ok, bg2 26 (by decide +kernel) rfl, bg2 27 (by decide +kernel) rfl, bg1 7 (by decide +kernel) rfl, fun j hj => by
  match j, hj with
  | 0, _ => rfl
  | 1, _ => rfl
  | 2, _ => rfl
  | 3, _ => rfl
  | 4, _ => rfl⟩
theorem li6 {own : String} {idx : Nat} : LkI own idx yX6_init cX6_init 1 := ⟨bg2 29 (by decide +kernel) rfl, bg1 7 (by decide +kernel) rfl, bg2 30 (by rfl) rfl, by decide +kernel, by decide +kernel, by decide +kernel, rfl⟩
theorem qf7_43 : QLk RX7 43 7 5 (.object "RoundedSums$Seeker") true := ⟨RX7, TX7, 12, rfl, by decide, rfl, ly7, fw7_43, ⟨tyX7, tyX7_ok⟩, nmX7, rfl, by decide +kernel, rfl⟩
theorem nl7_47 {a b : Nat} : NLk RX7 47 3 (18, a, 0) := ⟨RX3, TX3, 13, tyX3, rfl, rfl, rfl, ly3, tyX3_ok, bg2 66 (by decide +kernel) rfl, bg1 162 (by decide +kernel) rfl, bg1 6 (by decide +kernel) rfl, fun j hj => by
  match j, hj with
  | 0, _ => rfl
  | 1, _ => rfl
  | 2, _ => rfl
  | 3, _ => rfl
  | 4, _ => rfl
  | 5, _ => rfl
  | 6, _ => rfl
  | 7, _ => rfl
  | 8, _ => rfl
  | 9, _ => rfl
  | 10, _ => rfl
  | 11, _ => rfl
  | 12, _ => rfl⟩
theorem qf7_50 : QLk RX7 50 7 6 (.object "RoundedSums$Program") false := ⟨RX7, TX7, 12, rfl, by decide, rfl, ly7, fw7_50, ⟨tyX7, tyX7_ok⟩, nmX7, rfl, by decide +kernel, rfl⟩
theorem qf7_54 : QLk RX7 54 7 7 (.object "RoundedSums$Program") false := ⟨RX7, TX7, 12, rfl, by decide, rfl, ly7, fw7_54, ⟨tyX7, tyX7_ok⟩, nmX7, rfl, by decide +kernel, rfl⟩
theorem qf7_57 : QLk RX7 57 7 8 (.int) false := ⟨RX7, TX7, 12, rfl, by decide, rfl, ly7, fw7_57, ⟨tyX7, tyX7_ok⟩, nmX7, rfl, by decide +kernel, rfl⟩
theorem qf7_61 : QLk RX7 61 7 9 (.int) false := ⟨RX7, TX7, 12, rfl, by decide, rfl, ly7, fw7_61, ⟨tyX7, tyX7_ok⟩, nmX7, rfl, by decide +kernel, rfl⟩
theorem qf7_64 : QLk RX7 64 7 10 (.int) false := ⟨RX7, TX7, 12, rfl, by decide, rfl, ly7, fw7_64, ⟨tyX7, tyX7_ok⟩, nmX7, rfl, by decide +kernel, rfl⟩
theorem qf7_67 : QLk RX7 67 7 11 (.int) false := ⟨RX7, TX7, 12, rfl, by decide, rfl, ly7, fw7_67, ⟨tyX7, tyX7_ok⟩, nmX7, rfl, by decide +kernel, rfl⟩
def fX7 (F : Rfn) : Rfn := wrF (fX3 2 (wrF (fX3 1 (wrF (fX6 (wrF (fX2 (wrF (fX1 0 (wrF (wrF (wrF (F) (3, 0, 0) 0 (4, 0, 0)) (3, 0, 0) 1 (5, 0, 0)) (3, 0, 0) 2 (6, 0, 0))) (3, 0, 0) 3 (7, 0, 0))) (3, 0, 0) 4 (17, 0, 0))) (3, 0, 0) 5 (23, 0, 0))) (3, 0, 0) 6 (18, 1, 0))) (3, 0, 0) 7 (18, 2, 0)
def mX7 (M : Mm) : Mm := wr (wr (wr (wr (M) (3, 0, 0) 8 0) (3, 0, 0) 9 0) (3, 0, 0) 10 0) (3, 0, 0) 11 (-1)
set_option maxRecDepth 100000 in
set_option maxHeartbeats 4000000 in
theorem cf_X7 {E : Ev} {M : Mm} {F : Rfn}  (hE : EI E) (fr : Fresh 1 M F) : CtF E yX7_init cX7_init 1 4 221 7472 (3, 0, 0) 1 M F (fun k' M' F' => k' = 222 ∧ M' = mX7 M ∧ F' = fX7 F ∧ Fresh 222 (mX7 M) (fX7 F)) := by
  refine ctF_of (own := RX7) (L0 := [vr (3, 0, 0)]) rfl (by decide +kernel) rfl rfl rfl ?_
  have hi : nmL[0]? = some (3, 0, 0) := by decide +kernel
  refine gg_aload_n dX7_init_0 rfl rfl ?_
  refine gg_obj dX7_init_1 wO7 (List.mem_of_getElem? hi) wOI wOC ⟨rfl, rfl⟩ ?_
  refine gg_aload_n dX7_init_4 rfl rfl ?_
  refine gg_sipush dX7_init_5 ⟨by decide, by decide⟩ ?_
  refine gg_newi (n := (4, 0, 0)) (t0 := 0) (len := 500) dX7_init_8 wA_0 rfl (by intro C h; cases h) rfl (by decide +kernel) rfl rfl rfl rfl rfl rfl (fr _ _ (Nat.le_refl _) (by decide +kernel)).1 rfl (Nat.le_of_ble_eq_true rfl) (Nat.le_of_ble_eq_true rfl) ?_
  have fr := fr.s
  refine gg_putr dX7_init_10 qf7_11 rfl hi (by omega) rfl rfl (fun _ => ⟨rfl, rfl⟩) ?_
  have fr := fr.w (j := 0) (r := (4, 0, 0)) hi (by omega)
  refine gg_aload_n dX7_init_13 rfl rfl ?_
  refine gg_bipush dX7_init_14 ⟨by decide, by decide⟩ ?_
  refine gg_newi (n := (5, 0, 0)) (t0 := 1) (len := 15) dX7_init_16 wA_1 rfl (by intro C h; cases h) rfl (by decide +kernel) rfl rfl rfl rfl rfl rfl (fr _ _ (Nat.le_refl _) (by decide +kernel)).1 rfl (Nat.le_of_ble_eq_true rfl) (Nat.le_of_ble_eq_true rfl) ?_
  have fr := fr.s
  refine gg_putr dX7_init_18 qf7_15 rfl hi (by omega) rfl rfl (fun _ => ⟨rfl, rfl⟩) ?_
  have fr := fr.w (j := 1) (r := (5, 0, 0)) hi (by omega)
  refine gg_aload_n dX7_init_21 rfl rfl ?_
  refine gg_new (n := (6, 0, 0)) dX7_init_22 (nl7_19 (a := 0) (b := 0)) rfl (by decide +kernel) (fr _ _ (Nat.le_refl _) (by decide +kernel)).1 (fr _ _ (Nat.le_refl _) (by decide +kernel)).2 (Nat.le_of_ble_eq_true rfl) (Nat.le_of_ble_eq_true rfl) ?_
  have fr := fr.s
  refine gg_dup_r dX7_init_25 ?_
  refine gg_callIN dX7_init_26 li4 hE.1 rfl ⟨by decide, by decide⟩ (List.mem_of_getElem? (show nmL[3]? = some (6, 0, 0) from by decide +kernel)) (cf_X4 (i := 3) (by decide +kernel) (by omega) fr) (Nat.le_of_ble_eq_true rfl) (Nat.le_of_ble_eq_true rfl) (fun k' M' F' hq => ?_)
  obtain ⟨rfl, rfl, rfl, fr⟩ := hq
  refine gg_putr dX7_init_29 qf7_22 rfl hi (by omega) rfl rfl (fun _ => ⟨rfl, rfl⟩) ?_
  have fr := fr.w (j := 2) (r := (6, 0, 0)) hi (by omega)
  refine gg_aload_n dX7_init_32 rfl rfl ?_
  refine gg_new (n := (7, 0, 0)) dX7_init_33 (nl7_26 (b := 0)) rfl (by decide +kernel) (fr _ _ (Nat.le_refl _) (by decide +kernel)).1 (fr _ _ (Nat.le_refl _) (by decide +kernel)).2 (Nat.le_of_ble_eq_true rfl) (Nat.le_of_ble_eq_true rfl) ?_
  have fr := fr.s
  refine gg_dup_r dX7_init_36 ?_
  refine gg_callI dX7_init_37 li1 (bg1 80 (by decide +kernel) rfl) rfl ⟨by decide, by decide⟩ (List.mem_of_getElem? (show nmL[4]? = some (7, 0, 0) from by decide +kernel)) (cf_X1 (f := 0) (i := 4) hE (by decide +kernel) (by omega) (by decide +kernel) (by decide +kernel) (by decide +kernel) fr) (Nat.le_of_ble_eq_true rfl) (Nat.le_of_ble_eq_true rfl) (fun k' M' F' hq => ?_)
  obtain ⟨rfl, rfl, rfl, fr⟩ := hq
  refine gg_putr dX7_init_40 qf7_29 rfl hi (by omega) rfl rfl (fun _ => ⟨rfl, rfl⟩) ?_
  have fr := fr.w (j := 3) (r := (7, 0, 0)) hi (by omega)
  refine gg_aload_n dX7_init_43 rfl rfl ?_
  refine gg_new (n := (17, 0, 0)) dX7_init_44 (nl7_33 (a := 0) (b := 0)) rfl (by decide +kernel) (fr _ _ (Nat.le_refl _) (by decide +kernel)).1 (fr _ _ (Nat.le_refl _) (by decide +kernel)).2 (Nat.le_of_ble_eq_true rfl) (Nat.le_of_ble_eq_true rfl) ?_
  have fr := fr.s
  refine gg_dup_r dX7_init_47 ?_
  refine gg_callIN dX7_init_48 li2 hE.2.1 rfl ⟨by decide, by decide⟩ (List.mem_of_getElem? (show nmL[90]? = some (17, 0, 0) from by decide +kernel)) (cf_X2 hE fr) (Nat.le_of_ble_eq_true rfl) (Nat.le_of_ble_eq_true rfl) (fun k' M' F' hq => ?_)
  obtain ⟨rfl, rfl, rfl, fr⟩ := hq
  refine gg_putr dX7_init_51 qf7_36 rfl hi (by omega) rfl rfl (fun _ => ⟨rfl, rfl⟩) ?_
  have fr := fr.w (j := 4) (r := (17, 0, 0)) hi (by omega)
  refine gg_aload_n dX7_init_54 rfl rfl ?_
  refine gg_new (n := (23, 0, 0)) dX7_init_55 (nl7_40 (a := 0) (b := 0)) rfl (by decide +kernel) (fr _ _ (Nat.le_refl _) (by decide +kernel)).1 (fr _ _ (Nat.le_refl _) (by decide +kernel)).2 (Nat.le_of_ble_eq_true rfl) (Nat.le_of_ble_eq_true rfl) ?_
  have fr := fr.s
  refine gg_dup_r dX7_init_58 ?_
  refine gg_callIN dX7_init_59 li6 hE.2.2.1 rfl ⟨by decide, by decide⟩ (List.mem_of_getElem? (show nmL[192]? = some (23, 0, 0) from by decide +kernel)) (cf_X6 hE fr) (Nat.le_of_ble_eq_true rfl) (Nat.le_of_ble_eq_true rfl) (fun k' M' F' hq => ?_)
  obtain ⟨rfl, rfl, rfl, fr⟩ := hq
  refine gg_putr dX7_init_62 qf7_43 rfl hi (by omega) rfl rfl (fun _ => ⟨rfl, rfl⟩) ?_
  have fr := fr.w (j := 5) (r := (23, 0, 0)) hi (by omega)
  refine gg_aload_n dX7_init_65 rfl rfl ?_
  refine gg_new (n := (18, 1, 0)) dX7_init_66 (nl7_47 (b := 0)) rfl (by decide +kernel) (fr _ _ (Nat.le_refl _) (by decide +kernel)).1 (fr _ _ (Nat.le_refl _) (by decide +kernel)).2 (Nat.le_of_ble_eq_true rfl) (Nat.le_of_ble_eq_true rfl) ?_
  have fr := fr.s
  refine gg_dup_r dX7_init_69 ?_
  refine gg_callIN dX7_init_70 li3 hE.2.2.2.1 rfl ⟨by decide, by decide⟩ (List.mem_of_getElem? (show nmL[198]? = some (18, 1, 0) from by decide +kernel)) (cf_X3 (p := 1) (i := 198) (by decide +kernel) (by omega) (by decide +kernel) fr) (Nat.le_of_ble_eq_true rfl) (Nat.le_of_ble_eq_true rfl) (fun k' M' F' hq => ?_)
  obtain ⟨rfl, rfl, rfl, fr⟩ := hq
  refine gg_putr dX7_init_73 qf7_50 rfl hi (by omega) rfl rfl (fun _ => ⟨rfl, rfl⟩) ?_
  have fr := fr.w (j := 6) (r := (18, 1, 0)) hi (by omega)
  refine gg_aload_n dX7_init_76 rfl rfl ?_
  refine gg_new (n := (18, 2, 0)) dX7_init_77 (nl7_47 (b := 0)) rfl (by decide +kernel) (fr _ _ (Nat.le_refl _) (by decide +kernel)).1 (fr _ _ (Nat.le_refl _) (by decide +kernel)).2 (Nat.le_of_ble_eq_true rfl) (Nat.le_of_ble_eq_true rfl) ?_
  have fr := fr.s
  refine gg_dup_r dX7_init_80 ?_
  refine gg_callIN dX7_init_81 li3 hE.2.2.2.1 rfl ⟨by decide, by decide⟩ (List.mem_of_getElem? (show nmL[210]? = some (18, 2, 0) from by decide +kernel)) (cf_X3 (p := 2) (i := 210) (by decide +kernel) (by omega) (by decide +kernel) fr) (Nat.le_of_ble_eq_true rfl) (Nat.le_of_ble_eq_true rfl) (fun k' M' F' hq => ?_)
  obtain ⟨rfl, rfl, rfl, fr⟩ := hq
  refine gg_putr dX7_init_84 qf7_54 rfl hi (by omega) rfl rfl (fun _ => ⟨rfl, rfl⟩) ?_
  have fr := fr.w (j := 7) (r := (18, 2, 0)) hi (by omega)
  refine gg_aload_n dX7_init_87 rfl rfl ?_
  refine gg_iconst dX7_init_88 (R32_lit rfl) ?_
  refine gg_puti dX7_init_89 qf7_57 rfl hi (by omega) rfl rfl rfl ?_
  have fr := fr.wm (j := 8) (x := 0) hi (by omega)
  refine gg_aload_n dX7_init_92 rfl rfl ?_
  refine gg_iconst dX7_init_93 (R32_lit rfl) ?_
  refine gg_puti dX7_init_94 qf7_61 rfl hi (by omega) rfl rfl rfl ?_
  have fr := fr.wm (j := 9) (x := 0) hi (by omega)
  refine gg_aload_n dX7_init_97 rfl rfl ?_
  refine gg_iconst dX7_init_98 (R32_lit rfl) ?_
  refine gg_puti dX7_init_99 qf7_64 rfl hi (by omega) rfl rfl rfl ?_
  have fr := fr.wm (j := 10) (x := 0) hi (by omega)
  refine gg_aload_n dX7_init_102 rfl rfl ?_
  refine gg_iconst dX7_init_103 (R32_lit rfl) ?_
  refine gg_puti dX7_init_104 qf7_67 rfl hi (by omega) rfl rfl rfl ?_
  have fr := fr.wm (j := 11) (x := (-1)) hi (by omega)
  exact gg_vret dX7_init_107 ⟨rfl, rfl, rfl, fr⟩
theorem qf8_11 : QLk RX8 11 8 3 (.int) false := ⟨RX8, TX8, 52, rfl, by decide, rfl, ly8, fw8_11, ⟨tyX8, tyX8_ok⟩, nmX8, rfl, by decide +kernel, rfl⟩
theorem qf8_15 : QLk RX8 15 8 4 (.array .int) true := ⟨RX8, TX8, 52, rfl, by decide, rfl, ly8, fw8_15, ⟨tyX8, tyX8_ok⟩, nmX8, rfl, by decide +kernel, rfl⟩
theorem qf8_19 : QLk RX8 19 8 7 (.array .int) true := ⟨RX8, TX8, 52, rfl, by decide, rfl, ly8, fw8_19, ⟨tyX8, tyX8_ok⟩, nmX8, rfl, by decide +kernel, rfl⟩
theorem qf8_22 : QLk RX8 22 8 8 (.array .int) true := ⟨RX8, TX8, 52, rfl, by decide, rfl, ly8, fw8_22, ⟨tyX8, tyX8_ok⟩, nmX8, rfl, by decide +kernel, rfl⟩
theorem qf8_25 : QLk RX8 25 8 9 (.array .int) true := ⟨RX8, TX8, 52, rfl, by decide, rfl, ly8, fw8_25, ⟨tyX8, tyX8_ok⟩, nmX8, rfl, by decide +kernel, rfl⟩
theorem qf8_28 : QLk RX8 28 8 10 (.array .int) true := ⟨RX8, TX8, 52, rfl, by decide, rfl, ly8, fw8_28, ⟨tyX8, tyX8_ok⟩, nmX8, rfl, by decide +kernel, rfl⟩
theorem qf8_31 : QLk RX8 31 8 11 (.array .int) true := ⟨RX8, TX8, 52, rfl, by decide, rfl, ly8, fw8_31, ⟨tyX8, tyX8_ok⟩, nmX8, rfl, by decide +kernel, rfl⟩
theorem qf8_34 : QLk RX8 34 8 12 (.array .int) true := ⟨RX8, TX8, 52, rfl, by decide, rfl, ly8, fw8_34, ⟨tyX8, tyX8_ok⟩, nmX8, rfl, by decide +kernel, rfl⟩
theorem qf8_37 : QLk RX8 37 8 13 (.array .int) true := ⟨RX8, TX8, 52, rfl, by decide, rfl, ly8, fw8_37, ⟨tyX8, tyX8_ok⟩, nmX8, rfl, by decide +kernel, rfl⟩
theorem qf8_40 : QLk RX8 40 8 24 (.array .int) true := ⟨RX8, TX8, 52, rfl, by decide, rfl, ly8, fw8_40, ⟨tyX8, tyX8_ok⟩, nmX8, rfl, by decide +kernel, rfl⟩
theorem qf8_43 : QLk RX8 43 8 25 (.array .int) true := ⟨RX8, TX8, 52, rfl, by decide, rfl, ly8, fw8_43, ⟨tyX8, tyX8_ok⟩, nmX8, rfl, by decide +kernel, rfl⟩
theorem qf8_46 : QLk RX8 46 8 27 (.array .long) true := ⟨RX8, TX8, 52, rfl, by decide, rfl, ly8, fw8_46, ⟨tyX8, tyX8_ok⟩, nmX8, rfl, by decide +kernel, rfl⟩
theorem qf8_50 : QLk RX8 50 8 28 (.array .int) true := ⟨RX8, TX8, 52, rfl, by decide, rfl, ly8, fw8_50, ⟨tyX8, tyX8_ok⟩, nmX8, rfl, by decide +kernel, rfl⟩
theorem qf8_53 : QLk RX8 53 8 29 (.array .int) true := ⟨RX8, TX8, 52, rfl, by decide, rfl, ly8, fw8_53, ⟨tyX8, tyX8_ok⟩, nmX8, rfl, by decide +kernel, rfl⟩
theorem qf8_56 : QLk RX8 56 8 30 (.array .long) true := ⟨RX8, TX8, 52, rfl, by decide, rfl, ly8, fw8_56, ⟨tyX8, tyX8_ok⟩, nmX8, rfl, by decide +kernel, rfl⟩
theorem qf8_59 : QLk RX8 59 8 31 (.array .long) true := ⟨RX8, TX8, 52, rfl, by decide, rfl, ly8, fw8_59, ⟨tyX8, tyX8_ok⟩, nmX8, rfl, by decide +kernel, rfl⟩
theorem qf8_62 : QLk RX8 62 8 32 (.array .int) true := ⟨RX8, TX8, 52, rfl, by decide, rfl, ly8, fw8_62, ⟨tyX8, tyX8_ok⟩, nmX8, rfl, by decide +kernel, rfl⟩
theorem qf8_65 : QLk RX8 65 8 33 (.array .long) true := ⟨RX8, TX8, 52, rfl, by decide, rfl, ly8, fw8_65, ⟨tyX8, tyX8_ok⟩, nmX8, rfl, by decide +kernel, rfl⟩
theorem qf8_68 : QLk RX8 68 8 35 (.array .int) true := ⟨RX8, TX8, 52, rfl, by decide, rfl, ly8, fw8_68, ⟨tyX8, tyX8_ok⟩, nmX8, rfl, by decide +kernel, rfl⟩
theorem qf8_71 : QLk RX8 71 8 36 (.array .int) true := ⟨RX8, TX8, 52, rfl, by decide, rfl, ly8, fw8_71, ⟨tyX8, tyX8_ok⟩, nmX8, rfl, by decide +kernel, rfl⟩
theorem qf8_74 : QLk RX8 74 8 38 (.array .int) true := ⟨RX8, TX8, 52, rfl, by decide, rfl, ly8, fw8_74, ⟨tyX8, tyX8_ok⟩, nmX8, rfl, by decide +kernel, rfl⟩
theorem qf8_77 : QLk RX8 77 8 39 (.array .int) true := ⟨RX8, TX8, 52, rfl, by decide, rfl, ly8, fw8_77, ⟨tyX8, tyX8_ok⟩, nmX8, rfl, by decide +kernel, rfl⟩
theorem qf8_80 : QLk RX8 80 8 40 (.array .int) true := ⟨RX8, TX8, 52, rfl, by decide, rfl, ly8, fw8_80, ⟨tyX8, tyX8_ok⟩, nmX8, rfl, by decide +kernel, rfl⟩
theorem qf8_83 : QLk RX8 83 8 41 (.array .int) true := ⟨RX8, TX8, 52, rfl, by decide, rfl, ly8, fw8_83, ⟨tyX8, tyX8_ok⟩, nmX8, rfl, by decide +kernel, rfl⟩
theorem qf8_86 : QLk RX8 86 8 43 (.array .int) true := ⟨RX8, TX8, 52, rfl, by decide, rfl, ly8, fw8_86, ⟨tyX8, tyX8_ok⟩, nmX8, rfl, by decide +kernel, rfl⟩
theorem qf8_89 : QLk RX8 89 8 44 (.array .int) true := ⟨RX8, TX8, 52, rfl, by decide, rfl, ly8, fw8_89, ⟨tyX8, tyX8_ok⟩, nmX8, rfl, by decide +kernel, rfl⟩
theorem qf8_92 : QLk RX8 92 8 45 (.array .long) true := ⟨RX8, TX8, 52, rfl, by decide, rfl, ly8, fw8_92, ⟨tyX8, tyX8_ok⟩, nmX8, rfl, by decide +kernel, rfl⟩
theorem qf8_95 : QLk RX8 95 8 46 (.array .boolean) true := ⟨RX8, TX8, 52, rfl, by decide, rfl, ly8, fw8_95, ⟨tyX8, tyX8_ok⟩, nmX8, rfl, by decide +kernel, rfl⟩
theorem qf8_99 : QLk RX8 99 8 49 (.array .int) true := ⟨RX8, TX8, 52, rfl, by decide, rfl, ly8, fw8_99, ⟨tyX8, tyX8_ok⟩, nmX8, rfl, by decide +kernel, rfl⟩
theorem qf8_102 : QLk RX8 102 8 51 (.array .int) true := ⟨RX8, TX8, 52, rfl, by decide, rfl, ly8, fw8_102, ⟨tyX8, tyX8_ok⟩, nmX8, rfl, by decide +kernel, rfl⟩
def fX8 (F : Rfn) : Rfn := wrF (wrF (wrF (wrF (wrF (wrF (wrF (wrF (wrF (wrF (wrF (wrF (wrF (wrF (wrF (wrF (wrF (wrF (wrF (wrF (wrF (wrF (wrF (wrF (wrF (wrF (wrF (wrF (wrF (F) (29, 0, 0) 4 (30, 0, 4)) (29, 0, 0) 7 (30, 0, 7)) (29, 0, 0) 8 (30, 0, 8)) (29, 0, 0) 9 (30, 0, 9)) (29, 0, 0) 10 (30, 0, 10)) (29, 0, 0) 11 (30, 0, 11)) (29, 0, 0) 12 (30, 0, 12)) (29, 0, 0) 13 (30, 0, 13)) (29, 0, 0) 24 (30, 0, 24)) (29, 0, 0) 25 (30, 0, 25)) (29, 0, 0) 27 (30, 0, 27)) (29, 0, 0) 28 (30, 0, 28)) (29, 0, 0) 29 (30, 0, 29)) (29, 0, 0) 30 (30, 0, 30)) (29, 0, 0) 31 (30, 0, 31)) (29, 0, 0) 32 (30, 0, 32)) (29, 0, 0) 33 (30, 0, 33)) (29, 0, 0) 35 (30, 0, 35)) (29, 0, 0) 36 (30, 0, 36)) (29, 0, 0) 38 (30, 0, 38)) (29, 0, 0) 39 (30, 0, 39)) (29, 0, 0) 40 (30, 0, 40)) (29, 0, 0) 41 (30, 0, 41)) (29, 0, 0) 43 (30, 0, 43)) (29, 0, 0) 44 (30, 0, 44)) (29, 0, 0) 45 (30, 0, 45)) (29, 0, 0) 46 (30, 0, 46)) (29, 0, 0) 49 (30, 0, 49)) (29, 0, 0) 51 (30, 0, 51)
def mX8 (M : Mm) : Mm := wr (M) (29, 0, 0) 3 (-1)
set_option maxRecDepth 100000 in
set_option maxHeartbeats 4000000 in
theorem cf_X8 {E : Ev} {M : Mm} {F : Rfn}  (hE : EI E) (fr : Fresh 223 M F) : CtF E yX8_init cX8_init 1 1 29 8356 (29, 0, 0) 223 M F (fun k' M' F' => k' = 252 ∧ M' = mX8 M ∧ F' = fX8 F ∧ Fresh 252 (mX8 M) (fX8 F)) := by
  refine ctF_of (own := RX8) (L0 := [vr (29, 0, 0)]) rfl (by decide +kernel) rfl rfl rfl ?_
  have hi : nmL[222]? = some (29, 0, 0) := by decide +kernel
  refine gg_aload_n dX8_init_0 rfl rfl ?_
  refine gg_obj dX8_init_1 wO8 (List.mem_of_getElem? hi) wOI wOC ⟨rfl, rfl⟩ ?_
  refine gg_aload_n dX8_init_4 rfl rfl ?_
  refine gg_iconst dX8_init_5 (R32_lit rfl) ?_
  refine gg_puti dX8_init_6 qf8_11 rfl hi (by omega) rfl rfl rfl ?_
  have fr := fr.wm (j := 3) (x := (-1)) hi (by omega)
  refine gg_aload_n dX8_init_9 rfl rfl ?_
  refine gg_sipush dX8_init_10 ⟨by decide, by decide⟩ ?_
  refine gg_newi (n := (30, 0, 4)) (t0 := 1) (len := 500) dX8_init_13 wA_1 rfl (by intro C h; cases h) rfl (by decide +kernel) rfl rfl rfl rfl rfl rfl (fr _ _ (Nat.le_refl _) (by decide +kernel)).1 rfl (Nat.le_of_ble_eq_true rfl) (Nat.le_of_ble_eq_true rfl) ?_
  have fr := fr.s
  refine gg_putr dX8_init_15 qf8_15 rfl hi (by omega) rfl rfl (fun _ => ⟨rfl, rfl⟩) ?_
  have fr := fr.w (j := 4) (r := (30, 0, 4)) hi (by omega)
  refine gg_aload_n dX8_init_18 rfl rfl ?_
  refine gg_bipush dX8_init_19 ⟨by decide, by decide⟩ ?_
  refine gg_newi (n := (30, 0, 7)) (t0 := 1) (len := 30) dX8_init_21 wA_1 rfl (by intro C h; cases h) rfl (by decide +kernel) rfl rfl rfl rfl rfl rfl (fr _ _ (Nat.le_refl _) (by decide +kernel)).1 rfl (Nat.le_of_ble_eq_true rfl) (Nat.le_of_ble_eq_true rfl) ?_
  have fr := fr.s
  refine gg_putr dX8_init_23 qf8_19 rfl hi (by omega) rfl rfl (fun _ => ⟨rfl, rfl⟩) ?_
  have fr := fr.w (j := 7) (r := (30, 0, 7)) hi (by omega)
  refine gg_aload_n dX8_init_26 rfl rfl ?_
  refine gg_bipush dX8_init_27 ⟨by decide, by decide⟩ ?_
  refine gg_newi (n := (30, 0, 8)) (t0 := 1) (len := 30) dX8_init_29 wA_1 rfl (by intro C h; cases h) rfl (by decide +kernel) rfl rfl rfl rfl rfl rfl (fr _ _ (Nat.le_refl _) (by decide +kernel)).1 rfl (Nat.le_of_ble_eq_true rfl) (Nat.le_of_ble_eq_true rfl) ?_
  have fr := fr.s
  refine gg_putr dX8_init_31 qf8_22 rfl hi (by omega) rfl rfl (fun _ => ⟨rfl, rfl⟩) ?_
  have fr := fr.w (j := 8) (r := (30, 0, 8)) hi (by omega)
  refine gg_aload_n dX8_init_34 rfl rfl ?_
  refine gg_bipush dX8_init_35 ⟨by decide, by decide⟩ ?_
  refine gg_newi (n := (30, 0, 9)) (t0 := 1) (len := 30) dX8_init_37 wA_1 rfl (by intro C h; cases h) rfl (by decide +kernel) rfl rfl rfl rfl rfl rfl (fr _ _ (Nat.le_refl _) (by decide +kernel)).1 rfl (Nat.le_of_ble_eq_true rfl) (Nat.le_of_ble_eq_true rfl) ?_
  have fr := fr.s
  refine gg_putr dX8_init_39 qf8_25 rfl hi (by omega) rfl rfl (fun _ => ⟨rfl, rfl⟩) ?_
  have fr := fr.w (j := 9) (r := (30, 0, 9)) hi (by omega)
  refine gg_aload_n dX8_init_42 rfl rfl ?_
  refine gg_bipush dX8_init_43 ⟨by decide, by decide⟩ ?_
  refine gg_newi (n := (30, 0, 10)) (t0 := 1) (len := 30) dX8_init_45 wA_1 rfl (by intro C h; cases h) rfl (by decide +kernel) rfl rfl rfl rfl rfl rfl (fr _ _ (Nat.le_refl _) (by decide +kernel)).1 rfl (Nat.le_of_ble_eq_true rfl) (Nat.le_of_ble_eq_true rfl) ?_
  have fr := fr.s
  refine gg_putr dX8_init_47 qf8_28 rfl hi (by omega) rfl rfl (fun _ => ⟨rfl, rfl⟩) ?_
  have fr := fr.w (j := 10) (r := (30, 0, 10)) hi (by omega)
  refine gg_aload_n dX8_init_50 rfl rfl ?_
  refine gg_bipush dX8_init_51 ⟨by decide, by decide⟩ ?_
  refine gg_newi (n := (30, 0, 11)) (t0 := 1) (len := 120) dX8_init_53 wA_1 rfl (by intro C h; cases h) rfl (by decide +kernel) rfl rfl rfl rfl rfl rfl (fr _ _ (Nat.le_refl _) (by decide +kernel)).1 rfl (Nat.le_of_ble_eq_true rfl) (Nat.le_of_ble_eq_true rfl) ?_
  have fr := fr.s
  refine gg_putr dX8_init_55 qf8_31 rfl hi (by omega) rfl rfl (fun _ => ⟨rfl, rfl⟩) ?_
  have fr := fr.w (j := 11) (r := (30, 0, 11)) hi (by omega)
  refine gg_aload_n dX8_init_58 rfl rfl ?_
  refine gg_bipush dX8_init_59 ⟨by decide, by decide⟩ ?_
  refine gg_newi (n := (30, 0, 12)) (t0 := 1) (len := 120) dX8_init_61 wA_1 rfl (by intro C h; cases h) rfl (by decide +kernel) rfl rfl rfl rfl rfl rfl (fr _ _ (Nat.le_refl _) (by decide +kernel)).1 rfl (Nat.le_of_ble_eq_true rfl) (Nat.le_of_ble_eq_true rfl) ?_
  have fr := fr.s
  refine gg_putr dX8_init_63 qf8_34 rfl hi (by omega) rfl rfl (fun _ => ⟨rfl, rfl⟩) ?_
  have fr := fr.w (j := 12) (r := (30, 0, 12)) hi (by omega)
  refine gg_aload_n dX8_init_66 rfl rfl ?_
  refine gg_bipush dX8_init_67 ⟨by decide, by decide⟩ ?_
  refine gg_newi (n := (30, 0, 13)) (t0 := 1) (len := 15) dX8_init_69 wA_1 rfl (by intro C h; cases h) rfl (by decide +kernel) rfl rfl rfl rfl rfl rfl (fr _ _ (Nat.le_refl _) (by decide +kernel)).1 rfl (Nat.le_of_ble_eq_true rfl) (Nat.le_of_ble_eq_true rfl) ?_
  have fr := fr.s
  refine gg_putr dX8_init_71 qf8_37 rfl hi (by omega) rfl rfl (fun _ => ⟨rfl, rfl⟩) ?_
  have fr := fr.w (j := 13) (r := (30, 0, 13)) hi (by omega)
  refine gg_aload_n dX8_init_74 rfl rfl ?_
  refine gg_bipush dX8_init_75 ⟨by decide, by decide⟩ ?_
  refine gg_newi (n := (30, 0, 24)) (t0 := 1) (len := 15) dX8_init_77 wA_1 rfl (by intro C h; cases h) rfl (by decide +kernel) rfl rfl rfl rfl rfl rfl (fr _ _ (Nat.le_refl _) (by decide +kernel)).1 rfl (Nat.le_of_ble_eq_true rfl) (Nat.le_of_ble_eq_true rfl) ?_
  have fr := fr.s
  refine gg_putr dX8_init_79 qf8_40 rfl hi (by omega) rfl rfl (fun _ => ⟨rfl, rfl⟩) ?_
  have fr := fr.w (j := 24) (r := (30, 0, 24)) hi (by omega)
  refine gg_aload_n dX8_init_82 rfl rfl ?_
  refine gg_bipush dX8_init_83 ⟨by decide, by decide⟩ ?_
  refine gg_newi (n := (30, 0, 25)) (t0 := 1) (len := 15) dX8_init_85 wA_1 rfl (by intro C h; cases h) rfl (by decide +kernel) rfl rfl rfl rfl rfl rfl (fr _ _ (Nat.le_refl _) (by decide +kernel)).1 rfl (Nat.le_of_ble_eq_true rfl) (Nat.le_of_ble_eq_true rfl) ?_
  have fr := fr.s
  refine gg_putr dX8_init_87 qf8_43 rfl hi (by omega) rfl rfl (fun _ => ⟨rfl, rfl⟩) ?_
  have fr := fr.w (j := 25) (r := (30, 0, 25)) hi (by omega)
  refine gg_aload_n dX8_init_90 rfl rfl ?_
  refine gg_bipush dX8_init_91 ⟨by decide, by decide⟩ ?_
  refine gg_newl (n := (30, 0, 27)) (len := 15) dX8_init_93 (by decide +kernel) rfl rfl rfl (fr _ _ (Nat.le_refl _) (by decide +kernel)).1 (Nat.le_of_ble_eq_true rfl) (Nat.le_of_ble_eq_true rfl) ?_
  have fr := fr.s
  refine gg_putr dX8_init_95 qf8_46 rfl hi (by omega) rfl rfl (fun _ => ⟨rfl, rfl⟩) ?_
  have fr := fr.w (j := 27) (r := (30, 0, 27)) hi (by omega)
  refine gg_aload_n dX8_init_98 rfl rfl ?_
  refine gg_bipush dX8_init_99 ⟨by decide, by decide⟩ ?_
  refine gg_newi (n := (30, 0, 28)) (t0 := 1) (len := 15) dX8_init_101 wA_1 rfl (by intro C h; cases h) rfl (by decide +kernel) rfl rfl rfl rfl rfl rfl (fr _ _ (Nat.le_refl _) (by decide +kernel)).1 rfl (Nat.le_of_ble_eq_true rfl) (Nat.le_of_ble_eq_true rfl) ?_
  have fr := fr.s
  refine gg_putr dX8_init_103 qf8_50 rfl hi (by omega) rfl rfl (fun _ => ⟨rfl, rfl⟩) ?_
  have fr := fr.w (j := 28) (r := (30, 0, 28)) hi (by omega)
  refine gg_aload_n dX8_init_106 rfl rfl ?_
  refine gg_bipush dX8_init_107 ⟨by decide, by decide⟩ ?_
  refine gg_newi (n := (30, 0, 29)) (t0 := 1) (len := 15) dX8_init_109 wA_1 rfl (by intro C h; cases h) rfl (by decide +kernel) rfl rfl rfl rfl rfl rfl (fr _ _ (Nat.le_refl _) (by decide +kernel)).1 rfl (Nat.le_of_ble_eq_true rfl) (Nat.le_of_ble_eq_true rfl) ?_
  have fr := fr.s
  refine gg_putr dX8_init_111 qf8_53 rfl hi (by omega) rfl rfl (fun _ => ⟨rfl, rfl⟩) ?_
  have fr := fr.w (j := 29) (r := (30, 0, 29)) hi (by omega)
  refine gg_aload_n dX8_init_114 rfl rfl ?_
  refine gg_bipush dX8_init_115 ⟨by decide, by decide⟩ ?_
  refine gg_newl (n := (30, 0, 30)) (len := 15) dX8_init_117 (by decide +kernel) rfl rfl rfl (fr _ _ (Nat.le_refl _) (by decide +kernel)).1 (Nat.le_of_ble_eq_true rfl) (Nat.le_of_ble_eq_true rfl) ?_
  have fr := fr.s
  refine gg_putr dX8_init_119 qf8_56 rfl hi (by omega) rfl rfl (fun _ => ⟨rfl, rfl⟩) ?_
  have fr := fr.w (j := 30) (r := (30, 0, 30)) hi (by omega)
  refine gg_aload_n dX8_init_122 rfl rfl ?_
  refine gg_bipush dX8_init_123 ⟨by decide, by decide⟩ ?_
  refine gg_newl (n := (30, 0, 31)) (len := 15) dX8_init_125 (by decide +kernel) rfl rfl rfl (fr _ _ (Nat.le_refl _) (by decide +kernel)).1 (Nat.le_of_ble_eq_true rfl) (Nat.le_of_ble_eq_true rfl) ?_
  have fr := fr.s
  refine gg_putr dX8_init_127 qf8_59 rfl hi (by omega) rfl rfl (fun _ => ⟨rfl, rfl⟩) ?_
  have fr := fr.w (j := 31) (r := (30, 0, 31)) hi (by omega)
  refine gg_aload_n dX8_init_130 rfl rfl ?_
  refine gg_bipush dX8_init_131 ⟨by decide, by decide⟩ ?_
  refine gg_newi (n := (30, 0, 32)) (t0 := 1) (len := 15) dX8_init_133 wA_1 rfl (by intro C h; cases h) rfl (by decide +kernel) rfl rfl rfl rfl rfl rfl (fr _ _ (Nat.le_refl _) (by decide +kernel)).1 rfl (Nat.le_of_ble_eq_true rfl) (Nat.le_of_ble_eq_true rfl) ?_
  have fr := fr.s
  refine gg_putr dX8_init_135 qf8_62 rfl hi (by omega) rfl rfl (fun _ => ⟨rfl, rfl⟩) ?_
  have fr := fr.w (j := 32) (r := (30, 0, 32)) hi (by omega)
  refine gg_aload_n dX8_init_138 rfl rfl ?_
  refine gg_sipush dX8_init_139 ⟨by decide, by decide⟩ ?_
  refine gg_newl (n := (30, 0, 33)) (len := 4050) dX8_init_142 (by decide +kernel) rfl rfl rfl (fr _ _ (Nat.le_refl _) (by decide +kernel)).1 (Nat.le_of_ble_eq_true rfl) (Nat.le_of_ble_eq_true rfl) ?_
  have fr := fr.s
  refine gg_putr dX8_init_144 qf8_65 rfl hi (by omega) rfl rfl (fun _ => ⟨rfl, rfl⟩) ?_
  have fr := fr.w (j := 33) (r := (30, 0, 33)) hi (by omega)
  refine gg_aload_n dX8_init_147 rfl rfl ?_
  refine gg_bipush dX8_init_148 ⟨by decide, by decide⟩ ?_
  refine gg_newi (n := (30, 0, 35)) (t0 := 1) (len := 80) dX8_init_150 wA_1 rfl (by intro C h; cases h) rfl (by decide +kernel) rfl rfl rfl rfl rfl rfl (fr _ _ (Nat.le_refl _) (by decide +kernel)).1 rfl (Nat.le_of_ble_eq_true rfl) (Nat.le_of_ble_eq_true rfl) ?_
  have fr := fr.s
  refine gg_putr dX8_init_152 qf8_68 rfl hi (by omega) rfl rfl (fun _ => ⟨rfl, rfl⟩) ?_
  have fr := fr.w (j := 35) (r := (30, 0, 35)) hi (by omega)
  refine gg_aload_n dX8_init_155 rfl rfl ?_
  refine gg_bipush dX8_init_156 ⟨by decide, by decide⟩ ?_
  refine gg_newi (n := (30, 0, 36)) (t0 := 1) (len := 80) dX8_init_158 wA_1 rfl (by intro C h; cases h) rfl (by decide +kernel) rfl rfl rfl rfl rfl rfl (fr _ _ (Nat.le_refl _) (by decide +kernel)).1 rfl (Nat.le_of_ble_eq_true rfl) (Nat.le_of_ble_eq_true rfl) ?_
  have fr := fr.s
  refine gg_putr dX8_init_160 qf8_71 rfl hi (by omega) rfl rfl (fun _ => ⟨rfl, rfl⟩) ?_
  have fr := fr.w (j := 36) (r := (30, 0, 36)) hi (by omega)
  refine gg_aload_n dX8_init_163 rfl rfl ?_
  refine gg_bipush dX8_init_164 ⟨by decide, by decide⟩ ?_
  refine gg_newi (n := (30, 0, 38)) (t0 := 1) (len := 15) dX8_init_166 wA_1 rfl (by intro C h; cases h) rfl (by decide +kernel) rfl rfl rfl rfl rfl rfl (fr _ _ (Nat.le_refl _) (by decide +kernel)).1 rfl (Nat.le_of_ble_eq_true rfl) (Nat.le_of_ble_eq_true rfl) ?_
  have fr := fr.s
  refine gg_putr dX8_init_168 qf8_74 rfl hi (by omega) rfl rfl (fun _ => ⟨rfl, rfl⟩) ?_
  have fr := fr.w (j := 38) (r := (30, 0, 38)) hi (by omega)
  refine gg_aload_n dX8_init_171 rfl rfl ?_
  refine gg_bipush dX8_init_172 ⟨by decide, by decide⟩ ?_
  refine gg_newi (n := (30, 0, 39)) (t0 := 1) (len := 15) dX8_init_174 wA_1 rfl (by intro C h; cases h) rfl (by decide +kernel) rfl rfl rfl rfl rfl rfl (fr _ _ (Nat.le_refl _) (by decide +kernel)).1 rfl (Nat.le_of_ble_eq_true rfl) (Nat.le_of_ble_eq_true rfl) ?_
  have fr := fr.s
  refine gg_putr dX8_init_176 qf8_77 rfl hi (by omega) rfl rfl (fun _ => ⟨rfl, rfl⟩) ?_
  have fr := fr.w (j := 39) (r := (30, 0, 39)) hi (by omega)
  refine gg_aload_n dX8_init_179 rfl rfl ?_
  refine gg_bipush dX8_init_180 ⟨by decide, by decide⟩ ?_
  refine gg_newi (n := (30, 0, 40)) (t0 := 1) (len := 15) dX8_init_182 wA_1 rfl (by intro C h; cases h) rfl (by decide +kernel) rfl rfl rfl rfl rfl rfl (fr _ _ (Nat.le_refl _) (by decide +kernel)).1 rfl (Nat.le_of_ble_eq_true rfl) (Nat.le_of_ble_eq_true rfl) ?_
  have fr := fr.s
  refine gg_putr dX8_init_184 qf8_80 rfl hi (by omega) rfl rfl (fun _ => ⟨rfl, rfl⟩) ?_
  have fr := fr.w (j := 40) (r := (30, 0, 40)) hi (by omega)
  refine gg_aload_n dX8_init_187 rfl rfl ?_
  refine gg_iconst dX8_init_188 (R32_lit rfl) ?_
  refine gg_newi (n := (30, 0, 41)) (t0 := 1) (len := 4) dX8_init_189 wA_1 rfl (by intro C h; cases h) rfl (by decide +kernel) rfl rfl rfl rfl rfl rfl (fr _ _ (Nat.le_refl _) (by decide +kernel)).1 rfl (Nat.le_of_ble_eq_true rfl) (Nat.le_of_ble_eq_true rfl) ?_
  have fr := fr.s
  refine gg_putr dX8_init_191 qf8_83 rfl hi (by omega) rfl rfl (fun _ => ⟨rfl, rfl⟩) ?_
  have fr := fr.w (j := 41) (r := (30, 0, 41)) hi (by omega)
  refine gg_aload_n dX8_init_194 rfl rfl ?_
  refine gg_sipush dX8_init_195 ⟨by decide, by decide⟩ ?_
  refine gg_newi (n := (30, 0, 43)) (t0 := 1) (len := 1440) dX8_init_198 wA_1 rfl (by intro C h; cases h) rfl (by decide +kernel) rfl rfl rfl rfl rfl rfl (fr _ _ (Nat.le_refl _) (by decide +kernel)).1 rfl (Nat.le_of_ble_eq_true rfl) (Nat.le_of_ble_eq_true rfl) ?_
  have fr := fr.s
  refine gg_putr dX8_init_200 qf8_86 rfl hi (by omega) rfl rfl (fun _ => ⟨rfl, rfl⟩) ?_
  have fr := fr.w (j := 43) (r := (30, 0, 43)) hi (by omega)
  refine gg_aload_n dX8_init_203 rfl rfl ?_
  refine gg_sipush dX8_init_204 ⟨by decide, by decide⟩ ?_
  refine gg_newi (n := (30, 0, 44)) (t0 := 1) (len := 1440) dX8_init_207 wA_1 rfl (by intro C h; cases h) rfl (by decide +kernel) rfl rfl rfl rfl rfl rfl (fr _ _ (Nat.le_refl _) (by decide +kernel)).1 rfl (Nat.le_of_ble_eq_true rfl) (Nat.le_of_ble_eq_true rfl) ?_
  have fr := fr.s
  refine gg_putr dX8_init_209 qf8_89 rfl hi (by omega) rfl rfl (fun _ => ⟨rfl, rfl⟩) ?_
  have fr := fr.w (j := 44) (r := (30, 0, 44)) hi (by omega)
  refine gg_aload_n dX8_init_212 rfl rfl ?_
  refine gg_bipush dX8_init_213 ⟨by decide, by decide⟩ ?_
  refine gg_newl (n := (30, 0, 45)) (len := 96) dX8_init_215 (by decide +kernel) rfl rfl rfl (fr _ _ (Nat.le_refl _) (by decide +kernel)).1 (Nat.le_of_ble_eq_true rfl) (Nat.le_of_ble_eq_true rfl) ?_
  have fr := fr.s
  refine gg_putr dX8_init_217 qf8_92 rfl hi (by omega) rfl rfl (fun _ => ⟨rfl, rfl⟩) ?_
  have fr := fr.w (j := 45) (r := (30, 0, 45)) hi (by omega)
  refine gg_aload_n dX8_init_220 rfl rfl ?_
  refine gg_bipush dX8_init_221 ⟨by decide, by decide⟩ ?_
  refine gg_newi (n := (30, 0, 46)) (t0 := 3) (len := 96) dX8_init_223 wA_3 rfl (by intro C h; cases h) rfl (by decide +kernel) rfl rfl rfl rfl rfl rfl (fr _ _ (Nat.le_refl _) (by decide +kernel)).1 rfl (Nat.le_of_ble_eq_true rfl) (Nat.le_of_ble_eq_true rfl) ?_
  have fr := fr.s
  refine gg_putr dX8_init_225 qf8_95 rfl hi (by omega) rfl rfl (fun _ => ⟨rfl, rfl⟩) ?_
  have fr := fr.w (j := 46) (r := (30, 0, 46)) hi (by omega)
  refine gg_aload_n dX8_init_228 rfl rfl ?_
  refine gg_bipush dX8_init_229 ⟨by decide, by decide⟩ ?_
  refine gg_newi (n := (30, 0, 49)) (t0 := 1) (len := 15) dX8_init_231 wA_1 rfl (by intro C h; cases h) rfl (by decide +kernel) rfl rfl rfl rfl rfl rfl (fr _ _ (Nat.le_refl _) (by decide +kernel)).1 rfl (Nat.le_of_ble_eq_true rfl) (Nat.le_of_ble_eq_true rfl) ?_
  have fr := fr.s
  refine gg_putr dX8_init_233 qf8_99 rfl hi (by omega) rfl rfl (fun _ => ⟨rfl, rfl⟩) ?_
  have fr := fr.w (j := 49) (r := (30, 0, 49)) hi (by omega)
  refine gg_aload_n dX8_init_236 rfl rfl ?_
  refine gg_bipush dX8_init_237 ⟨by decide, by decide⟩ ?_
  refine gg_newi (n := (30, 0, 51)) (t0 := 1) (len := 15) dX8_init_239 wA_1 rfl (by intro C h; cases h) rfl (by decide +kernel) rfl rfl rfl rfl rfl rfl (fr _ _ (Nat.le_refl _) (by decide +kernel)).1 rfl (Nat.le_of_ble_eq_true rfl) (Nat.le_of_ble_eq_true rfl) ?_
  have fr := fr.s
  refine gg_putr dX8_init_241 qf8_102 rfl hi (by omega) rfl rfl (fun _ => ⟨rfl, rfl⟩) ?_
  have fr := fr.w (j := 51) (r := (30, 0, 51)) hi (by omega)
  exact gg_vret dX8_init_244 ⟨rfl, rfl, rfl, fr⟩
