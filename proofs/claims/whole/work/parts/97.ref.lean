theorem w3_eq {x y c : Int} : w64 (x + (y + c)) = w64 (x + (w64 y + c)) := by unfold w64; omega
theorem fma_0 {A B : FV} : fma (fnum 0) A B = fml A B := by
  unfold fma fml fnum
  refine Prod.ext ?_ ?_
  · show w64 (0 + A.1 * B.1) = _; rw [Int.zero_add]
  · funext i; show w64 (0 + (A.1 * B.2 i + B.1 * A.2 i)) = _; rw [Int.zero_add]
theorem bfo_fma {ν : Nu} {X A B : FV} {c : Int} : bfo ν (fma X A B) c = fad X 1 (bfo ν (fml A B) c) := by
  unfold bfo
  split
  · refine Prod.ext ?_ ?_
    · show w64 (X.1 + A.1 * B.1) = w64 (X.1 + 1 * w64 (A.1 * B.1)); rw [Int.one_mul, w64_add']
    · funext i
      show w64 (X.2 i + (A.1 * B.2 i + B.1 * A.2 i)) = w64 (X.2 i + 1 * w64 (A.1 * B.2 i + B.1 * A.2 i)); rw [Int.one_mul, w64_add']
  · refine Prod.ext ?_ ?_
    · show w64 (X.1 + A.1 * B.1) = w64 (X.1 + 1 * w64 (A.1 * B.1)); rw [Int.one_mul, w64_add']
    · funext i
      show (if i = ν.1 then w64 (w64 (X.2 i + (A.1 * B.2 i + B.1 * A.2 i)) + c) else w64 (X.2 i + (A.1 * B.2 i + B.1 * A.2 i))) = w64 (X.2 i + 1 * (if i = ν.1 then w64 (w64 (A.1 * B.2 i + B.1 * A.2 i) + c) else w64 (A.1 * B.2 i + B.1 * A.2 i)))
      split
      · rw [Int.one_mul, w64_add, w64_add', Int.add_assoc]
        exact w3_eq
      · rw [Int.one_mul, w64_add']
set_option maxRecDepth 100000 in
set_option maxHeartbeats 4000000 in
theorem ct_X8_laysTimes {E : Ev} {M : Mm} {N : Nn} {ψ : Int → FV} {ν : Nu} {v : Int} {A DA B DB : FV} (hF : FQ M ψ ν) (v0 : 0 ≤ v) (v1 : v < 15) (hn : ν.1 + 4 ≤ 63) (h30 : ψ 30 = A) (h31 : ψ 31 = DA) (h32 : ψ 32 = B) (h33 : ψ 33 = DB) : Ct E yX8_laysTimes cX8_laysTimes 2 (none) (rmH 4) [vr (29, 0, 0), vi v] M N (qv (fun M1 N1 => ∃ ψ1, FQ M1 ψ1 (prN4 ν A B DA DB (M (29, 0, 0) 37)) ∧ ψ1 v = prV ν A B ∧ ψ1 (15 + v) = prD3 ν A B DA DB (M (29, 0, 0) 37) ∧ (∀ j, 0 ≤ j → j < 30 → j ≠ v → j ≠ 15 + v → ψ1 j = ψ j) ∧ Kr [34] [33, 35, 36] M M1 ∧ N = N1)) := by
  refine ct_of (own := RX8) (L0 := [vr (29, 0, 0), vi v]) rfl (by decide +kernel) rfl rfl ?_
  have nb := hF.2.1.2.1
  refine go_aload_n dX8_laysTimes_0 rfl rfl ?_
  refine go_iconst dX8_laysTimes_1 (R32_lit rfl) ?_
  refine go_iload_n dX8_laysTimes_2 rfl ?_
  refine go_iaddc dX8_laysTimes_3 ⟨by omega, by omega⟩ ?_
  rw [Int.zero_add]
  refine go_bipush dX8_laysTimes_4 ⟨by decide, by decide⟩ ?_
  refine go_bipush dX8_laysTimes_6 ⟨by decide, by decide⟩ ?_
  refine v8_388 dX8_laysTimes_8 rfl ⟨rfl, rfl⟩ ⟨rfl, rfl⟩ (ct_X8_multiplies hF (by omega) (by omega) (by decide) (by decide) (by decide) (by decide) (by omega)) (fun M1 N1 hq1 => ?_)
  obtain ⟨q1, f1, rfl⟩ := hq1
  rw [h30, h32] at q1
  obtain ⟨ψ1, hψ1⟩ : ∃ p, p = upF ψ v (bfo ν (fml A B) (w64 (fra A * fra B))) := ⟨_, rfl⟩
  obtain ⟨ν1, hν1⟩ : ∃ p, p = bnu ν (w64 (fra A * fra B)) (M (29, 0, 0) 37) 1 := ⟨_, rfl⟩
  rw [← hψ1, ← hν1] at q1
  have nb1 := bnu_le (ν := ν) (c := w64 (fra A * fra B)) (v := M (29, 0, 0) 37) (b := 1)
  rw [← hν1] at nb1
  have e1_30 : ψ1 30 = A := by rw [hψ1, upF_ne (by omega)]; exact h30
  have e1_31 : ψ1 31 = DA := by rw [hψ1, upF_ne (by omega)]; exact h31
  have e1_32 : ψ1 32 = B := by rw [hψ1, upF_ne (by omega)]; exact h32
  have e1_33 : ψ1 33 = DB := by rw [hψ1, upF_ne (by omega)]; exact h33
  have l1 : M1 (29, 0, 0) 37 = M (29, 0, 0) 37 := by rw [f1.s 37 (by decide)]
  refine go_aload_n dX8_laysTimes_11 rfl rfl ?_
  refine go_bipush dX8_laysTimes_12 ⟨by decide, by decide⟩ ?_
  refine go_bipush dX8_laysTimes_14 ⟨by decide, by decide⟩ ?_
  refine go_bipush dX8_laysTimes_16 ⟨by decide, by decide⟩ ?_
  refine v8_388 dX8_laysTimes_18 rfl ⟨rfl, rfl⟩ ⟨rfl, rfl⟩ (ct_X8_multiplies q1 (by omega) (by omega) (by decide) (by decide) (by decide) (by decide) (by omega)) (fun M2 N2 hq2 => ?_)
  obtain ⟨q2, f2, rfl⟩ := hq2
  rw [e1_30, e1_33, l1] at q2
  obtain ⟨ψ2, hψ2⟩ : ∃ p, p = upF ψ1 38 (bfo ν1 (fml A DB) (w64 (fra A * fra DB))) := ⟨_, rfl⟩
  obtain ⟨ν2, hν2⟩ : ∃ p, p = bnu ν1 (w64 (fra A * fra DB)) (M (29, 0, 0) 37) 1 := ⟨_, rfl⟩
  rw [← hψ2, ← hν2] at q2
  have nb2 := bnu_le (ν := ν1) (c := w64 (fra A * fra DB)) (v := M (29, 0, 0) 37) (b := 1)
  rw [← hν2] at nb2
  have e2_30 : ψ2 30 = A := by rw [hψ2, upF_ne (by omega)]; exact e1_30
  have e2_31 : ψ2 31 = DA := by rw [hψ2, upF_ne (by omega)]; exact e1_31
  have e2_32 : ψ2 32 = B := by rw [hψ2, upF_ne (by omega)]; exact e1_32
  have e2_33 : ψ2 33 = DB := by rw [hψ2, upF_ne (by omega)]; exact e1_33
  obtain ⟨X2, hX2⟩ : ∃ x, x = (bfo ν1 (fml A DB) (w64 (fra A * fra DB))) := ⟨_, rfl⟩
  have g2_2 : ψ2 38 = X2 := by rw [hψ2, upF_eq, hX2]
  have l2 : M2 (29, 0, 0) 37 = M (29, 0, 0) 37 := by rw [f2.s 37 (by decide)]; exact l1
  refine go_aload_n dX8_laysTimes_21 rfl rfl ?_
  refine go_bipush dX8_laysTimes_22 ⟨by decide, by decide⟩ ?_
  refine go_bipush dX8_laysTimes_24 ⟨by decide, by decide⟩ ?_
  refine go_bipush dX8_laysTimes_26 ⟨by decide, by decide⟩ ?_
  refine v8_388 dX8_laysTimes_28 rfl ⟨rfl, rfl⟩ ⟨rfl, rfl⟩ (ct_X8_multiplies q2 (by omega) (by omega) (by decide) (by decide) (by decide) (by decide) (by omega)) (fun M3 N3 hq3 => ?_)
  obtain ⟨q3, f3, rfl⟩ := hq3
  rw [e2_31, e2_32, l2] at q3
  obtain ⟨ψ3, hψ3⟩ : ∃ p, p = upF ψ2 39 (bfo ν2 (fml DA B) (w64 (fra DA * fra B))) := ⟨_, rfl⟩
  obtain ⟨ν3, hν3⟩ : ∃ p, p = bnu ν2 (w64 (fra DA * fra B)) (M (29, 0, 0) 37) 1 := ⟨_, rfl⟩
  rw [← hψ3, ← hν3] at q3
  have nb3 := bnu_le (ν := ν2) (c := w64 (fra DA * fra B)) (v := M (29, 0, 0) 37) (b := 1)
  rw [← hν3] at nb3
  have e3_30 : ψ3 30 = A := by rw [hψ3, upF_ne (by omega)]; exact e2_30
  have e3_31 : ψ3 31 = DA := by rw [hψ3, upF_ne (by omega)]; exact e2_31
  have e3_32 : ψ3 32 = B := by rw [hψ3, upF_ne (by omega)]; exact e2_32
  have e3_33 : ψ3 33 = DB := by rw [hψ3, upF_ne (by omega)]; exact e2_33
  have g3_2 : ψ3 38 = X2 := by rw [hψ3, upF_ne (by decide)]; exact g2_2
  obtain ⟨X3, hX3⟩ : ∃ x, x = (bfo ν2 (fml DA B) (w64 (fra DA * fra B))) := ⟨_, rfl⟩
  have g3_3 : ψ3 39 = X3 := by rw [hψ3, upF_eq, hX3]
  have l3 : M3 (29, 0, 0) 37 = M (29, 0, 0) 37 := by rw [f3.s 37 (by decide)]; exact l2
  refine go_aload_n dX8_laysTimes_31 rfl rfl ?_
  refine go_bipush dX8_laysTimes_32 ⟨by decide, by decide⟩ ?_
  refine go_bipush dX8_laysTimes_34 ⟨by decide, by decide⟩ ?_
  refine go_bipush dX8_laysTimes_36 ⟨by decide, by decide⟩ ?_
  refine v8_388 dX8_laysTimes_38 rfl ⟨rfl, rfl⟩ ⟨rfl, rfl⟩ (ct_X8_multiplies q3 (by omega) (by omega) (by decide) (by decide) (by decide) (by decide) (by omega)) (fun M4 N4 hq4 => ?_)
  obtain ⟨q4, f4, rfl⟩ := hq4
  rw [e3_31, e3_33, l3] at q4
  obtain ⟨ψ4, hψ4⟩ : ∃ p, p = upF ψ3 40 (bfo ν3 (fml DA DB) (w64 (fra DA * fra DB))) := ⟨_, rfl⟩
  obtain ⟨ν4, hν4⟩ : ∃ p, p = bnu ν3 (w64 (fra DA * fra DB)) (M (29, 0, 0) 37) 1 := ⟨_, rfl⟩
  rw [← hψ4, ← hν4] at q4
  have nb4 := bnu_le (ν := ν3) (c := w64 (fra DA * fra DB)) (v := M (29, 0, 0) 37) (b := 1)
  rw [← hν4] at nb4
  have e4_30 : ψ4 30 = A := by rw [hψ4, upF_ne (by omega)]; exact e3_30
  have e4_31 : ψ4 31 = DA := by rw [hψ4, upF_ne (by omega)]; exact e3_31
  have e4_32 : ψ4 32 = B := by rw [hψ4, upF_ne (by omega)]; exact e3_32
  have e4_33 : ψ4 33 = DB := by rw [hψ4, upF_ne (by omega)]; exact e3_33
  have g4_2 : ψ4 38 = X2 := by rw [hψ4, upF_ne (by decide)]; exact g3_2
  have g4_3 : ψ4 39 = X3 := by rw [hψ4, upF_ne (by decide)]; exact g3_3
  obtain ⟨X4, hX4⟩ : ∃ x, x = (bfo ν3 (fml DA DB) (w64 (fra DA * fra DB))) := ⟨_, rfl⟩
  have g4_4 : ψ4 40 = X4 := by rw [hψ4, upF_eq, hX4]
  have l4 : M4 (29, 0, 0) 37 = M (29, 0, 0) 37 := by rw [f4.s 37 (by decide)]; exact l3
  refine go_aload_n dX8_laysTimes_41 rfl rfl ?_
  refine go_bipush dX8_laysTimes_42 ⟨by decide, by decide⟩ ?_
  refine go_bipush dX8_laysTimes_44 ⟨by decide, by decide⟩ ?_
  refine go_bipush dX8_laysTimes_46 ⟨by decide, by decide⟩ ?_
  refine go_lconst (x := 1) dX8_laysTimes_48 rfl ?_
  refine v8_392 dX8_laysTimes_49 rfl ⟨rfl, rfl⟩ ⟨rfl, rfl⟩ (ct_X8_sums q4 (by decide) (by decide) (by decide) (by decide) (by decide) (by decide)) (fun M5 N5 hq5 => ?_)
  obtain ⟨q5, f5, rfl⟩ := hq5
  rw [g4_2, g4_3] at q5
  obtain ⟨ψ5, hψ5⟩ : ∃ p, p = upF ψ4 38 (fad X2 1 X3) := ⟨_, rfl⟩
  rw [← hψ5] at q5
  have g5_2 : ψ5 38 = fad X2 1 X3 := by rw [hψ5, upF_eq]
  have g5_4 : ψ5 40 = X4 := by rw [hψ5, upF_ne (by decide)]; exact g4_4
  refine go_aload_n dX8_laysTimes_52 rfl rfl ?_
  refine go_bipush dX8_laysTimes_53 ⟨by decide, by decide⟩ ?_
  refine go_iload_n dX8_laysTimes_55 rfl ?_
  skip
  refine go_iaddc dX8_laysTimes_56 ⟨by omega, by omega⟩ ?_
  refine go_bipush dX8_laysTimes_57 ⟨by decide, by decide⟩ ?_
  refine go_bipush dX8_laysTimes_59 ⟨by decide, by decide⟩ ?_
  refine go_lconst (x := 1) dX8_laysTimes_61 rfl ?_
  refine v8_392 dX8_laysTimes_62 rfl ⟨rfl, rfl⟩ ⟨rfl, rfl⟩ (ct_X8_sums q5 (by omega) (by omega) (by decide) (by decide) (by decide) (by decide)) (fun M6 N6 hq6 => ?_)
  refine go_retv dX8_laysTimes_65 ?_
  obtain ⟨q6, f6, rfl⟩ := hq6
  rw [g5_2, g5_4] at q6
  refine ⟨upF ψ5 (15 + v) (fad (fad X2 1 X3) 1 X4), ?_, ?_, ?_, ?_, ?_, rfl⟩
  · unfold prN4 prN3 prN2 prN1
    rw [← hν1, ← hν2, ← hν3, ← hν4]
    exact q6
  · rw [upF_ne (by omega), hψ5, upF_ne (by omega), hψ4, upF_ne (by omega), hψ3, upF_ne (by omega), hψ2, upF_ne (by omega), hψ1, upF_eq]
    unfold prV
    rw [fma_0]
  · rw [upF_eq]
    unfold prD3 prD2 prD1 prN3 prN2 prN1
    rw [← hν1, ← hν2, ← hν3, bfo_fma, bfo_fma, fma_0, hX2, hX3, hX4]
  · intro j j0 j1 j2 j3
    rw [upF_ne j3, hψ5, upF_ne (by omega), hψ4, upF_ne (by omega), hψ3, upF_ne (by omega), hψ2, upF_ne (by omega), hψ1, upF_ne j2]
  · exact ((((f1.tr f2).tr f3).tr f4).tr (f5.up (by decide) (by decide))).tr (f6.up (by decide) (by decide))
