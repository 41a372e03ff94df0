theorem w64_0 : w64 0 = 0 := rfl
theorem Rg.num {M : Mm} {N : Nn} (h : Rg M N) (f j : Nat) {k : Int} (h0 : 0 ≤ k) : R64 (M (16, f, j) k) := by
  have h1 := (h (16, f, j) k.toNat).2.1 rfl
  rw [Int.toNat_of_nonneg h0] at h1
  exact h1
theorem Rg.mid {M : Mm} {N : Nn} (h : Rg M N) (f j : Nat) : R64 (M (15, f, j) 1) := (h (15, f, j) 1).2.1 rfl
set_option maxRecDepth 100000 in
set_option maxHeartbeats 4000000 in
theorem lp_X0_addNumbers {E : Ev} {M : Mm} {N : Nn} {f j j2 : Nat} {a b : FV} {t : Int} (hI : FI M f j a) (hI2 : FI M f j2 b) (hj : j2 ≠ j) : ∀ (n : Nat) (i : Int) (M' : Mm), (i + n = M (15, f, j2) 2) → (0 ≤ i) → (Fo f j M M') → (M' (15, f, j) = M (15, f, j)) → (∀ k, 0 ≤ k → k < i → M' (16, f, j) k = w64 (a.2 k + t * b.2 k)) → (∀ k, i ≤ k → M' (16, f, j) k = M (16, f, j) k) → Go E RX0 cX0_addNumbers 5 (none) (rmH 1) 0 0 (zM E (qv (fun M1 N1 => FI M1 f j (fan a t b) ∧ Fo f j M M1 ∧ N = N1))) 3 [vr (15, f, j), vr (15, f, j2), vl t, vn, vi i] [] M' N := by
  intro n
  induction n using Nat.strongRecOn with
  | ind n ih =>
  intro i M' hn h0 hF h2 h3 h4
  have hu2 : M' (15, f, j2) 2 = M (15, f, j2) 2 := by rw [hF (15, f, j2) (nm_ne3 hj) (nm_ne1 (by decide))]
  have hm1 : M' (15, f, j) 1 = M (15, f, j) 1 := congrFun h2 1
  have hm2 : M' (15, f, j) 2 = M (15, f, j) 2 := congrFun h2 2
  have hb0 := hI2.2.1
  have hb1 := hI2.2.2.1
  refine go_iload dX0_addNumbers_3 rfl ?_
  refine go_aload_n dX0_addNumbers_5 rfl rfl ?_
  refine g0_15 dX0_addNumbers_6 ?_
  refine go_icmp_ge (tgt := 37) dX0_addNumbers_9 rfl (fun h9 => ?_) (fun h9 => ?_)
  · refine go_rg (fun hRg _ _ => ?_)
    refine go_aload_n dX0_addNumbers_37 rfl rfl ?_
    refine go_aload_n dX0_addNumbers_38 rfl rfl ?_
    refine g0_15 dX0_addNumbers_39 ?_
    refine go_aload_n dX0_addNumbers_42 rfl rfl ?_
    refine g0_15 dX0_addNumbers_43 ?_
    refine go_icmp_lt (tgt := 56) dX0_addNumbers_46 rfl (fun h46 => ?_) (fun h46 => ?_)
    · refine go_aload_n dX0_addNumbers_56 rfl rfl ?_
      refine g0_15 dX0_addNumbers_57 ?_
      refine p0_15 dX0_addNumbers_60 ?_
      refine go_retv dX0_addNumbers_63 ?_
      have hu0 := hI.2.1
      have hu1 := hI.2.2.1
      have hz : ∀ k : Int, M (15, f, j2) 2 ≤ k → b.2 k = 0 := hI2.2.2.2.2.1
      have hza : ∀ k : Int, M (15, f, j) 2 ≤ k → a.2 k = 0 := hI.2.2.2.2.1
      refine ⟨⟨?_, ?_, ?_, fun k k0 k1 => ?_, fun k hk => ?_, fun k hk => ?_⟩, hF.wr15, rfl⟩
      · rw [wr_nk (by decide)]; rw [hm1]; exact hI.1
      · rw [wr_eq]; omega
      · rw [wr_eq]; omega
      · rw [wr_nn (nm_ne1 (by decide))]
        by_cases e : k < i
        · exact h3 k k0 e
        · have hr := hRg.num f j k0
          rw [h4 k (by omega), hI.2.2.2.1 k k0 k1] at hr ⊢
          show _ = w64 (a.2 k + t * b.2 k)
          rw [hz k (by omega), Int.mul_zero, Int.add_zero, w64_id hr]
      · rw [wr_eq] at hk
        show w64 (a.2 k + t * b.2 k) = 0
        rw [hz k (by omega), hza k (by omega), Int.mul_zero]; rfl
      · show w64 (a.2 k + t * b.2 k) = 0
        rw [hI.2.2.2.2.2 k hk, hI2.2.2.2.2.2 k hk, Int.mul_zero]; rfl
    · refine go_aload_n dX0_addNumbers_49 rfl rfl ?_
      refine g0_15 dX0_addNumbers_50 ?_
      refine go_goto (tgt := 60) dX0_addNumbers_53 rfl ?_
      refine p0_15 dX0_addNumbers_60 ?_
      refine go_retv dX0_addNumbers_63 ?_
      have hu0 := hI.2.1
      have hu1 := hI.2.2.1
      have hz : ∀ k : Int, M (15, f, j2) 2 ≤ k → b.2 k = 0 := hI2.2.2.2.2.1
      have hza : ∀ k : Int, M (15, f, j) 2 ≤ k → a.2 k = 0 := hI.2.2.2.2.1
      refine ⟨⟨?_, ?_, ?_, fun k k0 k1 => ?_, fun k hk => ?_, fun k hk => ?_⟩, hF.wr15, rfl⟩
      · rw [wr_nk (by decide)]; rw [hm1]; exact hI.1
      · rw [wr_eq]; omega
      · rw [wr_eq]; omega
      · rw [wr_nn (nm_ne1 (by decide))]
        by_cases e : k < i
        · exact h3 k k0 e
        · have hr := hRg.num f j k0
          rw [h4 k (by omega), hI.2.2.2.1 k k0 k1] at hr ⊢
          show _ = w64 (a.2 k + t * b.2 k)
          rw [hz k (by omega), Int.mul_zero, Int.add_zero, w64_id hr]
      · rw [wr_eq] at hk
        show w64 (a.2 k + t * b.2 k) = 0
        rw [hz k (by omega), hza k (by omega), Int.mul_zero]; rfl
      · show w64 (a.2 k + t * b.2 k) = 0
        rw [hI.2.2.2.2.2 k hk, hI2.2.2.2.2.2 k hk, Int.mul_zero]; rfl
  · refine go_aload_n dX0_addNumbers_12 rfl rfl ?_
    refine g0_9 dX0_addNumbers_13 ?_
    refine go_iload dX0_addNumbers_16 rfl ?_
    refine go_dup2_ir dX0_addNumbers_18 ?_
    refine go_lald dX0_addNumbers_19 rfl (by omega) (by omega) ?_
    refine go_lload_n dX0_addNumbers_20 rfl ?_
    refine go_aload_n dX0_addNumbers_21 rfl rfl ?_
    refine g0_9 dX0_addNumbers_22 ?_
    refine go_iload dX0_addNumbers_25 rfl ?_
    refine go_lald dX0_addNumbers_27 rfl (by omega) (by omega) ?_
    refine go_lmul dX0_addNumbers_28 ?_
    refine go_ladd dX0_addNumbers_29 ?_
    refine go_last dX0_addNumbers_30 rfl (by omega) (by omega) ?_
    refine go_iinc4c dX0_addNumbers_31 rfl rfl ⟨by omega, by omega⟩ ?_
    refine go_goto (tgt := 3) dX0_addNumbers_34 rfl ?_
    exact ih (n - 1) (by omega) (i + 1) _ (by omega) (by omega) hF.wr16 (by funext k; rw [wr_nn (nm_ne1 (by decide))]; exact congrFun h2 k) (by
      intro k k0 k1
      by_cases e : k = i
      · rw [e, wr_eq, hF (16, f, j2) (nm_ne1 (by decide)) (nm_ne3 hj), h4 i (by omega), w64_add', hI.2.2.2.1 i (by omega) (by omega), hI2.2.2.2.1 i (by omega) (by omega)]
      · rw [wr_nk e]; exact h3 k k0 (by omega)) (by
      intro k k0
      rw [wr_nk (by omega)]
      exact h4 k (by omega))
set_option maxRecDepth 100000 in
set_option maxHeartbeats 4000000 in
theorem ct_X0_addNumbers {E : Ev} {M : Mm} {N : Nn} {f j j2 : Nat} {a b : FV} {t : Int} (hI : FI M f j a) (hI2 : FI M f j2 b) (hj : j2 ≠ j) : Ct E yX0_addNumbers cX0_addNumbers 5 (none) (rmH 1) [vr (15, f, j), vr (15, f, j2), vl t] M N (qv (fun M1 N1 => FI M1 f j (fan a t b) ∧ Fo f j M M1 ∧ N = N1)) := by
  refine ct_of (own := RX0) (L0 := [vr (15, f, j), vr (15, f, j2), vl t, vn, vn]) rfl (by decide +kernel) rfl rfl ?_
  refine go_iconst dX0_addNumbers_0 (R32_lit rfl) ?_
  refine go_ist4 dX0_addNumbers_1 rfl rfl ?_
  exact lp_X0_addNumbers hI hI2 hj (M (15, f, j2) 2).toNat 0 M (by have := hI2.2.1; omega) (by omega) Fo.rf rfl (fun k a b => absurd b (by omega)) (fun k _ => rfl)
theorem fan_fad {a b : FV} {t : Int} : fan (w64 (a.1 + w64 (t * b.1)), a.2) t b = fad a t b := by
  unfold fan fad
  rw [w64_add']
theorem FI.mid {M : Mm} {f j : Nat} {a : FV} {x : Int} (h : FI M f j a) : FI (wr M (15, f, j) 1 x) f j (x, a.2) := by
  obtain ⟨-, h1, h2, h3, h4, h5⟩ := h
  refine ⟨wr_eq _ _ _ _, ?_, ?_, fun i a b => ?_, fun i hi => ?_, h5⟩
  · rw [wr_nk (by decide)]; exact h1
  · rw [wr_nk (by decide)]; exact h2
  · rw [wr_nn (nm_ne1 (by decide))]; exact h3 i a b
  · rw [wr_nk (by decide)] at hi; exact h4 i hi
set_option maxRecDepth 100000 in
set_option maxHeartbeats 4000000 in
theorem ct_X0_add {E : Ev} {M : Mm} {N : Nn} {f j j2 : Nat} {a b : FV} {t : Int} (hI : FI M f j a) (hI2 : FI M f j2 b) (hj : j2 ≠ j) : Ct E yX0_add cX0_add 4 (none) (rmH 2) [vr (15, f, j), vr (15, f, j2), vl t] M N (qv (fun M1 N1 => FI M1 f j (fad a t b) ∧ Fo f j M M1 ∧ N = N1)) := by
  refine ct_of (own := RX0) (L0 := [vr (15, f, j), vr (15, f, j2), vl t, vn]) rfl (by decide +kernel) rfl rfl ?_
  refine go_aload_n dX0_add_0 rfl rfl ?_
  first | refine go_dup_r dX0_add_1 ?_ | refine go_dup_i dX0_add_1 ?_
  refine g0_19 dX0_add_2 ?_
  refine go_lload_n dX0_add_5 rfl ?_
  refine go_aload_n dX0_add_6 rfl rfl ?_
  refine g0_19 dX0_add_7 ?_
  refine go_lmul dX0_add_10 ?_
  refine go_ladd dX0_add_11 ?_
  refine p0_19 dX0_add_12 ?_
  refine go_aload_n dX0_add_15 rfl rfl ?_
  refine go_aload_n dX0_add_16 rfl rfl ?_
  refine go_lload_n dX0_add_17 rfl ?_
  refine v0_23 dX0_add_18 rfl ⟨rfl, rfl⟩ ⟨rfl, rfl⟩ (ct_X0_addNumbers (hI.mid (x := w64 (M (15, f, j) 1 + w64 (t * M (15, f, j2) 1)))) (Fo.rf.wr15.other hj hI2) hj) (fun M1 N1 hq1 => ?_)
  refine go_retv dX0_add_21 ?_
  obtain ⟨hq, hq2, hq3⟩ := hq1
  rw [hI.1, hI2.1, fan_fad] at hq
  exact ⟨hq, Fo.rf.wr15.tr hq2, hq3⟩
set_option maxRecDepth 100000 in
set_option maxHeartbeats 4000000 in
theorem ct_X0_addNoise {E : Ev} {M : Mm} {N : Nn} {f j : Nat} {a : FV} {k c : Int} (hI : FI M f j a) (hk0 : 0 ≤ k) (hk1 : k < 63) : Ct E yX0_addNoise cX0_addNoise 4 (none) (rmH 1) [vr (15, f, j), vi k, vl c] M N (qv (fun M1 N1 => FI M1 f j (fno a k c) ∧ Fo f j M M1 ∧ N = N1)) := by
  refine ct_of (own := RX0) (L0 := [vr (15, f, j), vi k, vl c, vn]) rfl (by decide +kernel) rfl rfl ?_
  refine go_iload_n dX0_addNoise_0 rfl ?_
  refine go_if_lt (tgt := 10) dX0_addNoise_1 rfl (fun h1 => ?_) (fun h1 => ?_)
  · first | exact absurd h1 (by omega) | exact absurd h7 (by omega)
  · refine go_iload_n dX0_addNoise_4 rfl ?_
    refine go_bipush dX0_addNoise_5 ⟨by decide, by decide⟩ ?_
    refine go_icmp_lt (tgt := 11) dX0_addNoise_7 rfl (fun h7 => ?_) (fun h7 => ?_)
    · refine go_aload_n dX0_addNoise_11 rfl rfl ?_
      refine g0_9 dX0_addNoise_12 ?_
      refine go_iload_n dX0_addNoise_15 rfl ?_
      refine go_dup2_ir dX0_addNoise_16 ?_
      refine go_lald dX0_addNoise_17 rfl (by omega) (by omega) ?_
      refine go_lload_n dX0_addNoise_18 rfl ?_
      refine go_ladd dX0_addNoise_19 ?_
      refine go_last dX0_addNoise_20 rfl (by omega) (by omega) ?_
      refine go_aload_n dX0_addNoise_21 rfl rfl ?_
      refine go_aload_n dX0_addNoise_22 rfl rfl ?_
      refine g0_15 dX0_addNoise_23 ?_
      refine go_iload_n dX0_addNoise_26 rfl ?_
      refine go_icmp_le (tgt := 37) dX0_addNoise_27 rfl (fun h27 => ?_) (fun h27 => ?_)
      · refine go_iload_n dX0_addNoise_37 rfl ?_
        refine go_iconst dX0_addNoise_38 (R32_lit rfl) ?_
        refine go_iaddc dX0_addNoise_39 ⟨by omega, by omega⟩ ?_
        refine p0_15 dX0_addNoise_40 ?_
        refine go_retv dX0_addNoise_43 ?_
        have hza : ∀ i : Int, M (15, f, j) 2 ≤ i → a.2 i = 0 := hI.2.2.2.2.1
        have hu0 := hI.2.1
        have hu1 := hI.2.2.1
        have hw : wr M (16, f, j) k (w64 (M (16, f, j) k + c)) (15, f, j) = M (15, f, j) := by
          funext i
          rw [wr_nn (nm_ne1 (by decide))]
        rw [hw] at h27
        try rw [hw]
        refine ⟨⟨?_, ?_, ?_, fun i k0 k1 => ?_, fun i hi => ?_, fun i hi => ?_⟩, Fo.rf.wr16.wr15, rfl⟩
        · rw [wr_nk (by decide), hw]; exact hI.1
        · rw [wr_eq]; omega
        · rw [wr_eq]; omega
        · rw [wr_nn (nm_ne1 (by decide))]
          show _ = if i = k then w64 (a.2 i + c) else a.2 i
          by_cases e : i = k
          · rw [if_pos e, e, wr_eq, hI.2.2.2.1 k hk0 hk1]
          · rw [if_neg e, wr_nk e]; exact hI.2.2.2.1 i k0 k1
        · rw [wr_eq] at hi
          show (if i = k then w64 (a.2 i + c) else a.2 i) = 0
          rw [if_neg (by omega)]; exact hza i (by omega)
        · show (if i = k then w64 (a.2 i + c) else a.2 i) = 0
          rw [if_neg (by omega)]; exact hI.2.2.2.2.2 i hi
      · refine go_aload_n dX0_addNoise_30 rfl rfl ?_
        refine g0_15 dX0_addNoise_31 ?_
        refine go_goto (tgt := 40) dX0_addNoise_34 rfl ?_
        refine p0_15 dX0_addNoise_40 ?_
        refine go_retv dX0_addNoise_43 ?_
        have hza : ∀ i : Int, M (15, f, j) 2 ≤ i → a.2 i = 0 := hI.2.2.2.2.1
        have hu0 := hI.2.1
        have hu1 := hI.2.2.1
        have hw : wr M (16, f, j) k (w64 (M (16, f, j) k + c)) (15, f, j) = M (15, f, j) := by
          funext i
          rw [wr_nn (nm_ne1 (by decide))]
        rw [hw] at h27
        try rw [hw]
        refine ⟨⟨?_, ?_, ?_, fun i k0 k1 => ?_, fun i hi => ?_, fun i hi => ?_⟩, Fo.rf.wr16.wr15, rfl⟩
        · rw [wr_nk (by decide), hw]; exact hI.1
        · rw [wr_eq]; omega
        · rw [wr_eq]; omega
        · rw [wr_nn (nm_ne1 (by decide))]
          show _ = if i = k then w64 (a.2 i + c) else a.2 i
          by_cases e : i = k
          · rw [if_pos e, e, wr_eq, hI.2.2.2.1 k hk0 hk1]
          · rw [if_neg e, wr_nk e]; exact hI.2.2.2.1 i k0 k1
        · rw [wr_eq] at hi
          show (if i = k then w64 (a.2 i + c) else a.2 i) = 0
          rw [if_neg (by omega)]; exact hza i (by omega)
        · show (if i = k then w64 (a.2 i + c) else a.2 i) = 0
          rw [if_neg (by omega)]; exact hI.2.2.2.2.2 i hi
    · first | exact absurd h1 (by omega) | exact absurd h7 (by omega)
