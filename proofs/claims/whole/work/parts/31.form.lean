set_option maxRecDepth 100000 in
set_option maxHeartbeats 4000000 in
theorem cr_radius {E : Ev} {M : Mm} {N : Nn} {f j : Nat} {a : FV} (hI : FI M f j a) : Ct E yX0_radius cX0_radius 4 (some .long) (rmH 1) [vr (15, f, j)] M N (ql (fun r M1 N1 => r = fra a ∧ M = M1 ∧ N = N1)) := by
  have h := ct_X0_radius (E := E) (N := N) hI.2.1 hI.2.2.1
  rw [hI.rad] at h
  exact h
set_option maxRecDepth 100000 in
set_option maxHeartbeats 4000000 in
theorem ct_X0_least {E : Ev} {M : Mm} {N : Nn} {f j : Nat} {a : FV} (hI : FI M f j a) : Ct E yX0_least cX0_least 1 ((some .long)) (rmH 2) [vr (15, f, j)] M N (ql (fun r M1 N1 => r = flo a ∧ M = M1 ∧ N = N1)) := by
  refine ct_of (own := RX0) (L0 := [vr (15, f, j)]) rfl (by decide +kernel) rfl rfl ?_
  refine go_aload_n dX0_least_0 rfl rfl ?_
  refine g0_19 dX0_least_1 ?_
  refine go_aload_n dX0_least_4 rfl rfl ?_
  refine v0_27 dX0_least_5 rfl ⟨rfl, rfl⟩ ⟨rfl, rfl⟩ (cr_radius hI) (fun r1 M1 N1 hr1 hq1 => ?_)
  obtain ⟨rfl, rfl, rfl⟩ := hq1
  refine go_lsub dX0_least_8 ?_
  exact go_retl dX0_least_9 ⟨by rw [hI.1]; rfl, rfl, rfl⟩
set_option maxRecDepth 100000 in
set_option maxHeartbeats 4000000 in
theorem ct_X0_greatest {E : Ev} {M : Mm} {N : Nn} {f j : Nat} {a : FV} (hI : FI M f j a) : Ct E yX0_greatest cX0_greatest 1 ((some .long)) (rmH 2) [vr (15, f, j)] M N (ql (fun r M1 N1 => r = fhi a ∧ M = M1 ∧ N = N1)) := by
  refine ct_of (own := RX0) (L0 := [vr (15, f, j)]) rfl (by decide +kernel) rfl rfl ?_
  refine go_aload_n dX0_greatest_0 rfl rfl ?_
  refine g0_19 dX0_greatest_1 ?_
  refine go_aload_n dX0_greatest_4 rfl rfl ?_
  refine v0_27 dX0_greatest_5 rfl ⟨rfl, rfl⟩ ⟨rfl, rfl⟩ (cr_radius hI) (fun r1 M1 N1 hr1 hq1 => ?_)
  obtain ⟨rfl, rfl, rfl⟩ := hq1
  refine go_ladd dX0_greatest_8 ?_
  exact go_retl dX0_greatest_9 ⟨by rw [hI.1]; rfl, rfl, rfl⟩
set_option maxRecDepth 100000 in
set_option maxHeartbeats 4000000 in
theorem lp_X0_become {E : Ev} {M : Mm} {N : Nn} {f j : Nat} {a : FV} {x : Int} (hI : FI M f j a) : ∀ (n : Nat) (i : Int) (M' : Mm), (i + n = M (15, f, j) 2) → (0 ≤ i) → (Fo f j M M') → (M' (15, f, j) = M (15, f, j)) → (∀ k, 0 ≤ k → k < i → M' (16, f, j) k = 0) → (∀ k, i ≤ k → M' (16, f, j) k = M (16, f, j) k) → Go E RX0 cX0_become 4 (none) (rmH 1) 0 0 (zM E (qv (fun M1 N1 => FI M1 f j (fnum x) ∧ Fo f j M M1 ∧ N = N1))) 2 [vr (15, f, j), vl x, vn, vi i] [] M' N := by
  intro n
  induction n using Nat.strongRecOn with
  | ind n ih =>
  intro i M' hn h0 hF h2 h3 h4
  refine go_iload_n dX0_become_2 rfl ?_
  refine go_aload_n dX0_become_3 rfl rfl ?_
  refine g0_15 dX0_become_4 ?_
  rw [show M' (15, f, j) 2 = M (15, f, j) 2 from congrFun h2 2]
  refine go_icmp_ge (tgt := 23) dX0_become_7 rfl (fun h7 => ?_) (fun h7 => ?_)
  · refine go_aload_n dX0_become_23 rfl rfl ?_
    refine go_iconst dX0_become_24 (R32_lit rfl) ?_
    refine p0_15 dX0_become_25 ?_
    refine go_aload_n dX0_become_28 rfl rfl ?_
    refine go_lload_n dX0_become_29 rfl ?_
    refine p0_19 dX0_become_30 ?_
    refine go_retv dX0_become_33 ?_
    have hu : M' (15, f, j) 2 = M (15, f, j) 2 := congrFun h2 2
    refine ⟨⟨wr_eq _ _ _ _, ?_, ?_, fun k k0 k1 => ?_, fun k _ => rfl, fun k _ => rfl⟩, hF.wr15.wr15, rfl⟩
    · rw [wr_nk (by decide), wr_eq]; exact Int.le_refl 0
    · rw [wr_nk (by decide), wr_eq]; decide
    · rw [wr_nn (nm_ne1 (by decide)), wr_nn (nm_ne1 (by decide))]
      by_cases e : k < i
      · exact h3 k k0 e
      · rw [h4 k (by omega), hI.2.2.2.1 k k0 k1]
        exact hI.2.2.2.2.1 k (by omega)
  · have hu := hI.2.2.1
    refine go_aload_n dX0_become_10 rfl rfl ?_
    refine g0_9 dX0_become_11 ?_
    refine go_iload_n dX0_become_14 rfl ?_
    refine go_lconst (x := 0) dX0_become_15 rfl ?_
    refine go_last dX0_become_16 rfl (by omega) (by omega) ?_
    refine go_iinc3c dX0_become_17 rfl rfl ⟨by omega, by omega⟩ ?_
    refine go_goto (tgt := 2) dX0_become_20 rfl ?_
    exact ih (n - 1) (by omega) (i + 1) _ (by omega) (by omega) hF.wr16 (by funext k; rw [wr_nn (nm_ne1 (by decide))]; exact congrFun h2 k) (by
      intro k k0 k1
      by_cases e : k = i
      · rw [e, wr_eq]
      · rw [wr_nk e]; exact h3 k k0 (by omega)) (by
      intro k k0
      rw [wr_nk (by omega)]
      exact h4 k (by omega))
set_option maxRecDepth 100000 in
set_option maxHeartbeats 4000000 in
theorem ct_X0_become {E : Ev} {M : Mm} {N : Nn} {f j : Nat} {a : FV} {x : Int} (hI : FI M f j a) : Ct E yX0_become cX0_become 4 (none) (rmH 1) [vr (15, f, j), vl x] M N (qv (fun M1 N1 => FI M1 f j (fnum x) ∧ Fo f j M M1 ∧ N = N1)) := by
  refine ct_of (own := RX0) (L0 := [vr (15, f, j), vl x, vn, vn]) rfl (by decide +kernel) rfl rfl ?_
  refine go_iconst dX0_become_0 (R32_lit rfl) ?_
  refine go_ist3 dX0_become_1 rfl rfl ?_
  exact lp_X0_become hI (M (15, f, j) 2).toNat 0 M (by have := hI.2.1; omega) (by omega) Fo.rf rfl (fun k a b => absurd b (by omega)) (fun k _ => rfl)
