set_option maxRecDepth 100000 in
set_option maxHeartbeats 4000000 in
theorem lp_X8_begins {E : Ev} {M : Mm} {N : Nn} {S : Pg} {W : Int → Bool} {v : Int} (hQ : QR S M) (hW : WF S) (hB : ∀ v, 0 ≤ v → v < S 11 0 → W v = true) (hNE : ∀ v : Nat, (v : Int) < S 11 0 → NEq S (sK S W v).1 v) (v0 : 0 ≤ v) (v1 : v < S 11 0) : ∀ (n : Nat) (k : Int) (M2 : Mm), (k + n = S 11 0) → (0 ≤ k) → (∀ j, 0 ≤ j → j < k → M2 (30, 0, 38) j = M (30, 0, 9) j ∧ M2 (30, 0, 39) j = M (30, 0, 10) j) → (M2 (29, 0, 0) 47 = 0) → (Kr [47] [38, 39] M M2) → Go E RX8 cX8_begins 3 (none) (rmH 9) 0 0 (zM E (qv (fun M1 N1 => M1 (29, 0, 0) 47 = 1 ∧ (∀ j, 0 ≤ j → j < S 11 0 → M1 (30, 0, 43) j = M (30, 0, 9) j ∧ M1 (30, 0, 44) j = M (30, 0, 10) j) ∧ M1 (30, 0, 45) 0 = bdR ((sK S W (S 11 0).toNat).1 (15 + v.toNat)) ∧ M1 (30, 0, 46) 0 = 0 ∧ Kr [34, 37, 42, 47] [28, 29, 33, 35, 36, 38, 39, 40, 41, 43, 44, 45, 46] M M1 ∧ N = N1))) 7 [vr (29, 0, 0), vi v, vi k] [] M2 N := by
  intro n
  induction n using Nat.strongRecOn with
  | ind n ih =>
  intro k M2 hn k0 hA h47 hf
  have c6 := hQ.1
  have c5 := hQ.2.2.1
  have c0 := hQ.2.1
  refine go_iload_n dX8_begins_7 rfl ?_
  refine go_aload_n dX8_begins_8 rfl rfl ?_
  refine g8_259 dX8_begins_9 ?_
  rw [hf.s 6 (by decide), c6]
  refine go_icmp_ge (tgt := 45) dX8_begins_12 rfl (fun h12 => ?_) (fun h12 => ?_)
  · refine go_aload_n dX8_begins_45 rfl rfl ?_
    refine go_iload_n dX8_begins_46 rfl ?_
    have hl : ∀ v, 0 ≤ v → v < S 11 0 → S 0 v = -2 → M2 (30, 0, 38) v = S 2 v ∧ M2 (30, 0, 39) v = S 3 v ∧ -1000 ≤ S 2 v ∧ S 2 v ≤ S 3 v ∧ S 3 v ≤ 1000 := by
      intro u u0 u1 q
      have a := (hQ.2.2.2.2 u u0 u1).2.2.1 q
      rw [Int.zero_add] at a
      have e := hA u u0 (by omega)
      have w := (hW.2.2.2.2.2.2.1 u u0 u1).1.1 q
      exact ⟨e.1.trans a.1, e.2.trans a.2, w.1, w.2.1, w.2.2⟩
    refine v8_448 dX8_begins_47 rfl ⟨rfl, rfl⟩ ⟨rfl, rfl⟩ (ct_X8_makes (X := S) (hQ.k hf (by decide) (by decide) (by decide) (by decide) (by decide) (by decide) (by decide) (by decide)) hW (fun _ _ _ => rfl) hl hB hNE v0 v1 (by omega) (by omega)) (fun M3 N3 hq1 => ?_)
    obtain ⟨y1, y2, y3, y4, y5, y6, rfl⟩ := hq1
    rw [h47] at y1 y2 y4 y5
    refine go_retv dX8_begins_50 ?_
    refine ⟨y1, fun j j0 j1 => ?_, ?_, ?_, (hf.up (by decide) (by decide)).tr (y6.up (by decide) (by decide)), rfl⟩
    · have a := y2 j j0 j1
      rw [Int.mul_zero, Int.zero_add] at a
      have e := hA j j0 (by omega)
      exact ⟨a.1.trans e.1, a.2.trans e.2⟩
    · rw [y4, upI_eq]
    · rw [y5, upI_eq]
  · refine go_aload_n dX8_begins_15 rfl rfl ?_
    refine g8_74 dX8_begins_16 ?_
    refine go_iload_n dX8_begins_19 rfl ?_
    refine go_aload_n dX8_begins_20 rfl rfl ?_
    refine g8_25 dX8_begins_21 ?_
    refine go_iload_n dX8_begins_24 rfl ?_
    refine go_iald dX8_begins_25 rfl (by omega) (by omega) ?_
    rw [hf.a 9 (by decide)]
    refine go_iast dX8_begins_26 rfl (by omega) (by omega) ?_
    refine go_aload_n dX8_begins_27 rfl rfl ?_
    refine g8_77 dX8_begins_28 ?_
    refine go_iload_n dX8_begins_31 rfl ?_
    refine go_aload_n dX8_begins_32 rfl rfl ?_
    refine g8_28 dX8_begins_33 ?_
    refine go_iload_n dX8_begins_36 rfl ?_
    refine go_iald dX8_begins_37 rfl (by omega) (by omega) ?_
    rw [(hf.wa (f := 38) (by decide)).a 10 (by decide)]
    refine go_iast dX8_begins_38 rfl (by omega) (by omega) ?_
    refine go_iinc2c dX8_begins_39 rfl rfl ⟨by omega, by omega⟩ ?_
    refine go_goto (tgt := 7) dX8_begins_42 rfl ?_
    refine ih (n - 1) (by omega) (k + 1) _ (by omega) (by omega) ?_ (by rw [wr_nf (nm_ne1 (by decide)), wr_nf (nm_ne1 (by decide))]; exact h47) ((hf.wa (by decide)).wa (by decide))
    intro j j0 j1
    have e := hA j j0
    by_cases z : j = k
    · rw [z]
      exact ⟨by rw [wr_nn (nm_ne3 (by decide)), wr_eq], by rw [wr_eq]⟩
    · exact ⟨by rw [wr_nn (nm_ne3 (by decide)), wr_nk z]; exact (e (by omega)).1, by rw [wr_nk z, wr_nn (nm_ne3 (by decide))]; exact (e (by omega)).2⟩
set_option maxRecDepth 100000 in
set_option maxHeartbeats 4000000 in
theorem ct_X8_begins {E : Ev} {M : Mm} {N : Nn} {S : Pg} {W : Int → Bool} {v : Int} (hQ : QR S M) (hW : WF S) (hB : ∀ v, 0 ≤ v → v < S 11 0 → W v = true) (hNE : ∀ v : Nat, (v : Int) < S 11 0 → NEq S (sK S W v).1 v) (v0 : 0 ≤ v) (v1 : v < S 11 0) : Ct E yX8_begins cX8_begins 3 (none) (rmH 9) [vr (29, 0, 0), vi v] M N (qv (fun M1 N1 => M1 (29, 0, 0) 47 = 1 ∧ (∀ j, 0 ≤ j → j < S 11 0 → M1 (30, 0, 43) j = M (30, 0, 9) j ∧ M1 (30, 0, 44) j = M (30, 0, 10) j) ∧ M1 (30, 0, 45) 0 = bdR ((sK S W (S 11 0).toNat).1 (15 + v.toNat)) ∧ M1 (30, 0, 46) 0 = 0 ∧ Kr [34, 37, 42, 47] [28, 29, 33, 35, 36, 38, 39, 40, 41, 43, 44, 45, 46] M M1 ∧ N = N1)) := by
  refine ct_of (own := RX8) (L0 := [vr (29, 0, 0), vi v, vn]) rfl (by decide +kernel) rfl rfl ?_
  refine go_aload_n dX8_begins_0 rfl rfl ?_
  refine go_iconst dX8_begins_1 (R32_lit rfl) ?_
  refine p8_445 dX8_begins_2 ?_
  refine go_iconst dX8_begins_5 (R32_lit rfl) ?_
  refine go_ist2 dX8_begins_6 rfl rfl ?_
  have c0 := hQ.2.1
  exact lp_X8_begins hQ hW hB hNE v0 v1 (S 11 0).toNat 0 _ (by omega) (by omega) (fun j j0 j1 => absurd j1 (by omega)) (wr_eq _ _ _ _) (Kr.ws Kr.rf (by decide))
