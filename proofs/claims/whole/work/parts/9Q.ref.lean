set_option maxRecDepth 100000 in
set_option maxHeartbeats 4000000 in
theorem lp_X8_makes {E : Ev} {M : Mm} {N : Nn} {S X : Pg} {W : Int → Bool} {v : Int} (hQ : QR S M) (hW : WF S) (hX : XS S X) (hl : ∀ v, 0 ≤ v → v < S 11 0 → S 0 v = -2 → M (30, 0, 38) v = X 2 v ∧ M (30, 0, 39) v = X 3 v ∧ -1000 ≤ X 2 v ∧ X 2 v ≤ X 3 v ∧ X 3 v ≤ 1000) (hB : ∀ v, 0 ≤ v → v < S 11 0 → W v = true) (hNE : ∀ v : Nat, (v : Int) < S 11 0 → NEq S (sK X W v).1 v) (v0 : 0 ≤ v) (v1 : v < S 11 0) (m0 : 0 ≤ M (29, 0, 0) 47) (m1 : M (29, 0, 0) 47 ≤ 90) : ∀ (n : Nat) (k : Int) (M2 : Mm), (k + n = S 11 0) → (0 ≤ k) → (∀ j, 0 ≤ j → j < k → M2 (30, 0, 43) (15 * M (29, 0, 0) 47 + j) = M (30, 0, 38) j ∧ M2 (30, 0, 44) (15 * M (29, 0, 0) 47 + j) = M (30, 0, 39) j) → (∀ j, (j < 15 * M (29, 0, 0) 47 ∨ 15 * M (29, 0, 0) 47 + 15 ≤ j) → M2 (30, 0, 43) j = M (30, 0, 43) j ∧ M2 (30, 0, 44) j = M (30, 0, 44) j) → (Kr [] [43, 44] M M2) → Go E RX8 cX8_makes 3 (none) (rmH 8) 0 0 (zM E (qv (fun M1 N1 => M1 (29, 0, 0) 47 = M (29, 0, 0) 47 + 1 ∧ (∀ j, 0 ≤ j → j < S 11 0 → M1 (30, 0, 43) (15 * M (29, 0, 0) 47 + j) = M (30, 0, 38) j ∧ M1 (30, 0, 44) (15 * M (29, 0, 0) 47 + j) = M (30, 0, 39) j) ∧ (∀ j, (j < 15 * M (29, 0, 0) 47 ∨ 15 * M (29, 0, 0) 47 + 15 ≤ j) → M1 (30, 0, 43) j = M (30, 0, 43) j ∧ M1 (30, 0, 44) j = M (30, 0, 44) j) ∧ M1 (30, 0, 45) = upI (M (30, 0, 45)) (M (29, 0, 0) 47) (bdR ((sK X W (S 11 0).toNat).1 (15 + v.toNat))) ∧ M1 (30, 0, 46) = upI (M (30, 0, 46)) (M (29, 0, 0) 47) 0 ∧ Kr [34, 37, 42, 47] [28, 29, 33, 35, 36, 40, 41, 43, 44, 45, 46] M M1 ∧ N = N1))) 2 [vr (29, 0, 0), vi v, vi k] [] M2 N := by
  intro n
  induction n using Nat.strongRecOn with
  | ind n ih =>
  intro k M2 hn k0 hA hO hf
  have c6 := hQ.1
  have c5 := hQ.2.2.1
  have c0 := hQ.2.1
  refine go_iload_n dX8_makes_2 rfl ?_
  refine go_aload_n dX8_makes_3 rfl rfl ?_
  refine g8_259 dX8_makes_4 ?_
  rw [hf.s 6 (by decide), c6]
  refine go_icmp_ge (tgt := 56) dX8_makes_7 rfl (fun h7 => ?_) (fun h7 => ?_)
  · have ek : k = S 11 0 := by omega
    rw [ek] at hA
    refine go_aload_n dX8_makes_56 rfl rfl ?_
    refine v8_425 dX8_makes_57 rfl ⟨rfl, rfl⟩ ⟨rfl, rfl⟩ (ct_X8_laysFormsBy (hQ.k hf (by decide) (by decide) (by decide) (by decide) (by decide) (by decide) (by decide) (by decide)) hW hX (by rw [hf.a 38 (by decide), hf.a 39 (by decide)]; exact hl) hB hNE) (fun M3 N3 hq1 => ?_)
    obtain ⟨ψ, q1, q2, q3, q4, rfl⟩ := hq1
    have f3 : Kr [34, 37, 42, 47] [28, 29, 33, 35, 36, 40, 41, 43, 44, 45, 46] M M3 := (hf.up (by decide) (by decide)).tr (q4.up (by decide) (by decide))
    have e47 : M3 (29, 0, 0) 47 = M (29, 0, 0) 47 := by rw [q4.s 47 (by decide), hf.s 47 (by decide)]
    have w15 : ψ (15 + v) = (sK X W (S 11 0).toNat).1 (15 + v.toNat) := by
      have := q2 (15 + v.toNat) (by omega)
      rw [show ((15 + v.toNat : Nat) : Int) = 15 + v by omega] at this
      exact this
    refine go_aload_n dX8_makes_60 rfl rfl ?_
    refine g8_92 dX8_makes_61 ?_
    refine go_aload_n dX8_makes_64 rfl rfl ?_
    refine g8_445 dX8_makes_65 ?_
    rw [e47]
    refine go_aload_n dX8_makes_68 rfl rfl ?_
    refine go_iload_n dX8_makes_69 rfl ?_
    refine v8_435 dX8_makes_70 rfl ⟨rfl, rfl⟩ ⟨rfl, rfl⟩ (ct_X8_boundOf q1 v0 (by omega)) (fun r2 M4 N4 hr2 hq2 => ?_)
    obtain ⟨z2, rfl, rfl⟩ := hq2
    subst z2
    rw [w15]
    refine go_last dX8_makes_73 rfl (by omega) (by omega) ?_
    refine go_aload_n dX8_makes_74 rfl rfl ?_
    refine g8_95 dX8_makes_75 ?_
    refine go_aload_n dX8_makes_78 rfl rfl ?_
    refine g8_445 dX8_makes_79 ?_
    rw [wr_nf (nm_ne1 (by decide)), e47]
    refine go_iconst dX8_makes_82 (R32_lit rfl) ?_
    refine go_zast dX8_makes_83 rfl (by omega) (by omega) (by first | exact Or.inl rfl | exact Or.inr rfl | omega) ?_
    refine go_aload_n dX8_makes_84 rfl rfl ?_
    first | refine go_dup_r dX8_makes_85 ?_ | refine go_dup_i dX8_makes_85 ?_
    refine g8_445 dX8_makes_86 ?_
    rw [wr_nf (nm_ne1 (by decide)), wr_nf (nm_ne1 (by decide)), e47]
    refine go_iconst dX8_makes_89 (R32_lit rfl) ?_
    refine go_iaddc dX8_makes_90 ⟨by omega, by omega⟩ ?_
    refine p8_445 dX8_makes_91 ?_
    refine go_retv dX8_makes_94 ?_
    have a43 : M3 (30, 0, 43) = M2 (30, 0, 43) := q4.a 43 (by decide)
    have a44 : M3 (30, 0, 44) = M2 (30, 0, 44) := q4.a 44 (by decide)
    refine ⟨wr_eq _ _ _ _, ?_, ?_, ?_, ?_, ((f3.wa (by decide)).wa (by decide)).ws (by decide), rfl⟩
    · intro j j0 j1
      rw [wr_nf (nm_ne1 (by decide)), wr_nf (nm_ne3 (by decide)), wr_nf (nm_ne3 (by decide)), a43, wr_nf (nm_ne1 (by decide)), wr_nf (nm_ne3 (by decide)), wr_nf (nm_ne3 (by decide)), a44]
      exact hA j j0 j1
    · intro j hj
      rw [wr_nf (nm_ne1 (by decide)), wr_nf (nm_ne3 (by decide)), wr_nf (nm_ne3 (by decide)), a43, wr_nf (nm_ne1 (by decide)), wr_nf (nm_ne3 (by decide)), wr_nf (nm_ne3 (by decide)), a44]
      exact hO j hj
    · rw [wr_nf (nm_ne1 (by decide)), wr_nf (nm_ne3 (by decide)), upI_wr, q4.a 45 (by decide), hf.a 45 (by decide)]
    · rw [wr_nf (nm_ne1 (by decide)), upI_wr, wr_nf (nm_ne3 (by decide)), q4.a 46 (by decide), hf.a 46 (by decide)]
  · refine go_aload_n dX8_makes_10 rfl rfl ?_
    refine g8_86 dX8_makes_11 ?_
    refine go_bipush dX8_makes_14 ⟨by decide, by decide⟩ ?_
    refine go_aload_n dX8_makes_16 rfl rfl ?_
    refine g8_445 dX8_makes_17 ?_
    rw [hf.s 47 (by decide)]
    refine go_imulc dX8_makes_20 ⟨by omega, by omega⟩ ?_
    refine go_iload_n dX8_makes_21 rfl ?_
    refine go_iaddc dX8_makes_22 ⟨by omega, by omega⟩ ?_
    refine go_aload_n dX8_makes_23 rfl rfl ?_
    refine g8_74 dX8_makes_24 ?_
    refine go_iload_n dX8_makes_27 rfl ?_
    refine go_iald dX8_makes_28 rfl (by omega) (by omega) ?_
    rw [hf.a 38 (by decide)]
    refine go_iast dX8_makes_29 rfl (by omega) (by omega) ?_
    refine go_aload_n dX8_makes_30 rfl rfl ?_
    refine g8_89 dX8_makes_31 ?_
    refine go_bipush dX8_makes_34 ⟨by decide, by decide⟩ ?_
    refine go_aload_n dX8_makes_36 rfl rfl ?_
    refine g8_445 dX8_makes_37 ?_
    rw [wr_nf (nm_ne1 (by decide)), hf.s 47 (by decide)]
    refine go_imulc dX8_makes_40 ⟨by omega, by omega⟩ ?_
    refine go_iload_n dX8_makes_41 rfl ?_
    refine go_iaddc dX8_makes_42 ⟨by omega, by omega⟩ ?_
    refine go_aload_n dX8_makes_43 rfl rfl ?_
    refine g8_77 dX8_makes_44 ?_
    refine go_iload_n dX8_makes_47 rfl ?_
    refine go_iald dX8_makes_48 rfl (by omega) (by omega) ?_
    rw [(hf.wa (f := 43) (by decide)).a 39 (by decide)]
    refine go_iast dX8_makes_49 rfl (by omega) (by omega) ?_
    refine go_iinc2c dX8_makes_50 rfl rfl ⟨by omega, by omega⟩ ?_
    refine go_goto (tgt := 2) dX8_makes_53 rfl ?_
    refine ih (n - 1) (by omega) (k + 1) _ (by omega) (by omega) ?_ ?_ ((hf.wa (by decide)).wa (by decide))
    · intro j j0 j1
      have e := hA j j0
      by_cases z : j = k
      · rw [z]
        exact ⟨by rw [wr_nn (nm_ne3 (by decide)), wr_eq], by rw [wr_eq]⟩
      · exact ⟨by rw [wr_nn (nm_ne3 (by decide)), wr_nk (by omega)]; exact (e (by omega)).1, by rw [wr_nk (by omega), wr_nn (nm_ne3 (by decide))]; exact (e (by omega)).2⟩
    · intro j hj
      have e := hO j hj
      exact ⟨by rw [wr_nn (nm_ne3 (by decide)), wr_nk (by omega)]; exact e.1, by rw [wr_nk (by omega), wr_nn (nm_ne3 (by decide))]; exact e.2⟩
set_option maxRecDepth 100000 in
set_option maxHeartbeats 4000000 in
theorem ct_X8_makes {E : Ev} {M : Mm} {N : Nn} {S X : Pg} {W : Int → Bool} {v : Int} (hQ : QR S M) (hW : WF S) (hX : XS S X) (hl : ∀ v, 0 ≤ v → v < S 11 0 → S 0 v = -2 → M (30, 0, 38) v = X 2 v ∧ M (30, 0, 39) v = X 3 v ∧ -1000 ≤ X 2 v ∧ X 2 v ≤ X 3 v ∧ X 3 v ≤ 1000) (hB : ∀ v, 0 ≤ v → v < S 11 0 → W v = true) (hNE : ∀ v : Nat, (v : Int) < S 11 0 → NEq S (sK X W v).1 v) (v0 : 0 ≤ v) (v1 : v < S 11 0) (m0 : 0 ≤ M (29, 0, 0) 47) (m1 : M (29, 0, 0) 47 ≤ 90) : Ct E yX8_makes cX8_makes 3 (none) (rmH 8) [vr (29, 0, 0), vi v] M N (qv (fun M1 N1 => M1 (29, 0, 0) 47 = M (29, 0, 0) 47 + 1 ∧ (∀ j, 0 ≤ j → j < S 11 0 → M1 (30, 0, 43) (15 * M (29, 0, 0) 47 + j) = M (30, 0, 38) j ∧ M1 (30, 0, 44) (15 * M (29, 0, 0) 47 + j) = M (30, 0, 39) j) ∧ (∀ j, (j < 15 * M (29, 0, 0) 47 ∨ 15 * M (29, 0, 0) 47 + 15 ≤ j) → M1 (30, 0, 43) j = M (30, 0, 43) j ∧ M1 (30, 0, 44) j = M (30, 0, 44) j) ∧ M1 (30, 0, 45) = upI (M (30, 0, 45)) (M (29, 0, 0) 47) (bdR ((sK X W (S 11 0).toNat).1 (15 + v.toNat))) ∧ M1 (30, 0, 46) = upI (M (30, 0, 46)) (M (29, 0, 0) 47) 0 ∧ Kr [34, 37, 42, 47] [28, 29, 33, 35, 36, 40, 41, 43, 44, 45, 46] M M1 ∧ N = N1)) := by
  refine ct_of (own := RX8) (L0 := [vr (29, 0, 0), vi v, vn]) rfl (by decide +kernel) rfl rfl ?_
  refine go_iconst dX8_makes_0 (R32_lit rfl) ?_
  refine go_ist2 dX8_makes_1 rfl rfl ?_
  have c0 := hQ.2.1
  exact lp_X8_makes hQ hW hX hl hB hNE v0 v1 m0 m1 (S 11 0).toNat 0 M (by omega) (by omega) (fun j j0 j1 => absurd j1 (by omega)) (fun _ _ => ⟨rfl, rfl⟩) Kr.rf
