set_option maxRecDepth 100000 in
set_option maxHeartbeats 4000000 in
theorem lw_all {E : Ev} {M : Mm} {N : Nn} {S : Pg} {v : Int} {Q : Int → Mm → Nn → Prop} (hQ : QR S M) (hW : WF S) (v0 : 0 ≤ v) (v1 : v < S 11 0) (hT : ∀ r M3, MX S v r → Kr [] [30, 31, 32] M M3 → Q r M3 N) : ∀ (n : Nat) (m : Int) (M2 : Mm) (x4 x5 : Vv), ((rnk S (M2 (30, 0, 32)) (S 11 0).toNat) + n = ptV S (S 11 0).toNat - 1) → (MXp S v m (rnk S (M2 (30, 0, 32)) (S 11 0).toNat)) → (PtI S (M2 (30, 0, 32))) → (Kr [] [30, 31, 32] M M2) → Go E RX8 cX8_worst 6 ((some .long)) (rmH 5) 0 0 (zM E (ql Q)) 73 [vr (29, 0, 0), vi v, vl m, vn, x4, x5] [] M2 N := by
  intro n
  induction n using Nat.strongRecOn with
  | ind n ih =>
  intro m M2 x4 x5 hn hM hP hf
  have c6 := hQ.1
  have c5 := hQ.2.2.1
  have c0 := hQ.2.1
  have nk := nxF_rk hW (S 11 0).toNat (M2 (30, 0, 32)) hP (by omega)
  refine go_aload_n dX8_worst_73 rfl rfl ?_
  refine v8_504 dX8_worst_74 rfl ⟨rfl, rfl⟩ ⟨rfl, rfl⟩ (ct_X8_nextPoint (hQ.k hf (by decide) (by decide) (by decide) (by decide) (by decide) (by decide) (by decide) (by decide)) hW hP) (fun r1 M3 N3 hr1 hq1 => ?_)
  obtain ⟨y1, y2, f1, rfl⟩ := hq1
  rw [← y1, ← y2] at nk
  obtain ⟨nk, hP3, -⟩ := nk
  have f3 : Kr [] [30, 31, 32] M M3 := hf.tr (f1.up (by decide) (by decide))
  refine go_if_eq (tgt := 104) dX8_worst_77 rfl (fun h77 => ?_) (fun h77 => ?_)
  · refine go_lload_n dX8_worst_104 rfl ?_
    refine go_retl dX8_worst_105 ?_
    refine hT _ _ ⟨fun pt hp => ?_, hM.2⟩ f3
    have e : (rnk S (M2 (30, 0, 32)) (S 11 0).toNat) = ptV S (S 11 0).toNat - 1 := by
      rcases nk with ⟨q, e⟩ | ⟨q, e⟩
      · omega
      · exact e
    have := (rnk_bd hW hp (S 11 0).toNat (by omega)).2
    exact hM.1 pt hp (by omega)
  · have rk : rnk S (M3 (30, 0, 32)) (S 11 0).toNat = (rnk S (M2 (30, 0, 32)) (S 11 0).toNat) + 1 := by
      rcases nk with ⟨q, e⟩ | ⟨q, e⟩
      · exact e
      · omega
    have rb := rnk_bd hW hP3 (S 11 0).toNat (by omega)
    refine go_aload_n dX8_worst_80 rfl rfl ?_
    refine go_iload_n dX8_worst_81 rfl ?_
    refine v8_475 dX8_worst_82 rfl ⟨rfl, rfl⟩ ⟨rfl, rfl⟩ (ct_X8_errorAt (hQ.k f3 (by decide) (by decide) (by decide) (by decide) (by decide) (by decide) (by decide) (by decide)) hW v0 v1) (fun r2 M4 N4 hr2 hq2 => ?_)
    obtain ⟨z2, f2, rfl⟩ := hq2
    subst z2
    have f4 : Kr [] [30, 31, 32] M M4 := f3.tr (f2.up (by decide) (by decide))
    have e32 : M4 (30, 0, 32) = M3 (30, 0, 32) := f2.a 32 (by decide)
    refine go_lst4 dX8_worst_85 rfl rfl ?_
    refine go_lload dX8_worst_87 rfl ?_
    refine go_lload_n dX8_worst_89 rfl ?_
    refine go_lcmp_le (tgt := 99) dX8_worst_90 dX8_worst_91 rfl (fun h90 => ?_) (fun h90 => ?_)
    · refine go_lload_n dX8_worst_99 rfl ?_
      refine go_lst2 dX8_worst_100 rfl rfl ?_
      refine go_goto (tgt := 73) dX8_worst_101 rfl ?_
      refine ih (n - 1) (by omega) _ M4 _ _ (by rw [e32, rk]; omega) ?_ (by rw [e32]; exact hP3) f4
      rw [e32, rk]
      refine hM.nx c0 v0 v1 hP3 rk ?_
      first
      | (rw [if_pos (by omega)]; done)
      | (rw [if_neg (by omega)]; done)
    · refine go_lload dX8_worst_94 rfl ?_
      refine go_goto (tgt := 100) dX8_worst_96 rfl ?_
      refine go_lst2 dX8_worst_100 rfl rfl ?_
      refine go_goto (tgt := 73) dX8_worst_101 rfl ?_
      refine ih (n - 1) (by omega) _ M4 _ _ (by rw [e32, rk]; omega) ?_ (by rw [e32]; exact hP3) f4
      rw [e32, rk]
      refine hM.nx c0 v0 v1 hP3 rk ?_
      first
      | (rw [if_pos (by omega)]; done)
      | (rw [if_neg (by omega)]; done)
set_option maxRecDepth 100000 in
set_option maxHeartbeats 4000000 in
theorem lw_from {E : Ev} {M : Mm} {N : Nn} {S : Pg} {v : Int} {Q : Int → Mm → Nn → Prop} (hQ : QR S M) (hW : WF S) (v0 : 0 ≤ v) (v1 : v < S 11 0) (hT : ∀ r M3, MX S v r → Kr [] [30, 31, 32] M M3 → Q r M3 N) : ∀ (n : Nat) (k : Int) (M2 : Mm), (k + n = S 11 0) → (0 ≤ k) → (∀ j, 0 ≤ j → j < k → M2 (30, 0, 32) j = M (30, 0, 9) j) → (Kr [] [30, 31, 32] M M2) → Go E RX8 cX8_worst 6 ((some .long)) (rmH 5) 0 0 (zM E (ql Q)) 41 [vr (29, 0, 0), vi v, vi k, vn, vn, vn] [] M2 N := by
  intro n
  induction n using Nat.strongRecOn with
  | ind n ih =>
  intro k M2 hn k0 hA hf
  have c6 := hQ.1
  have c5 := hQ.2.2.1
  have c0 := hQ.2.1
  refine go_iload_n dX8_worst_41 rfl ?_
  refine go_aload_n dX8_worst_42 rfl rfl ?_
  refine g8_259 dX8_worst_43 ?_
  rw [hf.s 6 (by decide), c6]
  refine go_icmp_ge (tgt := 67) dX8_worst_46 rfl (fun h46 => ?_) (fun h46 => ?_)
  · have hA2 : ∀ j, 0 ≤ j → j < S 11 0 → S 0 j = -2 → M2 (30, 0, 32) j = S 2 j := by
      intro j j0 j1 q
      have pr := ((hQ.2.2.2.2 j j0 j1).2.2.1 q).1
      rw [Int.zero_add] at pr
      exact (hA j j0 (by omega)).trans pr
    have hP : PtI S (M2 (30, 0, 32)) := by
      intro j j0 j1 q
      have w := (hW.2.2.2.2.2.2.1 j j0 j1).1.1 q
      rw [hA2 j j0 j1 q]
      exact ⟨Int.le_refl _, w.2.1⟩
    have r0 : (rnk S (M2 (30, 0, 32)) (S 11 0).toNat) = 0 := rnk_0 (S 11 0).toNat (fun j j0 j1 q => hA2 j j0 (by omega) q)
    refine go_aload_n dX8_worst_67 rfl rfl ?_
    refine go_iload_n dX8_worst_68 rfl ?_
    refine v8_475 dX8_worst_69 rfl ⟨rfl, rfl⟩ ⟨rfl, rfl⟩ (ct_X8_errorAt (hQ.k hf (by decide) (by decide) (by decide) (by decide) (by decide) (by decide) (by decide) (by decide)) hW v0 v1) (fun r2 M4 N4 hr2 hq2 => ?_)
    obtain ⟨z2, f2, rfl⟩ := hq2
    subst z2
    have f4 : Kr [] [30, 31, 32] M M4 := hf.tr (f2.up (by decide) (by decide))
    have e32 : M4 (30, 0, 32) = M2 (30, 0, 32) := f2.a 32 (by decide)
    refine go_lst2 dX8_worst_72 rfl rfl ?_
    have rb := rnk_bd hW hP (S 11 0).toNat (by omega)
    refine lw_all hQ hW v0 v1 hT (ptV S (S 11 0).toNat - 1).toNat _ M4 _ _ (by rw [e32, r0]; omega) ?_ (by rw [e32]; exact hP) f4
    rw [e32, r0]
    refine ⟨fun pt hp l => ?_, ⟨_, hP, rfl⟩⟩
    have hb := rnk_bd hW hp (S 11 0).toNat (by omega)
    have e := rnk_inj hp hP (S 11 0).toNat (by omega) (by rw [r0]; omega)
    rw [erS_cg v0 (fun j j0 j1 q => e j j0 (by omega) q)]
    exact Int.le_refl _
  · refine go_aload_n dX8_worst_49 rfl rfl ?_
    refine g8_62 dX8_worst_50 ?_
    refine go_iload_n dX8_worst_53 rfl ?_
    refine go_aload_n dX8_worst_54 rfl rfl ?_
    refine g8_25 dX8_worst_55 ?_
    refine go_iload_n dX8_worst_58 rfl ?_
    refine go_iald dX8_worst_59 rfl (by omega) (by omega) ?_
    rw [hf.a 9 (by decide)]
    refine go_iast dX8_worst_60 rfl (by omega) (by omega) ?_
    refine go_iinc2c dX8_worst_61 rfl rfl ⟨by omega, by omega⟩ ?_
    refine go_goto (tgt := 41) dX8_worst_64 rfl ?_
    refine ih (n - 1) (by omega) (k + 1) _ (by omega) (by omega) ?_ (hf.wa (by decide))
    intro j j0 j1
    by_cases z : j = k
    · rw [z, wr_eq]
    · rw [wr_nk z]; exact hA j j0 (by omega)
set_option maxRecDepth 100000 in
set_option maxHeartbeats 4000000 in
theorem ct_X8_worst {E : Ev} {M : Mm} {N : Nn} {S : Pg} {v : Int} (hQ : QR S M) (hW : WF S) : Ct E yX8_worst cX8_worst 6 ((some .long)) (rmH 5) [vr (29, 0, 0), vi v] M N (ql (fun r M1 N1 => (((0 ≤ v ∧ v < S 11 0) ∧ ptI S (S 12 0).toNat ≤ 2000) ∧ MX S v r ∧ F8 (rfM M 0) M1 ∨ ((0 ≤ v ∧ v < S 11 0) ∧ 2000 < ptI S (S 12 0).toNat) ∧ r = -9223372036854775808 ∧ F8 (rfM M 3) M1 ∨ ¬ (0 ≤ v ∧ v < S 11 0) ∧ r = -9223372036854775808 ∧ F8 (rfM M 1) M1) ∧ N = N1)) := by
  refine ct_of (own := RX8) (L0 := [vr (29, 0, 0), vi v, vn, vn, vn, vn]) rfl (by decide +kernel) rfl rfl ?_
  have c6 := hQ.1
  have c5 := hQ.2.2.1
  have c0 := hQ.2.1
  refine go_aload_n dX8_worst_0 rfl rfl ?_
  refine go_aload_n dX8_worst_1 rfl rfl ?_
  refine go_iload_n dX8_worst_2 rfl ?_
  refine v8_285 dX8_worst_3 rfl ⟨rfl, rfl⟩ ⟨rfl, rfl⟩ (ct_X8_isVariable hQ) (fun r1 M1 N1 hr1 hq1 => ?_)
  obtain ⟨z1, rfl, rfl⟩ := hq1
  have z1 := bit_iff z1
  refine go_if_ne (tgt := 13) dX8_worst_6 rfl (fun h6 => ?_) (fun h6 => ?_)
  · refine go_aload_n dX8_worst_13 rfl rfl ?_
    refine v8_305 dX8_worst_14 rfl ⟨rfl, rfl⟩ ⟨rfl, rfl⟩ (ct_X8_points hQ hW) (fun r2 M2 N2 hr2 hq2 => ?_)
    obtain ⟨z2, rfl, rfl⟩ := hq2
    refine c8_502 dX8_worst_17 ?_
    refine go_lcmp_le (tgt := 28) dX8_worst_20 dX8_worst_21 rfl (fun h20 => ?_) (fun h20 => ?_)
    · refine go_iconst dX8_worst_28 (R32_lit rfl) ?_
      refine v8_269 dX8_worst_29 rfl ⟨rfl, rfl⟩ ⟨rfl, rfl⟩ ct_X8_isRefused (fun r3 M3 N3 hr3 hq3 => ?_)
      obtain ⟨z3, rfl, rfl⟩ := hq3
      have z3 := bit_iff z3
      refine go_if_eq (tgt := 39) dX8_worst_32 rfl (fun h32 => ?_) (fun h32 => ?_)
      · have hv : (0 ≤ v ∧ v < S 11 0) := by omega
        have hp : ptI S (S 12 0).toNat ≤ 2000 := by omega
        first | rw [show rfM M 1 = rfM M 0 from (show False by omega).elim] | skip
        first | rw [show rfM M 3 = rfM M 0 from (show False by omega).elim] | skip
        refine go_iconst dX8_worst_39 (R32_lit rfl) ?_
        refine go_ist2 dX8_worst_40 rfl rfl ?_
        exact lw_from (M := rfM M 0) (rfM_Q hQ) hW hv.1 hv.2 (fun r M3 hm f3 => ⟨Or.inl ⟨⟨hv, hp⟩, hm, F8.of f3 (by decide) (by decide)⟩, rfl⟩) (S 11 0).toNat 0 _ (by omega) (by omega) (fun j j0 j1 => absurd j1 (by omega)) Kr.rf
      · refine c8_111 dX8_worst_35 ?_
        refine go_retl dX8_worst_38 ?_
        first
        | (have q : ¬ (0 ≤ v ∧ v < S 11 0) := by omega
           first
           | exact ⟨Or.inr (Or.inr ⟨q, rfl, F8.rf⟩), rfl⟩
           | exact (show False by omega).elim)
        | (have q : (0 ≤ v ∧ v < S 11 0) ∧ 2000 < ptI S (S 12 0).toNat := by omega
           exact ⟨Or.inr (Or.inl ⟨q, rfl, F8.rf⟩), rfl⟩)
        | exact (show False by omega).elim
    · refine go_iconst dX8_worst_24 (R32_lit rfl) ?_
      refine go_goto (tgt := 29) dX8_worst_25 rfl ?_
      refine v8_269 dX8_worst_29 rfl ⟨rfl, rfl⟩ ⟨rfl, rfl⟩ ct_X8_isRefused (fun r3 M3 N3 hr3 hq3 => ?_)
      obtain ⟨z3, rfl, rfl⟩ := hq3
      have z3 := bit_iff z3
      refine go_if_eq (tgt := 39) dX8_worst_32 rfl (fun h32 => ?_) (fun h32 => ?_)
      · have hv : (0 ≤ v ∧ v < S 11 0) := by omega
        have hp : ptI S (S 12 0).toNat ≤ 2000 := by omega
        first | rw [show rfM M 1 = rfM M 0 from (show False by omega).elim] | skip
        first | rw [show rfM M 3 = rfM M 0 from (show False by omega).elim] | skip
        refine go_iconst dX8_worst_39 (R32_lit rfl) ?_
        refine go_ist2 dX8_worst_40 rfl rfl ?_
        exact lw_from (M := rfM M 0) (rfM_Q hQ) hW hv.1 hv.2 (fun r M3 hm f3 => ⟨Or.inl ⟨⟨hv, hp⟩, hm, F8.of f3 (by decide) (by decide)⟩, rfl⟩) (S 11 0).toNat 0 _ (by omega) (by omega) (fun j j0 j1 => absurd j1 (by omega)) Kr.rf
      · refine c8_111 dX8_worst_35 ?_
        refine go_retl dX8_worst_38 ?_
        first
        | (have q : ¬ (0 ≤ v ∧ v < S 11 0) := by omega
           first
           | exact ⟨Or.inr (Or.inr ⟨q, rfl, F8.rf⟩), rfl⟩
           | exact (show False by omega).elim)
        | (have q : (0 ≤ v ∧ v < S 11 0) ∧ 2000 < ptI S (S 12 0).toNat := by omega
           exact ⟨Or.inr (Or.inl ⟨q, rfl, F8.rf⟩), rfl⟩)
        | exact (show False by omega).elim
  · refine go_iconst dX8_worst_9 (R32_lit rfl) ?_
    refine go_goto (tgt := 29) dX8_worst_10 rfl ?_
    refine v8_269 dX8_worst_29 rfl ⟨rfl, rfl⟩ ⟨rfl, rfl⟩ ct_X8_isRefused (fun r3 M3 N3 hr3 hq3 => ?_)
    obtain ⟨z3, rfl, rfl⟩ := hq3
    have z3 := bit_iff z3
    refine go_if_eq (tgt := 39) dX8_worst_32 rfl (fun h32 => ?_) (fun h32 => ?_)
    · have hv : (0 ≤ v ∧ v < S 11 0) := by omega
      have hp : ptI S (S 12 0).toNat ≤ 2000 := by omega
      first | rw [show rfM M 1 = rfM M 0 from (show False by omega).elim] | skip
      first | rw [show rfM M 3 = rfM M 0 from (show False by omega).elim] | skip
      refine go_iconst dX8_worst_39 (R32_lit rfl) ?_
      refine go_ist2 dX8_worst_40 rfl rfl ?_
      exact lw_from (M := rfM M 0) (rfM_Q hQ) hW hv.1 hv.2 (fun r M3 hm f3 => ⟨Or.inl ⟨⟨hv, hp⟩, hm, F8.of f3 (by decide) (by decide)⟩, rfl⟩) (S 11 0).toNat 0 _ (by omega) (by omega) (fun j j0 j1 => absurd j1 (by omega)) Kr.rf
    · refine c8_111 dX8_worst_35 ?_
      refine go_retl dX8_worst_38 ?_
      first
      | (have q : ¬ (0 ≤ v ∧ v < S 11 0) := by omega
         first
         | exact ⟨Or.inr (Or.inr ⟨q, rfl, F8.rf⟩), rfl⟩
         | exact (show False by omega).elim)
      | (have q : (0 ≤ v ∧ v < S 11 0) ∧ 2000 < ptI S (S 12 0).toNat := by omega
         exact ⟨Or.inr (Or.inl ⟨q, rfl, F8.rf⟩), rfl⟩)
      | exact (show False by omega).elim
