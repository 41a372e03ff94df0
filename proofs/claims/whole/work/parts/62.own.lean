theorem SkH.tr {M : Mm} {p : Nat} {v k : Int} (h : SkH (pgC M p) v) : SkH (pgC (wr M (3, 0, 0) 9 k) p) v := by rw [pg_tr]; exact h
theorem IW_tr {M : Mm} {a : Nat} {k : Int} (h : a ≠ 3) : wr M (3, 0, 0) 9 k (a, 0, 0) = M (a, 0, 0) := wr_nf (nm_ne1 h)
set_option maxRecDepth 100000 in
set_option maxHeartbeats 4000000 in
theorem ct_X7_went {E : Ev} {M : Mm} {N : Nn} {p : Nat} {v : Int} (hC : N (3, 0, 0) 6 = (18, p, 0)) (hc : (pgC M p) 11 0 ≤ 15) (hK : ∀ v, 0 ≤ v → v < (pgC M p) 11 0 → SkH (pgC M p) v) : Ct E yX7_went cX7_went 2 ((some .int)) (rmH 5) [vr (3, 0, 0), vi v] M N (qi (fun r M1 N1 => ((0 ≤ v ∧ v < (pgC M p) 11 0 ∧ (pgC M p) 0 v = 3) ∧ r = wyP (pgC M p) (M (5, 0, 0)) v ∧ Sf (tr M 0) M1 ∨ (0 ≤ v ∧ v < (pgC M p) 11 0 ∧ (pgC M p) 0 v ≠ -2 ∧ (pgC M p) 0 v ≠ 3) ∧ r = -1 ∧ M1 = tr M 5 ∨ (¬ (0 ≤ v ∧ v < (pgC M p) 11 0 ∧ (pgC M p) 0 v ≠ -2)) ∧ r = -1 ∧ M1 = tr M 1) ∧ N = N1)) := by
  refine ct_of (own := RX7) (L0 := [vr (3, 0, 0), vi v]) rfl (by decide +kernel) rfl rfl ?_
  refine go_aload_n dX7_went_0 rfl rfl ?_
  refine g7_50 dX7_went_1 ?_
  rw [hC]
  refine go_iload_n dX7_went_4 rfl ?_
  refine v7_147 dX7_went_5 rfl ⟨rfl, rfl⟩ ⟨rfl, rfl⟩ (ct_X3_isStep hc) (fun r1 M1 N1 hr1 hq1 => ?_)
  obtain ⟨e1, rfl, rfl⟩ := hq1
  have z1 := b1_iff e1
  refine go_if_ne (tgt := 17) dX7_went_8 rfl (fun h8 => ?_) (fun h8 => ?_)
  · refine go_aload_n dX7_went_17 rfl rfl ?_
    refine g7_50 dX7_went_18 ?_
    rw [hC]
    refine go_iload_n dX7_went_21 rfl ?_
    refine v7_175 dX7_went_22 rfl ⟨rfl, rfl⟩ ⟨rfl, rfl⟩ (ct_X3_isPick hc) (fun r2 M2 N2 hr2 hq2 => ?_)
    obtain ⟨e2, rfl, rfl⟩ := hq2
    have z2 := b1_iff e2
    refine go_if_ne (tgt := 34) dX7_went_25 rfl (fun h25 => ?_) (fun h25 => ?_)
    · refine go_aload_n dX7_went_34 rfl rfl ?_
      refine go_iconst dX7_went_35 (R32_lit rfl) ?_
      refine p7_61 dX7_went_36 ?_
      have hkv := (hK v (by omega) (by omega))
      obtain ⟨h1, h2, h3, h4, h5⟩ := hkv.tr (k := 0)
      refine go_aload_n dX7_went_39 rfl rfl ?_
      refine g7_43 dX7_went_40 ?_
      refine g7_159 dX7_went_43 ?_
      refine go_aload_n dX7_went_46 rfl rfl ?_
      refine g7_50 dX7_went_47 ?_
      rw [hC]
      refine go_aload_n dX7_went_50 rfl rfl ?_
      refine g7_15 dX7_went_51 ?_
      refine go_iload_n dX7_went_54 rfl ?_
      refine v7_163 dX7_went_55 rfl ⟨rfl, rfl⟩ ⟨rfl, rfl⟩ (ct_X5_reckonAt (kn := (5, 0, 0)) rfl rfl h1 h2 h4 h5) (fun M3 N3 hq3 => ?_)
      obtain ⟨t1, t2, rfl⟩ := hq3
      have hg2 : pgC M3 p = (pgC M p) := t2.pg.trans pg_tr
      rw [pg_tr] at t1
      have hst := hkv.1.2.2.2.2.2.2.2.2 v (by omega) (by omega) (by omega)
      refine go_aload_n dX7_went_58 rfl rfl ?_
      refine g7_43 dX7_went_59 ?_
      refine g7_159 dX7_went_62 ?_
      refine go_aload_n dX7_went_65 rfl rfl ?_
      refine g7_50 dX7_went_66 ?_
      rw [hC]
      refine go_iload_n dX7_went_69 rfl ?_
      refine v7_178 dX7_went_70 rfl ⟨rfl, rfl⟩ ⟨rfl, rfl⟩ (ct_X5_ways (by omega) (by omega) (fun k k0 k1 => by rw [hg2] at k1 ⊢; by_cases q : 0 ≤ (pgC M p) 8 (4 * v + k); (have := ((hst.1 k k0 k1).1 q).1; omega); omega)) (fun r4 M4 N4 hr4 hq4 => ?_)
      refine go_reti dX7_went_73 ?_
      obtain ⟨y1, rfl, rfl⟩ := hq4
      rw [hg2, wy_tb hkv (by omega) t1, IW_tr (by decide)] at y1
      exact ⟨Or.inl ⟨by omega, y1, t2.sf⟩, rfl⟩
    · refine go_aload_n dX7_went_28 rfl rfl ?_
      refine go_iconst dX7_went_29 (R32_lit rfl) ?_
      refine v7_74 dX7_went_30 rfl ⟨rfl, rfl⟩ ⟨rfl, rfl⟩ ct_X7_none (fun r9 M9 N9 hr9 hq9 => ?_)
      refine go_reti dX7_went_33 ?_
      obtain ⟨y1, y2, rfl⟩ := hq9
      exact ⟨Or.inr (Or.inl ⟨by omega, y1, y2⟩), rfl⟩
  · refine go_aload_n dX7_went_11 rfl rfl ?_
    refine go_iconst dX7_went_12 (R32_lit rfl) ?_
    refine v7_74 dX7_went_13 rfl ⟨rfl, rfl⟩ ⟨rfl, rfl⟩ ct_X7_none (fun r9 M9 N9 hr9 hq9 => ?_)
    refine go_reti dX7_went_16 ?_
    obtain ⟨y1, y2, rfl⟩ := hq9
    exact ⟨Or.inr (Or.inr (⟨by omega, y1, y2⟩)), rfl⟩
set_option maxRecDepth 100000 in
set_option maxHeartbeats 4000000 in
theorem ct_X7_climb {E : Ev} {M : Mm} {N : Nn} {p : Nat} {v k sd : Int} (hC : N (3, 0, 0) 6 = (18, p, 0)) (hc : (pgC M p) 11 0 ≤ 15) (hK : ∀ v, 0 ≤ v → v < (pgC M p) 11 0 → SkH (pgC M p) v) : Ct E yX7_climb cX7_climb 4 ((some .long)) (rmH 8) [vr (3, 0, 0), vi v, vi k, vi sd] M N (ql (fun r M1 N1 => ((0 ≤ v ∧ v < (pgC M p) 11 0 ∧ 1 ≤ k ∧ k ≤ 10 ∧ 0 ≤ sd ∧ sd ≤ 65536) ∧ r = (skS (pgC M p) v (M (25, 0, 0), sd, -1, M (24, 0, 0)) k.toNat).2.2.1 ∧ Sf (tr M 0) M1 ∨ (0 ≤ v ∧ v < (pgC M p) 11 0 ∧ ¬ (1 ≤ k ∧ k ≤ 10 ∧ 0 ≤ sd ∧ sd ≤ 65536)) ∧ r = -9223372036854775808 ∧ M1 = tr M 2 ∨ (¬ (0 ≤ v ∧ v < (pgC M p) 11 0)) ∧ r = -9223372036854775808 ∧ M1 = tr M 1) ∧ N = N1)) := by
  refine ct_of (own := RX7) (L0 := [vr (3, 0, 0), vi v, vi k, vi sd]) rfl (by decide +kernel) rfl rfl ?_
  refine go_aload_n dX7_climb_0 rfl rfl ?_
  refine g7_50 dX7_climb_1 ?_
  rw [hC]
  refine go_iload_n dX7_climb_4 rfl ?_
  refine v7_118 dX7_climb_5 rfl ⟨rfl, rfl⟩ ⟨rfl, rfl⟩ ct_X3_has (fun r1 M1 N1 hr1 hq1 => ?_)
  obtain ⟨e1, rfl, rfl⟩ := hq1
  have z1 := b1_iff e1
  refine go_if_ne (tgt := 17) dX7_climb_8 rfl (fun h8 => ?_) (fun h8 => ?_)
  · refine go_iload_n dX7_climb_17 rfl ?_
    refine go_iconst dX7_climb_18 (R32_lit rfl) ?_
    refine go_icmp_lt (tgt := 35) dX7_climb_19 rfl (fun h19 => ?_) (fun h19 => ?_)
    · refine go_aload_n dX7_climb_35 rfl rfl ?_
      refine go_iconst dX7_climb_36 (R32_lit rfl) ?_
      refine v7_122 dX7_climb_37 rfl ⟨rfl, rfl⟩ ⟨rfl, rfl⟩ ct_X7_nothing (fun r9 M9 N9 hr9 hq9 => ?_)
      refine go_retl dX7_climb_40 ?_
      obtain ⟨y1, y2, rfl⟩ := hq9
      exact ⟨Or.inr (Or.inl ⟨by omega, y1, y2⟩), rfl⟩
    · refine go_iload_n dX7_climb_22 rfl ?_
      refine go_bipush dX7_climb_23 ⟨by decide, by decide⟩ ?_
      refine go_icmp_gt (tgt := 35) dX7_climb_25 rfl (fun h25 => ?_) (fun h25 => ?_)
      · refine go_aload_n dX7_climb_35 rfl rfl ?_
        refine go_iconst dX7_climb_36 (R32_lit rfl) ?_
        refine v7_122 dX7_climb_37 rfl ⟨rfl, rfl⟩ ⟨rfl, rfl⟩ ct_X7_nothing (fun r9 M9 N9 hr9 hq9 => ?_)
        refine go_retl dX7_climb_40 ?_
        obtain ⟨y1, y2, rfl⟩ := hq9
        exact ⟨Or.inr (Or.inl ⟨by omega, y1, y2⟩), rfl⟩
      · refine go_iload_n dX7_climb_28 rfl ?_
        refine v7_244 dX7_climb_29 rfl ⟨rfl, rfl⟩ ⟨rfl, rfl⟩ ct_X7_isSeed (fun r2 M2 N2 hr2 hq2 => ?_)
        obtain ⟨e2, rfl, rfl⟩ := hq2
        have z2 := b1_iff e2
        refine go_if_ne (tgt := 41) dX7_climb_32 rfl (fun h32 => ?_) (fun h32 => ?_)
        · have hkv := (hK v (by omega) (by omega))
          refine go_aload_n dX7_climb_41 rfl rfl ?_
          refine go_iconst dX7_climb_42 (R32_lit rfl) ?_
          refine p7_61 dX7_climb_43 ?_
          refine go_aload_n dX7_climb_46 rfl rfl ?_
          refine g7_43 dX7_climb_47 ?_
          refine go_aload_n dX7_climb_50 rfl rfl ?_
          refine g7_50 dX7_climb_51 ?_
          rw [hC]
          refine go_iload_n dX7_climb_54 rfl ?_
          refine go_iload_n dX7_climb_55 rfl ?_
          refine go_iload_n dX7_climb_56 rfl ?_
          refine v7_247 dX7_climb_57 rfl ⟨rfl, rfl⟩ ⟨rfl, rfl⟩ (ct_X6_seek hkv.tr (by omega) (by omega) (by omega) (by omega)) (fun M3 N3 hq3 => ?_)
          obtain ⟨t1, t2, rfl⟩ := hq3
          rw [pg_tr, IW_tr (by decide), IW_tr (by decide)] at t1
          refine go_aload_n dX7_climb_60 rfl rfl ?_
          refine g7_43 dX7_climb_61 ?_
          refine g7_251 dX7_climb_64 ?_
          rw [t1.2.2.1]
          exact go_retl dX7_climb_67 ⟨Or.inl ⟨by omega, rfl, t2⟩, rfl⟩
        · refine go_aload_n dX7_climb_35 rfl rfl ?_
          refine go_iconst dX7_climb_36 (R32_lit rfl) ?_
          refine v7_122 dX7_climb_37 rfl ⟨rfl, rfl⟩ ⟨rfl, rfl⟩ ct_X7_nothing (fun r9 M9 N9 hr9 hq9 => ?_)
          refine go_retl dX7_climb_40 ?_
          obtain ⟨y1, y2, rfl⟩ := hq9
          exact ⟨Or.inr (Or.inl ⟨by omega, y1, y2⟩), rfl⟩
  · refine go_aload_n dX7_climb_11 rfl rfl ?_
    refine go_iconst dX7_climb_12 (R32_lit rfl) ?_
    refine v7_122 dX7_climb_13 rfl ⟨rfl, rfl⟩ ⟨rfl, rfl⟩ ct_X7_nothing (fun r9 M9 N9 hr9 hq9 => ?_)
    refine go_retl dX7_climb_16 ?_
    obtain ⟨y1, y2, rfl⟩ := hq9
    exact ⟨Or.inr (Or.inr (⟨by omega, y1, y2⟩)), rfl⟩
set_option maxRecDepth 100000 in
set_option maxHeartbeats 4000000 in
theorem ct_X7_witness {E : Ev} {M : Mm} {N : Nn} {p : Nat} {v k sd w : Int} (hC : N (3, 0, 0) 6 = (18, p, 0)) (hc : (pgC M p) 11 0 ≤ 15) (hK : ∀ v, 0 ≤ v → v < (pgC M p) 11 0 → SkH (pgC M p) v) : Ct E yX7_witness cX7_witness 5 ((some .long)) (rmH 8) [vr (3, 0, 0), vi v, vi k, vi sd, vi w] M N (ql (fun r M1 N1 => ((0 ≤ v ∧ v < (pgC M p) 11 0 ∧ 1 ≤ k ∧ k ≤ 10 ∧ 0 ≤ sd ∧ sd ≤ 65536 ∧ 0 ≤ w ∧ w < (pgC M p) 11 0 ∧ (pgC M p) 0 w = -2) ∧ r = (skS (pgC M p) v (M (25, 0, 0), sd, -1, M (24, 0, 0)) k.toNat).2.2.2 w ∧ Sf (tr M 0) M1 ∨ (0 ≤ v ∧ v < (pgC M p) 11 0 ∧ 1 ≤ k ∧ k ≤ 10 ∧ 0 ≤ sd ∧ sd ≤ 65536 ∧ ¬ (0 ≤ w ∧ w < (pgC M p) 11 0 ∧ (pgC M p) 0 w = -2)) ∧ r = -9223372036854775808 ∧ M1 = tr M 1 ∨ (0 ≤ v ∧ v < (pgC M p) 11 0 ∧ ¬ (1 ≤ k ∧ k ≤ 10 ∧ 0 ≤ sd ∧ sd ≤ 65536)) ∧ r = -9223372036854775808 ∧ M1 = tr M 2 ∨ (¬ (0 ≤ v ∧ v < (pgC M p) 11 0)) ∧ r = -9223372036854775808 ∧ M1 = tr M 1) ∧ N = N1)) := by
  refine ct_of (own := RX7) (L0 := [vr (3, 0, 0), vi v, vi k, vi sd, vi w]) rfl (by decide +kernel) rfl rfl ?_
  refine go_aload_n dX7_witness_0 rfl rfl ?_
  refine g7_50 dX7_witness_1 ?_
  rw [hC]
  refine go_iload_n dX7_witness_4 rfl ?_
  refine v7_118 dX7_witness_5 rfl ⟨rfl, rfl⟩ ⟨rfl, rfl⟩ ct_X3_has (fun r1 M1 N1 hr1 hq1 => ?_)
  obtain ⟨e1, rfl, rfl⟩ := hq1
  have z1 := b1_iff e1
  refine go_if_ne (tgt := 17) dX7_witness_8 rfl (fun h8 => ?_) (fun h8 => ?_)
  · refine go_iload_n dX7_witness_17 rfl ?_
    refine go_iconst dX7_witness_18 (R32_lit rfl) ?_
    refine go_icmp_lt (tgt := 35) dX7_witness_19 rfl (fun h19 => ?_) (fun h19 => ?_)
    · refine go_aload_n dX7_witness_35 rfl rfl ?_
      refine go_iconst dX7_witness_36 (R32_lit rfl) ?_
      refine v7_122 dX7_witness_37 rfl ⟨rfl, rfl⟩ ⟨rfl, rfl⟩ ct_X7_nothing (fun r9 M9 N9 hr9 hq9 => ?_)
      refine go_retl dX7_witness_40 ?_
      obtain ⟨y1, y2, rfl⟩ := hq9
      exact ⟨Or.inr (Or.inr (Or.inl ⟨by omega, y1, y2⟩)), rfl⟩
    · refine go_iload_n dX7_witness_22 rfl ?_
      refine go_bipush dX7_witness_23 ⟨by decide, by decide⟩ ?_
      refine go_icmp_gt (tgt := 35) dX7_witness_25 rfl (fun h25 => ?_) (fun h25 => ?_)
      · refine go_aload_n dX7_witness_35 rfl rfl ?_
        refine go_iconst dX7_witness_36 (R32_lit rfl) ?_
        refine v7_122 dX7_witness_37 rfl ⟨rfl, rfl⟩ ⟨rfl, rfl⟩ ct_X7_nothing (fun r9 M9 N9 hr9 hq9 => ?_)
        refine go_retl dX7_witness_40 ?_
        obtain ⟨y1, y2, rfl⟩ := hq9
        exact ⟨Or.inr (Or.inr (Or.inl ⟨by omega, y1, y2⟩)), rfl⟩
      · refine go_iload_n dX7_witness_28 rfl ?_
        refine v7_244 dX7_witness_29 rfl ⟨rfl, rfl⟩ ⟨rfl, rfl⟩ ct_X7_isSeed (fun r2 M2 N2 hr2 hq2 => ?_)
        obtain ⟨e2, rfl, rfl⟩ := hq2
        have z2 := b1_iff e2
        refine go_if_ne (tgt := 41) dX7_witness_32 rfl (fun h32 => ?_) (fun h32 => ?_)
        · refine go_aload_n dX7_witness_41 rfl rfl ?_
          refine g7_50 dX7_witness_42 ?_
          rw [hC]
          refine go_iload dX7_witness_45 rfl ?_
          refine v7_126 dX7_witness_47 rfl ⟨rfl, rfl⟩ ⟨rfl, rfl⟩ (ct_X3_isInput hc) (fun r4 M4 N4 hr4 hq4 => ?_)
          obtain ⟨e4, rfl, rfl⟩ := hq4
          have z4 := b1_iff e4
          refine go_if_ne (tgt := 59) dX7_witness_50 rfl (fun h50 => ?_) (fun h50 => ?_)
          · have hkv := (hK v (by omega) (by omega))
            refine go_aload_n dX7_witness_59 rfl rfl ?_
            refine go_iconst dX7_witness_60 (R32_lit rfl) ?_
            refine p7_61 dX7_witness_61 ?_
            refine go_aload_n dX7_witness_64 rfl rfl ?_
            refine g7_43 dX7_witness_65 ?_
            refine go_aload_n dX7_witness_68 rfl rfl ?_
            refine g7_50 dX7_witness_69 ?_
            rw [hC]
            refine go_iload_n dX7_witness_72 rfl ?_
            refine go_iload_n dX7_witness_73 rfl ?_
            refine go_iload_n dX7_witness_74 rfl ?_
            refine v7_247 dX7_witness_75 rfl ⟨rfl, rfl⟩ ⟨rfl, rfl⟩ (ct_X6_seek hkv.tr (by omega) (by omega) (by omega) (by omega)) (fun M3 N3 hq3 => ?_)
            obtain ⟨t1, t2, rfl⟩ := hq3
            rw [pg_tr, IW_tr (by decide), IW_tr (by decide)] at t1
            refine go_aload_n dX7_witness_78 rfl rfl ?_
            refine g7_43 dX7_witness_79 ?_
            refine g7_253 dX7_witness_82 ?_
            refine go_iload dX7_witness_85 rfl ?_
            refine go_iald dX7_witness_87 rfl (by omega) (by omega) ?_
            rw [t1.2.2.2]
            refine go_i2l dX7_witness_88 ?_
            exact go_retl dX7_witness_89 ⟨Or.inl ⟨by omega, rfl, t2⟩, rfl⟩
          · refine go_aload_n dX7_witness_53 rfl rfl ?_
            refine go_iconst dX7_witness_54 (R32_lit rfl) ?_
            refine v7_122 dX7_witness_55 rfl ⟨rfl, rfl⟩ ⟨rfl, rfl⟩ ct_X7_nothing (fun r9 M9 N9 hr9 hq9 => ?_)
            refine go_retl dX7_witness_58 ?_
            obtain ⟨y1, y2, rfl⟩ := hq9
            exact ⟨Or.inr (Or.inl ⟨by omega, y1, y2⟩), rfl⟩
        · refine go_aload_n dX7_witness_35 rfl rfl ?_
          refine go_iconst dX7_witness_36 (R32_lit rfl) ?_
          refine v7_122 dX7_witness_37 rfl ⟨rfl, rfl⟩ ⟨rfl, rfl⟩ ct_X7_nothing (fun r9 M9 N9 hr9 hq9 => ?_)
          refine go_retl dX7_witness_40 ?_
          obtain ⟨y1, y2, rfl⟩ := hq9
          exact ⟨Or.inr (Or.inr (Or.inl ⟨by omega, y1, y2⟩)), rfl⟩
  · refine go_aload_n dX7_witness_11 rfl rfl ?_
    refine go_iconst dX7_witness_12 (R32_lit rfl) ?_
    refine v7_122 dX7_witness_13 rfl ⟨rfl, rfl⟩ ⟨rfl, rfl⟩ ct_X7_nothing (fun r9 M9 N9 hr9 hq9 => ?_)
    refine go_retl dX7_witness_16 ?_
    obtain ⟨y1, y2, rfl⟩ := hq9
    exact ⟨Or.inr (Or.inr (Or.inr (⟨by omega, y1, y2⟩))), rfl⟩
set_option maxRecDepth 100000 in
set_option maxHeartbeats 4000000 in
theorem ct_X7_worst {E : Ev} {M : Mm} {N : Nn} {p : Nat} {v : Int} (hC : N (3, 0, 0) 6 = (18, p, 0)) (hc : (pgC M p) 11 0 ≤ 15) (hK : ∀ v, 0 ≤ v → v < (pgC M p) 11 0 → SkH (pgC M p) v) (hw : IW (pgC M p)) : Ct E yX7_worst cX7_worst 2 ((some .long)) (rmH 6) [vr (3, 0, 0), vi v] M N (ql (fun r M1 N1 => ((0 ≤ v ∧ v < (pgC M p) 11 0 ∧ ptI (pgC M p) ((pgC M p) 12 0).toNat ≤ 2000) ∧ r = gaS (pgC M p) v 2000 (frS (pgC M p) (M (25, 0, 0)) ((pgC M p) 12 0).toNat) (erS (pgC M p) (frS (pgC M p) (M (25, 0, 0)) ((pgC M p) 12 0).toNat) v) ∧ Vf (tr M 0) M1 ∨ (0 ≤ v ∧ v < (pgC M p) 11 0 ∧ 2000 < ptI (pgC M p) ((pgC M p) 12 0).toNat) ∧ r = -9223372036854775808 ∧ M1 = tr M 3 ∨ (¬ (0 ≤ v ∧ v < (pgC M p) 11 0)) ∧ r = -9223372036854775808 ∧ M1 = tr M 1) ∧ N = N1)) := by
  refine ct_of (own := RX7) (L0 := [vr (3, 0, 0), vi v]) rfl (by decide +kernel) rfl rfl ?_
  refine go_aload_n dX7_worst_0 rfl rfl ?_
  refine g7_50 dX7_worst_1 ?_
  rw [hC]
  refine go_iload_n dX7_worst_4 rfl ?_
  refine v7_118 dX7_worst_5 rfl ⟨rfl, rfl⟩ ⟨rfl, rfl⟩ ct_X3_has (fun r1 M1 N1 hr1 hq1 => ?_)
  obtain ⟨e1, rfl, rfl⟩ := hq1
  have z1 := b1_iff e1
  refine go_if_ne (tgt := 17) dX7_worst_8 rfl (fun h8 => ?_) (fun h8 => ?_)
  · refine go_aload_n dX7_worst_17 rfl rfl ?_
    refine g7_50 dX7_worst_18 ?_
    rw [hC]
    refine v7_106 dX7_worst_21 rfl ⟨rfl, rfl⟩ ⟨rfl, rfl⟩ (ct_X3_points hw) (fun r2 M2 N2 hr2 hq2 => ?_)
    obtain ⟨e2, rfl, rfl⟩ := hq2
    refine c7_256 dX7_worst_24 ?_
    refine go_lcmp_le (tgt := 37) dX7_worst_27 dX7_worst_28 rfl (fun h27 => ?_) (fun h27 => ?_)
    · have hkv := (hK v (by omega) (by omega))
      refine go_aload_n dX7_worst_37 rfl rfl ?_
      refine go_iconst dX7_worst_38 (R32_lit rfl) ?_
      refine p7_61 dX7_worst_39 ?_
      refine go_aload_n dX7_worst_42 rfl rfl ?_
      refine g7_43 dX7_worst_43 ?_
      refine go_aload_n dX7_worst_46 rfl rfl ?_
      refine g7_50 dX7_worst_47 ?_
      rw [hC]
      refine go_iload_n dX7_worst_50 rfl ?_
      refine v7_258 dX7_worst_51 rfl ⟨rfl, rfl⟩ ⟨rfl, rfl⟩ (ct_X6_greatestOfAll hkv.tr) (fun r3 M3 N3 hr3 hq3 => ?_)
      refine go_retl dX7_worst_54 ?_
      obtain ⟨t1, t2, rfl⟩ := hq3
      rw [pg_tr, IW_tr (by decide)] at t1
      exact ⟨Or.inl ⟨by omega, t1, t2⟩, rfl⟩
    · refine go_aload_n dX7_worst_31 rfl rfl ?_
      refine go_iconst dX7_worst_32 (R32_lit rfl) ?_
      refine v7_122 dX7_worst_33 rfl ⟨rfl, rfl⟩ ⟨rfl, rfl⟩ ct_X7_nothing (fun r9 M9 N9 hr9 hq9 => ?_)
      refine go_retl dX7_worst_36 ?_
      obtain ⟨y1, y2, rfl⟩ := hq9
      exact ⟨Or.inr (Or.inl ⟨by omega, y1, y2⟩), rfl⟩
  · refine go_aload_n dX7_worst_11 rfl rfl ?_
    refine go_iconst dX7_worst_12 (R32_lit rfl) ?_
    refine v7_122 dX7_worst_13 rfl ⟨rfl, rfl⟩ ⟨rfl, rfl⟩ ct_X7_nothing (fun r9 M9 N9 hr9 hq9 => ?_)
    refine go_retl dX7_worst_16 ?_
    obtain ⟨y1, y2, rfl⟩ := hq9
    exact ⟨Or.inr (Or.inr (⟨by omega, y1, y2⟩)), rfl⟩
set_option maxRecDepth 100000 in
set_option maxHeartbeats 4000000 in
theorem ct_X7_parts {E : Ev} {M : Mm} {N : Nn} {p : Nat} {v k sd : Int} (hC : N (3, 0, 0) 6 = (18, p, 0)) (hc : (pgC M p) 11 0 ≤ 15) (hK : ∀ v, 0 ≤ v → v < (pgC M p) 11 0 → SkH (pgC M p) v) : Ct E yX7_parts cX7_parts 4 ((some .int)) (rmH 6) [vr (3, 0, 0), vi v, vi k, vi sd] M N (qi (fun r M1 N1 => ((0 ≤ v ∧ v < (pgC M p) 11 0 ∧ (pgC M p) 0 v = 3 ∧ 1 ≤ k ∧ k ≤ 200 ∧ 0 ≤ sd ∧ sd ≤ 65536) ∧ r = fpS (pgC M p) v k.toNat 0 (M (25, 0, 0)) sd ∧ Sf (tr M 0) M1 ∨ (0 ≤ v ∧ v < (pgC M p) 11 0 ∧ (pgC M p) 0 v = 3 ∧ ¬ (1 ≤ k ∧ k ≤ 200 ∧ 0 ≤ sd ∧ sd ≤ 65536)) ∧ r = -1 ∧ M1 = tr M 2 ∨ (0 ≤ v ∧ v < (pgC M p) 11 0 ∧ (pgC M p) 0 v ≠ -2 ∧ (pgC M p) 0 v ≠ 3) ∧ r = -1 ∧ M1 = tr M 5 ∨ (¬ (0 ≤ v ∧ v < (pgC M p) 11 0 ∧ (pgC M p) 0 v ≠ -2)) ∧ r = -1 ∧ M1 = tr M 1) ∧ N = N1)) := by
  refine ct_of (own := RX7) (L0 := [vr (3, 0, 0), vi v, vi k, vi sd]) rfl (by decide +kernel) rfl rfl ?_
  refine go_aload_n dX7_parts_0 rfl rfl ?_
  refine g7_50 dX7_parts_1 ?_
  rw [hC]
  refine go_iload_n dX7_parts_4 rfl ?_
  refine v7_147 dX7_parts_5 rfl ⟨rfl, rfl⟩ ⟨rfl, rfl⟩ (ct_X3_isStep hc) (fun r1 M1 N1 hr1 hq1 => ?_)
  obtain ⟨e1, rfl, rfl⟩ := hq1
  have z1 := b1_iff e1
  refine go_if_ne (tgt := 17) dX7_parts_8 rfl (fun h8 => ?_) (fun h8 => ?_)
  · refine go_aload_n dX7_parts_17 rfl rfl ?_
    refine g7_50 dX7_parts_18 ?_
    rw [hC]
    refine go_iload_n dX7_parts_21 rfl ?_
    refine v7_175 dX7_parts_22 rfl ⟨rfl, rfl⟩ ⟨rfl, rfl⟩ (ct_X3_isPick hc) (fun r2 M2 N2 hr2 hq2 => ?_)
    obtain ⟨e2, rfl, rfl⟩ := hq2
    have z2 := b1_iff e2
    refine go_if_ne (tgt := 34) dX7_parts_25 rfl (fun h25 => ?_) (fun h25 => ?_)
    · refine go_iload_n dX7_parts_34 rfl ?_
      refine go_iconst dX7_parts_35 (R32_lit rfl) ?_
      refine go_icmp_lt (tgt := 53) dX7_parts_36 rfl (fun h36 => ?_) (fun h36 => ?_)
      · refine go_aload_n dX7_parts_53 rfl rfl ?_
        refine go_iconst dX7_parts_54 (R32_lit rfl) ?_
        refine v7_74 dX7_parts_55 rfl ⟨rfl, rfl⟩ ⟨rfl, rfl⟩ ct_X7_none (fun r9 M9 N9 hr9 hq9 => ?_)
        refine go_reti dX7_parts_58 ?_
        obtain ⟨y1, y2, rfl⟩ := hq9
        exact ⟨Or.inr (Or.inl ⟨by omega, y1, y2⟩), rfl⟩
      · refine go_iload_n dX7_parts_39 rfl ?_
        refine go_sipush dX7_parts_40 ⟨by decide, by decide⟩ ?_
        refine go_icmp_gt (tgt := 53) dX7_parts_43 rfl (fun h43 => ?_) (fun h43 => ?_)
        · refine go_aload_n dX7_parts_53 rfl rfl ?_
          refine go_iconst dX7_parts_54 (R32_lit rfl) ?_
          refine v7_74 dX7_parts_55 rfl ⟨rfl, rfl⟩ ⟨rfl, rfl⟩ ct_X7_none (fun r9 M9 N9 hr9 hq9 => ?_)
          refine go_reti dX7_parts_58 ?_
          obtain ⟨y1, y2, rfl⟩ := hq9
          exact ⟨Or.inr (Or.inl ⟨by omega, y1, y2⟩), rfl⟩
        · refine go_iload_n dX7_parts_46 rfl ?_
          refine v7_244 dX7_parts_47 rfl ⟨rfl, rfl⟩ ⟨rfl, rfl⟩ ct_X7_isSeed (fun r3 M3 N3 hr3 hq3 => ?_)
          obtain ⟨e3, rfl, rfl⟩ := hq3
          have z3 := b1_iff e3
          refine go_if_ne (tgt := 59) dX7_parts_50 rfl (fun h50 => ?_) (fun h50 => ?_)
          · have hkv := (hK v (by omega) (by omega))
            refine go_aload_n dX7_parts_59 rfl rfl ?_
            refine go_iconst dX7_parts_60 (R32_lit rfl) ?_
            refine p7_61 dX7_parts_61 ?_
            refine go_aload_n dX7_parts_64 rfl rfl ?_
            refine g7_43 dX7_parts_65 ?_
            refine go_aload_n dX7_parts_68 rfl rfl ?_
            refine g7_50 dX7_parts_69 ?_
            rw [hC]
            refine go_iload_n dX7_parts_72 rfl ?_
            refine go_iload_n dX7_parts_73 rfl ?_
            refine go_iload_n dX7_parts_74 rfl ?_
            refine v7_262 dX7_parts_75 rfl ⟨rfl, rfl⟩ ⟨rfl, rfl⟩ (ct_X6_firstParting hkv.tr (by rw [pg_tr]; omega) (by omega) (by omega) (by omega) (by omega)) (fun r4 M4 N4 hr4 hq4 => ?_)
            refine go_reti dX7_parts_78 ?_
            obtain ⟨t1, t2, rfl⟩ := hq4
            rw [pg_tr, IW_tr (by decide)] at t1
            exact ⟨Or.inl ⟨by omega, t1, t2⟩, rfl⟩
          · refine go_aload_n dX7_parts_53 rfl rfl ?_
            refine go_iconst dX7_parts_54 (R32_lit rfl) ?_
            refine v7_74 dX7_parts_55 rfl ⟨rfl, rfl⟩ ⟨rfl, rfl⟩ ct_X7_none (fun r9 M9 N9 hr9 hq9 => ?_)
            refine go_reti dX7_parts_58 ?_
            obtain ⟨y1, y2, rfl⟩ := hq9
            exact ⟨Or.inr (Or.inl ⟨by omega, y1, y2⟩), rfl⟩
    · refine go_aload_n dX7_parts_28 rfl rfl ?_
      refine go_iconst dX7_parts_29 (R32_lit rfl) ?_
      refine v7_74 dX7_parts_30 rfl ⟨rfl, rfl⟩ ⟨rfl, rfl⟩ ct_X7_none (fun r9 M9 N9 hr9 hq9 => ?_)
      refine go_reti dX7_parts_33 ?_
      obtain ⟨y1, y2, rfl⟩ := hq9
      exact ⟨Or.inr (Or.inr (Or.inl ⟨by omega, y1, y2⟩)), rfl⟩
  · refine go_aload_n dX7_parts_11 rfl rfl ?_
    refine go_iconst dX7_parts_12 (R32_lit rfl) ?_
    refine v7_74 dX7_parts_13 rfl ⟨rfl, rfl⟩ ⟨rfl, rfl⟩ ct_X7_none (fun r9 M9 N9 hr9 hq9 => ?_)
    refine go_reti dX7_parts_16 ?_
    obtain ⟨y1, y2, rfl⟩ := hq9
    exact ⟨Or.inr (Or.inr (Or.inr (⟨by omega, y1, y2⟩))), rfl⟩
