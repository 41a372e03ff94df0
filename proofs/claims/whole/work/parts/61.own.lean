set_option maxRecDepth 100000 in
set_option maxHeartbeats 4000000 in
theorem ct_X7_operand {E : Ev} {M : Mm} {N : Nn} {p : Nat} {v k : Int} (hC : N (3, 0, 0) 6 = (18, p, 0)) (hc : (pgC M p) 11 0 ≤ 15) : Ct E yX7_operand cX7_operand 3 ((some .int)) (rmH 3) [vr (3, 0, 0), vi v, vi k] M N (qi (fun r M1 N1 => ((0 ≤ v ∧ v < (pgC M p) 11 0 ∧ (pgC M p) 0 v ≠ -2 ∧ 0 ≤ k ∧ k < opn (pgC M p) v) ∧ r = (pgC M p) 8 (4 * v + k) ∧ M1 = tr M 0 ∨ ¬ (0 ≤ v ∧ v < (pgC M p) 11 0 ∧ (pgC M p) 0 v ≠ -2 ∧ 0 ≤ k ∧ k < opn (pgC M p) v) ∧ r = -1 ∧ M1 = tr M 1) ∧ N = N1)) := by
  refine ct_of (own := RX7) (L0 := [vr (3, 0, 0), vi v, vi k]) rfl (by decide +kernel) rfl rfl ?_
  refine go_aload_n dX7_operand_0 rfl rfl ?_
  refine g7_50 dX7_operand_1 ?_
  rw [hC]
  refine go_iload_n dX7_operand_4 rfl ?_
  refine v7_147 dX7_operand_5 rfl ⟨rfl, rfl⟩ ⟨rfl, rfl⟩ (ct_X3_isStep hc) (fun r1 M1 N1 hr1 hq1 => ?_)
  obtain ⟨e1, rfl, rfl⟩ := hq1
  have z1 := b1_iff e1
  refine go_if_eq (tgt := 27) dX7_operand_8 rfl (fun h8 => ?_) (fun h8 => ?_)
  · refine go_aload_n dX7_operand_27 rfl rfl ?_
    refine go_iconst dX7_operand_28 (R32_lit rfl) ?_
    refine v7_74 dX7_operand_29 rfl ⟨rfl, rfl⟩ ⟨rfl, rfl⟩ ct_X7_none (fun r9 M9 N9 hr9 hq9 => ?_)
    refine go_reti dX7_operand_32 ?_
    obtain ⟨y1, y2, rfl⟩ := hq9
    exact ⟨Or.inr ⟨by omega, y1, y2⟩, rfl⟩
  · refine go_iload_n dX7_operand_11 rfl ?_
    refine go_if_lt (tgt := 27) dX7_operand_12 rfl (fun h12 => ?_) (fun h12 => ?_)
    · refine go_aload_n dX7_operand_27 rfl rfl ?_
      refine go_iconst dX7_operand_28 (R32_lit rfl) ?_
      refine v7_74 dX7_operand_29 rfl ⟨rfl, rfl⟩ ⟨rfl, rfl⟩ ct_X7_none (fun r9 M9 N9 hr9 hq9 => ?_)
      refine go_reti dX7_operand_32 ?_
      obtain ⟨y1, y2, rfl⟩ := hq9
      exact ⟨Or.inr ⟨by omega, y1, y2⟩, rfl⟩
    · refine go_iload_n dX7_operand_15 rfl ?_
      refine go_aload_n dX7_operand_16 rfl rfl ?_
      refine g7_50 dX7_operand_17 ?_
      rw [hC]
      refine go_iload_n dX7_operand_20 rfl ?_
      refine v7_150 dX7_operand_21 rfl ⟨rfl, rfl⟩ ⟨rfl, rfl⟩ (ct_X3_operands hc) (fun r2 M2 N2 hr2 hq2 => ?_)
      obtain ⟨e2, rfl, rfl⟩ := hq2
      have z2 : 0 ≤ v → v < (pgC M p) 11 0 → r2 = opn (pgC M p) v := fun a b => by
        rw [e2]
        unfold opn
        by_cases h : (pgC M p) 0 v = 3
        · rw [if_pos ⟨a, b, h⟩, if_pos h]
        · rw [if_neg (fun y => h y.2.2), if_neg h]
      refine go_icmp_lt (tgt := 33) dX7_operand_24 rfl (fun h24 => ?_) (fun h24 => ?_)
      · have ho4 : opn (pgC M p) v = 4 ∨ opn (pgC M p) v = 2 := by unfold opn; split; exact Or.inl rfl; exact Or.inr rfl
        refine go_aload_n dX7_operand_33 rfl rfl ?_
        refine go_iconst dX7_operand_34 (R32_lit rfl) ?_
        refine p7_61 dX7_operand_35 ?_
        refine go_aload_n dX7_operand_38 rfl rfl ?_
        refine g7_50 dX7_operand_39 ?_
        rw [hC]
        refine g7_153 dX7_operand_42 ?_
        refine go_iload_n dX7_operand_45 rfl ?_
        refine go_iconst dX7_operand_46 (R32_lit rfl) ?_
        refine go_imulc dX7_operand_47 ⟨by omega, by omega⟩ ?_
        refine go_iload_n dX7_operand_48 rfl ?_
        refine go_iaddc dX7_operand_49 ⟨by omega, by omega⟩ ?_
        refine go_iald dX7_operand_50 rfl (by omega) (by omega) ?_
        rw [wr_nf (nm_ne1 (by decide)), show v * 4 + k = 4 * v + k by omega]
        exact go_reti dX7_operand_51 ⟨Or.inl ⟨by omega, rfl, rfl⟩, rfl⟩
      · refine go_aload_n dX7_operand_27 rfl rfl ?_
        refine go_iconst dX7_operand_28 (R32_lit rfl) ?_
        refine v7_74 dX7_operand_29 rfl ⟨rfl, rfl⟩ ⟨rfl, rfl⟩ ct_X7_none (fun r9 M9 N9 hr9 hq9 => ?_)
        refine go_reti dX7_operand_32 ?_
        obtain ⟨y1, y2, rfl⟩ := hq9
        exact ⟨Or.inr ⟨by omega, y1, y2⟩, rfl⟩
set_option maxRecDepth 100000 in
set_option maxHeartbeats 4000000 in
theorem ct_X7_set {E : Ev} {M : Mm} {N : Nn} {p : Nat} {v k : Int} (hC : N (3, 0, 0) 6 = (18, p, 0)) (hc : (pgC M p) 11 0 ≤ 15) : Ct E yX7_set cX7_set 3 ((some .boolean)) (rmH 3) [vr (3, 0, 0), vi v, vi k] M N (qi (fun r M1 N1 => ((0 ≤ v ∧ v < (pgC M p) 11 0 ∧ (pgC M p) 0 v = -2 ∧ (pgC M p) 2 v ≤ k ∧ k ≤ (pgC M p) 3 v) ∧ r = 1 ∧ M1 = wr (tr M 0) (5, 0, 0) v k ∨ (0 ≤ v ∧ v < (pgC M p) 11 0 ∧ (pgC M p) 0 v = -2 ∧ ¬ ((pgC M p) 2 v ≤ k ∧ k ≤ (pgC M p) 3 v)) ∧ r = 0 ∧ M1 = tr M 2 ∨ ¬ (0 ≤ v ∧ v < (pgC M p) 11 0 ∧ (pgC M p) 0 v = -2) ∧ r = 0 ∧ M1 = tr M 1) ∧ N = N1)) := by
  refine ct_of (own := RX7) (L0 := [vr (3, 0, 0), vi v, vi k]) rfl (by decide +kernel) rfl rfl ?_
  have e2 : M (19, p, 2) v = (pgC M p) 2 v := rfl
  have e3 : M (19, p, 3) v = (pgC M p) 3 v := rfl
  refine go_aload_n dX7_set_0 rfl rfl ?_
  refine g7_50 dX7_set_1 ?_
  rw [hC]
  refine go_iload_n dX7_set_4 rfl ?_
  refine v7_126 dX7_set_5 rfl ⟨rfl, rfl⟩ ⟨rfl, rfl⟩ (ct_X3_isInput hc) (fun r1 M1 N1 hr1 hq1 => ?_)
  obtain ⟨e1, rfl, rfl⟩ := hq1
  have z1 := b1_iff e1
  refine go_if_ne (tgt := 17) dX7_set_8 rfl (fun h8 => ?_) (fun h8 => ?_)
  · refine go_iload_n dX7_set_17 rfl ?_
    refine go_aload_n dX7_set_18 rfl rfl ?_
    refine g7_50 dX7_set_19 ?_
    rw [hC]
    refine g7_93 dX7_set_22 ?_
    refine go_iload_n dX7_set_25 rfl ?_
    refine go_iald dX7_set_26 rfl (by omega) (by omega) ?_
    rw [e2]
    refine go_icmp_lt (tgt := 43) dX7_set_27 rfl (fun h27 => ?_) (fun h27 => ?_)
    · refine go_aload_n dX7_set_43 rfl rfl ?_
      refine go_iconst dX7_set_44 (R32_lit rfl) ?_
      refine v7_156 dX7_set_45 rfl ⟨rfl, rfl⟩ ⟨rfl, rfl⟩ ct_X7_refused (fun r9 M9 N9 hr9 hq9 => ?_)
      refine go_retz dX7_set_48 (by first | exact Or.inl rfl | exact Or.inr rfl | omega) ?_
      obtain ⟨y1, y2, rfl⟩ := hq9
      exact ⟨Or.inr (Or.inl ⟨by omega, y1, y2⟩), rfl⟩
    · refine go_iload_n dX7_set_30 rfl ?_
      refine go_aload_n dX7_set_31 rfl rfl ?_
      refine g7_50 dX7_set_32 ?_
      rw [hC]
      refine g7_129 dX7_set_35 ?_
      refine go_iload_n dX7_set_38 rfl ?_
      refine go_iald dX7_set_39 rfl (by omega) (by omega) ?_
      rw [e3]
      refine go_icmp_le (tgt := 49) dX7_set_40 rfl (fun h40 => ?_) (fun h40 => ?_)
      · refine go_aload_n dX7_set_49 rfl rfl ?_
        refine go_iconst dX7_set_50 (R32_lit rfl) ?_
        refine p7_61 dX7_set_51 ?_
        refine go_aload_n dX7_set_54 rfl rfl ?_
        refine g7_15 dX7_set_55 ?_
        refine go_iload_n dX7_set_58 rfl ?_
        refine go_iload_n dX7_set_59 rfl ?_
        refine go_iast dX7_set_60 rfl (by omega) (by omega) ?_
        refine go_iconst dX7_set_61 (R32_lit rfl) ?_
        exact go_retz dX7_set_62 (by first | exact Or.inl rfl | exact Or.inr rfl | omega) ⟨Or.inl ⟨by omega, rfl, rfl⟩, rfl⟩
      · refine go_aload_n dX7_set_43 rfl rfl ?_
        refine go_iconst dX7_set_44 (R32_lit rfl) ?_
        refine v7_156 dX7_set_45 rfl ⟨rfl, rfl⟩ ⟨rfl, rfl⟩ ct_X7_refused (fun r9 M9 N9 hr9 hq9 => ?_)
        refine go_retz dX7_set_48 (by first | exact Or.inl rfl | exact Or.inr rfl | omega) ?_
        obtain ⟨y1, y2, rfl⟩ := hq9
        exact ⟨Or.inr (Or.inl ⟨by omega, y1, y2⟩), rfl⟩
  · refine go_aload_n dX7_set_11 rfl rfl ?_
    refine go_iconst dX7_set_12 (R32_lit rfl) ?_
    refine v7_156 dX7_set_13 rfl ⟨rfl, rfl⟩ ⟨rfl, rfl⟩ ct_X7_refused (fun r9 M9 N9 hr9 hq9 => ?_)
    refine go_retz dX7_set_16 (by first | exact Or.inl rfl | exact Or.inr rfl | omega) ?_
    obtain ⟨y1, y2, rfl⟩ := hq9
    exact ⟨Or.inr (Or.inr ⟨by omega, y1, y2⟩), rfl⟩
set_option maxRecDepth 100000 in
set_option maxHeartbeats 4000000 in
theorem ct_X7_may {E : Ev} {M : Mm} {N : Nn} {p : Nat} {v : Int} {φ : Nat → FV} {ν : Nu} {ma : Int → Int} (hC : N (3, 0, 0) 6 = (18, p, 0)) (hc : (pgC M p) 11 0 ≤ 15) (hF : FS M 0 φ ν ma) : Ct E yX7_may cX7_may 2 ((some .int)) (rmH 3) [vr (3, 0, 0), vi v] M N (qi (fun r M1 N1 => ((0 ≤ v ∧ v < (pgC M p) 11 0 ∧ (pgC M p) 0 v = 3) ∧ r = ma v ∧ M1 = tr M 0 ∨ (0 ≤ v ∧ v < (pgC M p) 11 0 ∧ (pgC M p) 0 v ≠ -2 ∧ (pgC M p) 0 v ≠ 3) ∧ r = -1 ∧ M1 = tr M 5 ∨ (¬ (0 ≤ v ∧ v < (pgC M p) 11 0 ∧ (pgC M p) 0 v ≠ -2)) ∧ r = -1 ∧ M1 = tr M 1) ∧ N = N1)) := by
  refine ct_of (own := RX7) (L0 := [vr (3, 0, 0), vi v]) rfl (by decide +kernel) rfl rfl ?_
  refine go_aload_n dX7_may_0 rfl rfl ?_
  refine g7_50 dX7_may_1 ?_
  rw [hC]
  refine go_iload_n dX7_may_4 rfl ?_
  refine v7_147 dX7_may_5 rfl ⟨rfl, rfl⟩ ⟨rfl, rfl⟩ (ct_X3_isStep hc) (fun r1 M1 N1 hr1 hq1 => ?_)
  obtain ⟨e1, rfl, rfl⟩ := hq1
  have z1 := b1_iff e1
  refine go_if_ne (tgt := 17) dX7_may_8 rfl (fun h8 => ?_) (fun h8 => ?_)
  · refine go_aload_n dX7_may_17 rfl rfl ?_
    refine g7_50 dX7_may_18 ?_
    rw [hC]
    refine go_iload_n dX7_may_21 rfl ?_
    refine v7_175 dX7_may_22 rfl ⟨rfl, rfl⟩ ⟨rfl, rfl⟩ (ct_X3_isPick hc) (fun r2 M2 N2 hr2 hq2 => ?_)
    obtain ⟨e2, rfl, rfl⟩ := hq2
    have z2 := b1_iff e2
    refine go_if_ne (tgt := 34) dX7_may_25 rfl (fun h25 => ?_) (fun h25 => ?_)
    · refine go_aload_n dX7_may_34 rfl rfl ?_
      refine go_iconst dX7_may_35 (R32_lit rfl) ?_
      refine p7_61 dX7_may_36 ?_
      refine go_aload_n dX7_may_39 rfl rfl ?_
      refine g7_29 dX7_may_40 ?_
      refine g7_224 dX7_may_43 ?_
      refine go_iload_n dX7_may_46 rfl ?_
      refine go_iald dX7_may_47 rfl (by omega) (by omega) ?_
      rw [wr_nf (nm_ne1 (by decide)), hF.2.2.2.2.2.1 v (by omega) (by omega)]
      exact go_reti dX7_may_48 ⟨Or.inl ⟨by omega, rfl, rfl⟩, rfl⟩
    · refine go_aload_n dX7_may_28 rfl rfl ?_
      refine go_iconst dX7_may_29 (R32_lit rfl) ?_
      refine v7_74 dX7_may_30 rfl ⟨rfl, rfl⟩ ⟨rfl, rfl⟩ ct_X7_none (fun r9 M9 N9 hr9 hq9 => ?_)
      refine go_reti dX7_may_33 ?_
      obtain ⟨y1, y2, rfl⟩ := hq9
      exact ⟨Or.inr (Or.inl ⟨by omega, y1, y2⟩), rfl⟩
  · refine go_aload_n dX7_may_11 rfl rfl ?_
    refine go_iconst dX7_may_12 (R32_lit rfl) ?_
    refine v7_74 dX7_may_13 rfl ⟨rfl, rfl⟩ ⟨rfl, rfl⟩ ct_X7_none (fun r9 M9 N9 hr9 hq9 => ?_)
    refine go_reti dX7_may_16 ?_
    obtain ⟨y1, y2, rfl⟩ := hq9
    exact ⟨Or.inr (Or.inr ⟨by omega, y1, y2⟩), rfl⟩
