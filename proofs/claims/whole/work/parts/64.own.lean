set_option maxRecDepth 100000 in
set_option maxHeartbeats 4000000 in
theorem ct_X7_reach {E : Ev} {M : Mm} {N : Nn} {p : Nat} {v d w : Int} {φ : Nat → FV} {ν : Nu} {ma : Int → Int} (hC : N (3, 0, 0) 6 = (18, p, 0)) (hc : (pgC M p) 11 0 ≤ 15) (hF : FS M 0 φ ν ma) : Ct E yX7_reach cX7_reach 5 ((some .long)) (rmH 3) [vr (3, 0, 0), vi v, vi d, vi w] M N (ql (fun r M1 N1 => ((0 ≤ v ∧ v < (pgC M p) 11 0 ∧ 0 ≤ w ∧ w ≤ 2) ∧ r = (if w = 0 then flo (φ (if d = 0 then v.toNat else 15 + v.toNat)) else if w = 1 then fhi (φ (if d = 0 then v.toNat else 15 + v.toNat)) else fra (φ (if d = 0 then v.toNat else 15 + v.toNat))) ∧ M1 = tr M 0 ∨ ¬ (0 ≤ v ∧ v < (pgC M p) 11 0 ∧ 0 ≤ w ∧ w ≤ 2) ∧ r = -9223372036854775808 ∧ M1 = tr M 1) ∧ N = N1)) := by
  refine ct_of (own := RX7) (L0 := [vr (3, 0, 0), vi v, vi d, vi w, vn]) rfl (by decide +kernel) rfl rfl ?_
  refine go_aload_n dX7_reach_0 rfl rfl ?_
  refine g7_50 dX7_reach_1 ?_
  rw [hC]
  refine go_iload_n dX7_reach_4 rfl ?_
  refine v7_118 dX7_reach_5 rfl ⟨rfl, rfl⟩ ⟨rfl, rfl⟩ ct_X3_has (fun r1 M1 N1 hr1 hq1 => ?_)
  obtain ⟨e1, rfl, rfl⟩ := hq1
  have z1 := b1_iff e1
  refine go_if_eq (tgt := 20) dX7_reach_8 rfl (fun h8 => ?_) (fun h8 => ?_)
  · refine go_aload_n dX7_reach_20 rfl rfl ?_
    refine go_iconst dX7_reach_21 (R32_lit rfl) ?_
    refine v7_122 dX7_reach_22 rfl ⟨rfl, rfl⟩ ⟨rfl, rfl⟩ ct_X7_nothing (fun r9 M9 N9 hr9 hq9 => ?_)
    refine go_retl dX7_reach_25 ?_
    obtain ⟨y1, y2, rfl⟩ := hq9
    exact ⟨Or.inr ⟨by omega, y1, y2⟩, rfl⟩
  · refine go_iload_n dX7_reach_11 rfl ?_
    refine go_if_lt (tgt := 20) dX7_reach_12 rfl (fun h12 => ?_) (fun h12 => ?_)
    · refine go_aload_n dX7_reach_20 rfl rfl ?_
      refine go_iconst dX7_reach_21 (R32_lit rfl) ?_
      refine v7_122 dX7_reach_22 rfl ⟨rfl, rfl⟩ ⟨rfl, rfl⟩ ct_X7_nothing (fun r9 M9 N9 hr9 hq9 => ?_)
      refine go_retl dX7_reach_25 ?_
      obtain ⟨y1, y2, rfl⟩ := hq9
      exact ⟨Or.inr ⟨by omega, y1, y2⟩, rfl⟩
    · refine go_iload_n dX7_reach_15 rfl ?_
      refine go_iconst dX7_reach_16 (R32_lit rfl) ?_
      refine go_icmp_le (tgt := 26) dX7_reach_17 rfl (fun h17 => ?_) (fun h17 => ?_)
      · refine go_aload_n dX7_reach_26 rfl rfl ?_
        refine go_iconst dX7_reach_27 (R32_lit rfl) ?_
        refine p7_61 dX7_reach_28 ?_
        refine go_aload_n dX7_reach_31 rfl rfl ?_
        refine g7_29 dX7_reach_32 ?_
        refine go_iload_n dX7_reach_35 rfl ?_
        refine go_iload_n dX7_reach_36 rfl ?_
        refine v7_182 dX7_reach_37 rfl ⟨rfl, rfl⟩ ⟨rfl, rfl⟩ (ct_X1_formOf (by omega) (by omega)) (fun r2 M2 N2 hq2 => ?_)
        obtain ⟨rfl, rfl, rfl⟩ := hq2
        have hj : (if d = 0 then v.toNat else 15 + v.toNat) < 39 := by split <;> omega
        have hI := (hF.tr (k := 0)).fi hj
        generalize (if d = 0 then v.toNat else 15 + v.toNat) = j at *
        refine go_ast4 dX7_reach_40 rfl rfl rfl ?_
        refine go_iload_n dX7_reach_42 rfl ?_
        have hw3 : w = 0 ∨ w = 1 ∨ w = 2 := by omega
        rcases hw3 with hw | hw | hw
        · subst hw
          refine go_look (off := 25) (tgt := 68) dX7_reach_43 (by decide) (by decide) rfl ?_
          refine go_aload dX7_reach_68 rfl rfl ?_
          refine v7_195 dX7_reach_70 rfl ⟨rfl, rfl⟩ ⟨rfl, rfl⟩ (ct_X0_least hI) (fun r3 M3 N3 hr3 hq3 => ?_)
          refine go_retl dX7_reach_73 ?_
          obtain ⟨y1, rfl, rfl⟩ := hq3
          refine ⟨Or.inl ⟨by omega, ?_, rfl⟩, rfl⟩
          rw [if_pos rfl]; exact y1
        · subst hw
          refine go_look (off := 31) (tgt := 74) dX7_reach_43 (by decide) (by decide) rfl ?_
          refine go_aload dX7_reach_74 rfl rfl ?_
          refine v7_198 dX7_reach_76 rfl ⟨rfl, rfl⟩ ⟨rfl, rfl⟩ (ct_X0_greatest hI) (fun r3 M3 N3 hr3 hq3 => ?_)
          refine go_retl dX7_reach_79 ?_
          obtain ⟨y1, rfl, rfl⟩ := hq3
          refine ⟨Or.inl ⟨by omega, ?_, rfl⟩, rfl⟩
          rw [if_neg (by decide), if_pos rfl]; exact y1
        · subst hw
          refine go_look (off := 37) (tgt := 80) dX7_reach_43 (by decide) (by decide) rfl ?_
          refine go_aload dX7_reach_80 rfl rfl ?_
          refine v7_201 dX7_reach_82 rfl ⟨rfl, rfl⟩ ⟨rfl, rfl⟩ (cr_radius hI) (fun r3 M3 N3 hr3 hq3 => ?_)
          refine go_retl dX7_reach_85 ?_
          obtain ⟨y1, rfl, rfl⟩ := hq3
          refine ⟨Or.inl ⟨by omega, ?_, rfl⟩, rfl⟩
          rw [if_neg (by decide), if_neg (by decide)]; exact y1
      · refine go_aload_n dX7_reach_20 rfl rfl ?_
        refine go_iconst dX7_reach_21 (R32_lit rfl) ?_
        refine v7_122 dX7_reach_22 rfl ⟨rfl, rfl⟩ ⟨rfl, rfl⟩ ct_X7_nothing (fun r9 M9 N9 hr9 hq9 => ?_)
        refine go_retl dX7_reach_25 ?_
        obtain ⟨y1, y2, rfl⟩ := hq9
        exact ⟨Or.inr ⟨by omega, y1, y2⟩, rfl⟩
set_option maxRecDepth 100000 in
set_option maxHeartbeats 4000000 in
theorem ct_X7_variable {E : Ev} {M : Mm} {N : Nn} {p : Nat} {v w : Int} (hC : N (3, 0, 0) 6 = (18, p, 0)) (hc : (pgC M p) 11 0 ≤ 15) : Ct E yX7_variable cX7_variable 4 ((some .long)) (rmH 3) [vr (3, 0, 0), vi v, vi w] M N (ql (fun r M1 N1 => ((0 ≤ v ∧ v < (pgC M p) 11 0 ∧ 0 ≤ w ∧ w ≤ 6) ∧ r = (if w = 0 then (if (pgC M p) 0 v = -2 then 1 else 0) else if w = 1 then (if (pgC M p) 0 v = -2 then (pgC M p) 2 v else 0) else if w = 2 then (if (pgC M p) 0 v = -2 then (pgC M p) 3 v else 0) else if w = 3 then (pgC M p) 0 v else if w = 4 then (if (pgC M p) 0 v = -2 then -2 else (pgC M p) 4 v) else if w = 5 then (pgC M p) 5 v else (pgC M p) 6 v) ∧ M1 = tr M 0 ∨ ¬ (0 ≤ v ∧ v < (pgC M p) 11 0 ∧ 0 ≤ w ∧ w ≤ 6) ∧ r = -9223372036854775808 ∧ M1 = tr M 1) ∧ N = N1)) := by
  refine ct_of (own := RX7) (L0 := [vr (3, 0, 0), vi v, vi w, vn]) rfl (by decide +kernel) rfl rfl ?_
  refine go_aload_n dX7_variable_0 rfl rfl ?_
  refine g7_50 dX7_variable_1 ?_
  rw [hC]
  refine go_iload_n dX7_variable_4 rfl ?_
  refine v7_118 dX7_variable_5 rfl ⟨rfl, rfl⟩ ⟨rfl, rfl⟩ ct_X3_has (fun r1 M1 N1 hr1 hq1 => ?_)
  obtain ⟨e1, rfl, rfl⟩ := hq1
  have z1 := b1_iff e1
  refine go_if_eq (tgt := 21) dX7_variable_8 rfl (fun h8 => ?_) (fun h8 => ?_)
  · refine go_aload_n dX7_variable_21 rfl rfl ?_
    refine go_iconst dX7_variable_22 (R32_lit rfl) ?_
    refine v7_122 dX7_variable_23 rfl ⟨rfl, rfl⟩ ⟨rfl, rfl⟩ ct_X7_nothing (fun r9 M9 N9 hr9 hq9 => ?_)
    refine go_retl dX7_variable_26 ?_
    obtain ⟨y1, y2, rfl⟩ := hq9
    exact ⟨Or.inr ⟨by omega, y1, y2⟩, rfl⟩
  · refine go_iload_n dX7_variable_11 rfl ?_
    refine go_if_lt (tgt := 21) dX7_variable_12 rfl (fun h12 => ?_) (fun h12 => ?_)
    · refine go_aload_n dX7_variable_21 rfl rfl ?_
      refine go_iconst dX7_variable_22 (R32_lit rfl) ?_
      refine v7_122 dX7_variable_23 rfl ⟨rfl, rfl⟩ ⟨rfl, rfl⟩ ct_X7_nothing (fun r9 M9 N9 hr9 hq9 => ?_)
      refine go_retl dX7_variable_26 ?_
      obtain ⟨y1, y2, rfl⟩ := hq9
      exact ⟨Or.inr ⟨by omega, y1, y2⟩, rfl⟩
    · refine go_iload_n dX7_variable_15 rfl ?_
      refine go_bipush dX7_variable_16 ⟨by decide, by decide⟩ ?_
      refine go_icmp_le (tgt := 27) dX7_variable_18 rfl (fun h18 => ?_) (fun h18 => ?_)
      · refine go_aload_n dX7_variable_27 rfl rfl ?_
        refine go_iconst dX7_variable_28 (R32_lit rfl) ?_
        refine p7_61 dX7_variable_29 ?_
        refine go_aload_n dX7_variable_32 rfl rfl ?_
        refine g7_50 dX7_variable_33 ?_
        rw [hC]
        refine go_iload_n dX7_variable_36 rfl ?_
        refine v7_126 dX7_variable_37 rfl ⟨rfl, rfl⟩ ⟨rfl, rfl⟩ (ct_X3_isInput (by rw [pg_tr]; exact hc)) (fun r2 M2 N2 hr2 hq2 => ?_)
        obtain ⟨e2, rfl, rfl⟩ := hq2
        rw [pg_tr] at e2
        have z2 := b1_iff e2
        refine go_ist3 dX7_variable_40 rfl rfl ?_
        refine go_iload_n dX7_variable_41 rfl ?_
        have hw7 : w = 0 ∨ w = 1 ∨ w = 2 ∨ w = 3 ∨ w = 4 ∨ w = 5 ∨ w = 6 := by omega
        rcases hw7 with hw | hw | hw | hw | hw | hw | hw
        · subst hw
          refine go_tableIn (off := 38) (tgt := 80) dX7_variable_42 (by decide) (by decide) rfl rfl ?_
          refine go_iload_n dX7_variable_80 rfl ?_
          refine go_if_eq (tgt := 88) dX7_variable_81 rfl (fun h81 => ?_) (fun h81 => ?_)
          · refine go_lconst (x := 0) dX7_variable_88 rfl ?_
            refine go_retl dX7_variable_89 ?_
            refine ⟨Or.inl ⟨by omega, ?_, rfl⟩, rfl⟩
            rw [if_pos rfl]
            first
            | (rw [if_pos (by omega)]; done)
            | (rw [if_neg (by omega)]; done)
            | (rw [if_pos (by omega), wr_nn (nm_ne1 (by decide))]; rfl)
            | (rw [if_neg (by omega), wr_nn (nm_ne1 (by decide))]; rfl)
          · refine go_lconst (x := 1) dX7_variable_84 rfl ?_
            refine go_goto (tgt := 89) dX7_variable_85 rfl ?_
            refine go_retl dX7_variable_89 ?_
            refine ⟨Or.inl ⟨by omega, ?_, rfl⟩, rfl⟩
            rw [if_pos rfl]
            first
            | (rw [if_pos (by omega)]; done)
            | (rw [if_neg (by omega)]; done)
            | (rw [if_pos (by omega), wr_nn (nm_ne1 (by decide))]; rfl)
            | (rw [if_neg (by omega), wr_nn (nm_ne1 (by decide))]; rfl)
        · subst hw
          refine go_tableIn (off := 48) (tgt := 90) dX7_variable_42 (by decide) (by decide) rfl rfl ?_
          refine go_iload_n dX7_variable_90 rfl ?_
          refine go_if_eq (tgt := 107) dX7_variable_91 rfl (fun h91 => ?_) (fun h91 => ?_)
          · refine go_lconst (x := 0) dX7_variable_107 rfl ?_
            refine go_retl dX7_variable_108 ?_
            refine ⟨Or.inl ⟨by omega, ?_, rfl⟩, rfl⟩
            rw [if_neg (by decide), if_pos rfl]
            first
            | (rw [if_pos (by omega)]; done)
            | (rw [if_neg (by omega)]; done)
            | (rw [if_pos (by omega), wr_nn (nm_ne1 (by decide))]; rfl)
            | (rw [if_neg (by omega), wr_nn (nm_ne1 (by decide))]; rfl)
          · refine go_aload_n dX7_variable_94 rfl rfl ?_
            refine g7_50 dX7_variable_95 ?_
            rw [hC]
            refine g7_93 dX7_variable_98 ?_
            refine go_iload_n dX7_variable_101 rfl ?_
            refine go_iald dX7_variable_102 rfl (by omega) (by omega) ?_
            refine go_i2l dX7_variable_103 ?_
            refine go_goto (tgt := 108) dX7_variable_104 rfl ?_
            refine go_retl dX7_variable_108 ?_
            refine ⟨Or.inl ⟨by omega, ?_, rfl⟩, rfl⟩
            rw [if_neg (by decide), if_pos rfl]
            first
            | (rw [if_pos (by omega)]; done)
            | (rw [if_neg (by omega)]; done)
            | (rw [if_pos (by omega), wr_nn (nm_ne1 (by decide))]; rfl)
            | (rw [if_neg (by omega), wr_nn (nm_ne1 (by decide))]; rfl)
        · subst hw
          refine go_tableIn (off := 67) (tgt := 109) dX7_variable_42 (by decide) (by decide) rfl rfl ?_
          refine go_iload_n dX7_variable_109 rfl ?_
          refine go_if_eq (tgt := 126) dX7_variable_110 rfl (fun h110 => ?_) (fun h110 => ?_)
          · refine go_lconst (x := 0) dX7_variable_126 rfl ?_
            refine go_retl dX7_variable_127 ?_
            refine ⟨Or.inl ⟨by omega, ?_, rfl⟩, rfl⟩
            rw [if_neg (by decide), if_neg (by decide), if_pos rfl]
            first
            | (rw [if_pos (by omega)]; done)
            | (rw [if_neg (by omega)]; done)
            | (rw [if_pos (by omega), wr_nn (nm_ne1 (by decide))]; rfl)
            | (rw [if_neg (by omega), wr_nn (nm_ne1 (by decide))]; rfl)
          · refine go_aload_n dX7_variable_113 rfl rfl ?_
            refine g7_50 dX7_variable_114 ?_
            rw [hC]
            refine g7_129 dX7_variable_117 ?_
            refine go_iload_n dX7_variable_120 rfl ?_
            refine go_iald dX7_variable_121 rfl (by omega) (by omega) ?_
            refine go_i2l dX7_variable_122 ?_
            refine go_goto (tgt := 127) dX7_variable_123 rfl ?_
            refine go_retl dX7_variable_127 ?_
            refine ⟨Or.inl ⟨by omega, ?_, rfl⟩, rfl⟩
            rw [if_neg (by decide), if_neg (by decide), if_pos rfl]
            first
            | (rw [if_pos (by omega)]; done)
            | (rw [if_neg (by omega)]; done)
            | (rw [if_pos (by omega), wr_nn (nm_ne1 (by decide))]; rfl)
            | (rw [if_neg (by omega), wr_nn (nm_ne1 (by decide))]; rfl)
        · subst hw
          refine go_tableIn (off := 86) (tgt := 128) dX7_variable_42 (by decide) (by decide) rfl rfl ?_
          refine go_aload_n dX7_variable_128 rfl rfl ?_
          refine g7_50 dX7_variable_129 ?_
          rw [hC]
          refine g7_132 dX7_variable_132 ?_
          refine go_iload_n dX7_variable_135 rfl ?_
          refine go_iald dX7_variable_136 rfl (by omega) (by omega) ?_
          refine go_i2l dX7_variable_137 ?_
          refine go_retl dX7_variable_138 ?_
          refine ⟨Or.inl ⟨by omega, ?_, rfl⟩, rfl⟩
          rw [if_neg (by decide), if_neg (by decide), if_neg (by decide), if_pos rfl]
          rw [wr_nn (nm_ne1 (by decide))]; rfl
        · subst hw
          refine go_tableIn (off := 97) (tgt := 139) dX7_variable_42 (by decide) (by decide) rfl rfl ?_
          refine go_iload_n dX7_variable_139 rfl ?_
          refine go_if_eq (tgt := 149) dX7_variable_140 rfl (fun h140 => ?_) (fun h140 => ?_)
          · refine go_aload_n dX7_variable_149 rfl rfl ?_
            refine g7_50 dX7_variable_150 ?_
            rw [hC]
            refine g7_137 dX7_variable_153 ?_
            refine go_iload_n dX7_variable_156 rfl ?_
            refine go_iald dX7_variable_157 rfl (by omega) (by omega) ?_
            refine go_i2l dX7_variable_158 ?_
            refine go_retl dX7_variable_159 ?_
            refine ⟨Or.inl ⟨by omega, ?_, rfl⟩, rfl⟩
            rw [if_neg (by decide), if_neg (by decide), if_neg (by decide), if_neg (by decide), if_pos rfl]
            first
            | (rw [if_pos (by omega)]; done)
            | (rw [if_neg (by omega)]; done)
            | (rw [if_pos (by omega), wr_nn (nm_ne1 (by decide))]; rfl)
            | (rw [if_neg (by omega), wr_nn (nm_ne1 (by decide))]; rfl)
          · refine c7_135 dX7_variable_143 ?_
            refine go_goto (tgt := 159) dX7_variable_146 rfl ?_
            refine go_retl dX7_variable_159 ?_
            refine ⟨Or.inl ⟨by omega, ?_, rfl⟩, rfl⟩
            rw [if_neg (by decide), if_neg (by decide), if_neg (by decide), if_neg (by decide), if_pos rfl]
            first
            | (rw [if_pos (by omega)]; done)
            | (rw [if_neg (by omega)]; done)
            | (rw [if_pos (by omega), wr_nn (nm_ne1 (by decide))]; rfl)
            | (rw [if_neg (by omega), wr_nn (nm_ne1 (by decide))]; rfl)
        · subst hw
          refine go_tableIn (off := 118) (tgt := 160) dX7_variable_42 (by decide) (by decide) rfl rfl ?_
          refine go_aload_n dX7_variable_160 rfl rfl ?_
          refine g7_50 dX7_variable_161 ?_
          rw [hC]
          refine g7_140 dX7_variable_164 ?_
          refine go_iload_n dX7_variable_167 rfl ?_
          refine go_iald dX7_variable_168 rfl (by omega) (by omega) ?_
          refine go_i2l dX7_variable_169 ?_
          refine go_retl dX7_variable_170 ?_
          refine ⟨Or.inl ⟨by omega, ?_, rfl⟩, rfl⟩
          rw [if_neg (by decide), if_neg (by decide), if_neg (by decide), if_neg (by decide), if_neg (by decide), if_pos rfl]
          rw [wr_nn (nm_ne1 (by decide))]; rfl
        · subst hw
          refine go_tableOut (tgt := 171) dX7_variable_42 (Or.inr (by decide)) rfl ?_
          refine go_aload_n dX7_variable_171 rfl rfl ?_
          refine g7_50 dX7_variable_172 ?_
          rw [hC]
          refine g7_143 dX7_variable_175 ?_
          refine go_iload_n dX7_variable_178 rfl ?_
          refine go_lald dX7_variable_179 rfl (by omega) (by omega) ?_
          refine go_retl dX7_variable_180 ?_
          refine ⟨Or.inl ⟨by omega, ?_, rfl⟩, rfl⟩
          rw [if_neg (by decide), if_neg (by decide), if_neg (by decide), if_neg (by decide), if_neg (by decide), if_neg (by decide)]
          rw [wr_nn (nm_ne1 (by decide))]; rfl
      · refine go_aload_n dX7_variable_21 rfl rfl ?_
        refine go_iconst dX7_variable_22 (R32_lit rfl) ?_
        refine v7_122 dX7_variable_23 rfl ⟨rfl, rfl⟩ ⟨rfl, rfl⟩ ct_X7_nothing (fun r9 M9 N9 hr9 hq9 => ?_)
        refine go_retl dX7_variable_26 ?_
        obtain ⟨y1, y2, rfl⟩ := hq9
        exact ⟨Or.inr ⟨by omega, y1, y2⟩, rfl⟩
