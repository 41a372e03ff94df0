set_option maxRecDepth 100000 in
set_option maxHeartbeats 4000000 in
theorem ct_X7_at {E : Ev} {M : Mm} {N : Nn} {p : Nat} {v w : Int} (hC : N (3, 0, 0) 6 = (18, p, 0)) (hc : (pgC M p) 11 0 ≤ 15) (hK : ∀ v, 0 ≤ v → v < (pgC M p) 11 0 → SkH (pgC M p) v) : Ct E yX7_at cX7_at 4 ((some .long)) (rmH 4) [vr (3, 0, 0), vi v, vi w] M N (ql (fun r M1 N1 => ((0 ≤ v ∧ v < (pgC M p) 11 0 ∧ 0 ≤ w ∧ w ≤ 2) ∧ r = (if w = 0 then tbE (pgC M p) (M (5, 0, 0)) (v + 1).toNat v else if w = 1 then tbC (pgC M p) (M (5, 0, 0)) (v + 1).toNat v else w64 (tbC (pgC M p) (M (5, 0, 0)) (v + 1).toNat v - tbE (pgC M p) (M (5, 0, 0)) (v + 1).toNat v)) ∧ Sf (tr M 0) M1 ∨ (¬ (0 ≤ v ∧ v < (pgC M p) 11 0 ∧ 0 ≤ w ∧ w ≤ 2)) ∧ r = -9223372036854775808 ∧ M1 = tr M 1) ∧ N = N1)) := by
  refine ct_of (own := RX7) (L0 := [vr (3, 0, 0), vi v, vi w, vn]) rfl (by decide +kernel) rfl rfl ?_
  refine go_aload_n dX7_at_0 rfl rfl ?_
  refine g7_50 dX7_at_1 ?_
  rw [hC]
  refine go_iload_n dX7_at_4 rfl ?_
  refine v7_118 dX7_at_5 rfl ⟨rfl, rfl⟩ ⟨rfl, rfl⟩ ct_X3_has (fun r1 M1 N1 hr1 hq1 => ?_)
  obtain ⟨e1, rfl, rfl⟩ := hq1
  have z1 := b1_iff e1
  refine go_if_eq (tgt := 20) dX7_at_8 rfl (fun h8 => ?_) (fun h8 => ?_)
  · refine go_aload_n dX7_at_20 rfl rfl ?_
    refine go_iconst dX7_at_21 (R32_lit rfl) ?_
    refine v7_122 dX7_at_22 rfl ⟨rfl, rfl⟩ ⟨rfl, rfl⟩ ct_X7_nothing (fun r9 M9 N9 hr9 hq9 => ?_)
    refine go_retl dX7_at_25 ?_
    obtain ⟨y1, y2, rfl⟩ := hq9
    exact ⟨Or.inr (⟨by omega, y1, y2⟩), rfl⟩
  · refine go_iload_n dX7_at_11 rfl ?_
    refine go_if_lt (tgt := 20) dX7_at_12 rfl (fun h12 => ?_) (fun h12 => ?_)
    · refine go_aload_n dX7_at_20 rfl rfl ?_
      refine go_iconst dX7_at_21 (R32_lit rfl) ?_
      refine v7_122 dX7_at_22 rfl ⟨rfl, rfl⟩ ⟨rfl, rfl⟩ ct_X7_nothing (fun r9 M9 N9 hr9 hq9 => ?_)
      refine go_retl dX7_at_25 ?_
      obtain ⟨y1, y2, rfl⟩ := hq9
      exact ⟨Or.inr (⟨by omega, y1, y2⟩), rfl⟩
    · refine go_iload_n dX7_at_15 rfl ?_
      refine go_iconst dX7_at_16 (R32_lit rfl) ?_
      refine go_icmp_le (tgt := 26) dX7_at_17 rfl (fun h17 => ?_) (fun h17 => ?_)
      · have hkv := (hK v (by omega) (by omega))
        obtain ⟨h1, h2, h3, h4, h5⟩ := hkv.tr (k := 0)
        refine go_aload_n dX7_at_26 rfl rfl ?_
        refine go_iconst dX7_at_27 (R32_lit rfl) ?_
        refine p7_61 dX7_at_28 ?_
        refine go_aload_n dX7_at_31 rfl rfl ?_
        refine g7_43 dX7_at_32 ?_
        refine g7_159 dX7_at_35 ?_
        refine go_ast3 dX7_at_38 rfl rfl rfl ?_
        refine go_aload_n dX7_at_39 rfl rfl ?_
        refine go_aload_n dX7_at_40 rfl rfl ?_
        refine g7_50 dX7_at_41 ?_
        rw [hC]
        refine go_aload_n dX7_at_44 rfl rfl ?_
        refine g7_15 dX7_at_45 ?_
        refine go_iload_n dX7_at_48 rfl ?_
        refine v7_163 dX7_at_49 rfl ⟨rfl, rfl⟩ ⟨rfl, rfl⟩ (ct_X5_reckonAt (kn := (5, 0, 0)) rfl rfl h1 h2 h4 h5) (fun M3 N3 hq3 => ?_)
        obtain ⟨t1, t2, rfl⟩ := hq3
        rw [pg_tr, IW_tr (by decide)] at t1
        have ht := t1 v (by omega) (by omega) hkv.2.2.1
        refine go_iload_n dX7_at_52 rfl ?_
        have hw3 : w = 0 ∨ w = 1 ∨ w = 2 := by omega
        rcases hw3 with hw | hw | hw
        · subst hw
          refine go_look (off := 27) (tgt := 80) dX7_at_53 (by decide) (by decide) rfl ?_
          refine go_aload_n dX7_at_80 rfl rfl ?_
          refine g7_169 dX7_at_81 ?_
          refine go_iload_n dX7_at_84 rfl ?_
          refine go_lald dX7_at_85 rfl (by omega) (by omega) ?_
          rw [ht.1]
          refine go_retl dX7_at_86 ?_
          refine ⟨Or.inl ⟨by omega, ?_, t2.sf⟩, rfl⟩
          rw [if_pos rfl]
        · subst hw
          refine go_look (off := 34) (tgt := 87) dX7_at_53 (by decide) (by decide) rfl ?_
          refine go_aload_n dX7_at_87 rfl rfl ?_
          refine g7_172 dX7_at_88 ?_
          refine go_iload_n dX7_at_91 rfl ?_
          refine go_lald dX7_at_92 rfl (by omega) (by omega) ?_
          rw [ht.2]
          refine go_retl dX7_at_93 ?_
          refine ⟨Or.inl ⟨by omega, ?_, t2.sf⟩, rfl⟩
          rw [if_neg (by decide), if_pos rfl]
        · subst hw
          refine go_look (off := 41) (tgt := 94) dX7_at_53 (by decide) (by decide) rfl ?_
          refine go_aload_n dX7_at_94 rfl rfl ?_
          refine g7_172 dX7_at_95 ?_
          refine go_iload_n dX7_at_98 rfl ?_
          refine go_lald dX7_at_99 rfl (by omega) (by omega) ?_
          rw [ht.2]
          refine go_aload_n dX7_at_100 rfl rfl ?_
          refine g7_169 dX7_at_101 ?_
          refine go_iload_n dX7_at_104 rfl ?_
          refine go_lald dX7_at_105 rfl (by omega) (by omega) ?_
          rw [ht.1]
          refine go_lsub dX7_at_106 ?_
          refine go_retl dX7_at_107 ?_
          refine ⟨Or.inl ⟨by omega, ?_, t2.sf⟩, rfl⟩
          rw [if_neg (by decide), if_neg (by decide)]
      · refine go_aload_n dX7_at_20 rfl rfl ?_
        refine go_iconst dX7_at_21 (R32_lit rfl) ?_
        refine v7_122 dX7_at_22 rfl ⟨rfl, rfl⟩ ⟨rfl, rfl⟩ ct_X7_nothing (fun r9 M9 N9 hr9 hq9 => ?_)
        refine go_retl dX7_at_25 ?_
        obtain ⟨y1, y2, rfl⟩ := hq9
        exact ⟨Or.inr (⟨by omega, y1, y2⟩), rfl⟩
set_option maxRecDepth 100000 in
set_option maxHeartbeats 4000000 in
theorem ct_X7_form {E : Ev} {M : Mm} {N : Nn} {p : Nat} {v d k : Int} {φ : Nat → FV} {ν : Nu} {ma : Int → Int} (hC : N (3, 0, 0) 6 = (18, p, 0)) (hc : (pgC M p) 11 0 ≤ 15) (hF : FS M 0 φ ν ma) : Ct E yX7_form cX7_form 5 ((some .long)) (rmH 3) [vr (3, 0, 0), vi v, vi d, vi k] M N (ql (fun r M1 N1 => ((0 ≤ v ∧ v < (pgC M p) 11 0 ∧ -1 ≤ k ∧ k < ν.1) ∧ r = (if k = -1 then (φ (if d = 0 then v.toNat else 15 + v.toNat)).1 else (φ (if d = 0 then v.toNat else 15 + v.toNat)).2 k) ∧ M1 = tr M 0 ∨ ¬ (0 ≤ v ∧ v < (pgC M p) 11 0 ∧ -1 ≤ k ∧ k < ν.1) ∧ r = -9223372036854775808 ∧ M1 = tr M 1) ∧ N = N1)) := by
  refine ct_of (own := RX7) (L0 := [vr (3, 0, 0), vi v, vi d, vi k, vn]) rfl (by decide +kernel) rfl rfl ?_
  have e3 : M (7, 0, 0) 3 = ν.1 := hF.2.1
  have e63 := hF.2.2.2.1
  refine go_aload_n dX7_form_0 rfl rfl ?_
  refine g7_50 dX7_form_1 ?_
  rw [hC]
  refine go_iload_n dX7_form_4 rfl ?_
  refine v7_118 dX7_form_5 rfl ⟨rfl, rfl⟩ ⟨rfl, rfl⟩ ct_X3_has (fun r1 M1 N1 hr1 hq1 => ?_)
  obtain ⟨e1, rfl, rfl⟩ := hq1
  have z1 := b1_iff e1
  refine go_if_eq (tgt := 27) dX7_form_8 rfl (fun h8 => ?_) (fun h8 => ?_)
  · refine go_aload_n dX7_form_27 rfl rfl ?_
    refine go_iconst dX7_form_28 (R32_lit rfl) ?_
    refine v7_122 dX7_form_29 rfl ⟨rfl, rfl⟩ ⟨rfl, rfl⟩ ct_X7_nothing (fun r9 M9 N9 hr9 hq9 => ?_)
    refine go_retl dX7_form_32 ?_
    obtain ⟨y1, y2, rfl⟩ := hq9
    exact ⟨Or.inr ⟨by omega, y1, y2⟩, rfl⟩
  · refine go_iload_n dX7_form_11 rfl ?_
    refine go_iconst dX7_form_12 (R32_lit rfl) ?_
    refine go_icmp_lt (tgt := 27) dX7_form_13 rfl (fun h13 => ?_) (fun h13 => ?_)
    · refine go_aload_n dX7_form_27 rfl rfl ?_
      refine go_iconst dX7_form_28 (R32_lit rfl) ?_
      refine v7_122 dX7_form_29 rfl ⟨rfl, rfl⟩ ⟨rfl, rfl⟩ ct_X7_nothing (fun r9 M9 N9 hr9 hq9 => ?_)
      refine go_retl dX7_form_32 ?_
      obtain ⟨y1, y2, rfl⟩ := hq9
      exact ⟨Or.inr ⟨by omega, y1, y2⟩, rfl⟩
    · refine go_iload_n dX7_form_16 rfl ?_
      refine go_aload_n dX7_form_17 rfl rfl ?_
      refine g7_29 dX7_form_18 ?_
      refine g7_103 dX7_form_21 ?_
      rw [e3]
      refine go_icmp_lt (tgt := 33) dX7_form_24 rfl (fun h24 => ?_) (fun h24 => ?_)
      · refine go_aload_n dX7_form_33 rfl rfl ?_
        refine go_iconst dX7_form_34 (R32_lit rfl) ?_
        refine p7_61 dX7_form_35 ?_
        refine go_aload_n dX7_form_38 rfl rfl ?_
        refine g7_29 dX7_form_39 ?_
        refine go_iload_n dX7_form_42 rfl ?_
        refine go_iload_n dX7_form_43 rfl ?_
        refine v7_182 dX7_form_44 rfl ⟨rfl, rfl⟩ ⟨rfl, rfl⟩ (ct_X1_formOf (by omega) (by omega)) (fun r2 M2 N2 hq2 => ?_)
        obtain ⟨rfl, rfl, rfl⟩ := hq2
        have hj : (if d = 0 then v.toNat else 15 + v.toNat) < 39 := by split <;> omega
        have hI := (hF.tr (k := 0)).fi hj
        generalize (if d = 0 then v.toNat else 15 + v.toNat) = j at *
        refine go_ast4 dX7_form_47 rfl rfl rfl ?_
        refine go_iload_n dX7_form_49 rfl ?_
        refine go_iconst dX7_form_50 (R32_lit rfl) ?_
        refine go_icmp_ne (tgt := 62) dX7_form_51 rfl (fun h51 => ?_) (fun h51 => ?_)
        · refine go_aload dX7_form_62 rfl rfl ?_
          refine g7_192 dX7_form_64 ?_
          refine go_iload_n dX7_form_67 rfl ?_
          refine go_lald dX7_form_68 rfl (by omega) (by omega) ?_
          
          refine go_retl dX7_form_69 ?_
          refine ⟨Or.inl ⟨by omega, ?_, rfl⟩, rfl⟩
          first
          | rw [if_pos (by omega)]
          | (rw [if_neg (by omega)]; exact hI.2.2.2.1 k (by omega) (by omega))
        · refine go_aload dX7_form_54 rfl rfl ?_
          refine g7_186 dX7_form_56 ?_
          rw [hI.1]
          refine go_goto (tgt := 69) dX7_form_59 rfl ?_
          
          refine go_retl dX7_form_69 ?_
          refine ⟨Or.inl ⟨by omega, ?_, rfl⟩, rfl⟩
          first
          | rw [if_pos (by omega)]
          | (rw [if_neg (by omega)]; exact hI.2.2.2.1 k (by omega) (by omega))
      · refine go_aload_n dX7_form_27 rfl rfl ?_
        refine go_iconst dX7_form_28 (R32_lit rfl) ?_
        refine v7_122 dX7_form_29 rfl ⟨rfl, rfl⟩ ⟨rfl, rfl⟩ ct_X7_nothing (fun r9 M9 N9 hr9 hq9 => ?_)
        refine go_retl dX7_form_32 ?_
        obtain ⟨y1, y2, rfl⟩ := hq9
        exact ⟨Or.inr ⟨by omega, y1, y2⟩, rfl⟩
set_option maxRecDepth 100000 in
set_option maxHeartbeats 4000000 in
theorem ct_X7_about {E : Ev} {M : Mm} {N : Nn} {p : Nat} {w : Int} {φ : Nat → FV} {ν : Nu} {ma : Int → Int} (hC : N (3, 0, 0) 6 = (18, p, 0)) (hc : (pgC M p) 11 0 ≤ 15) (hF : FS M 0 φ ν ma) (hIW : IW (pgC M p)) (hc0 : 0 ≤ (pgC M p) 11 0) (hd : 0 ≤ (pgC M p) 12 0 ∧ (pgC M p) 12 0 ≤ 3) : Ct E yX7_about cX7_about 2 ((some .int)) (rmH 3) [vr (3, 0, 0), vi w] M N (qi (fun r M1 N1 => (((pgC M p) 11 0 ≠ 0 ∧ 0 ≤ w ∧ w ≤ 4) ∧ r = (if w = 0 then (pgC M p) 11 0 else if w = 1 then (pgC M p) 12 0 else if w = 2 then (pgC M p) 11 0 - (pgC M p) 12 0 else if w = 3 then ν.1 else w32 (min (ptI (pgC M p) ((pgC M p) 12 0).toNat) 999999999)) ∧ M1 = tr M 0 ∨ ¬ ((pgC M p) 11 0 ≠ 0 ∧ 0 ≤ w ∧ w ≤ 4) ∧ r = -1 ∧ M1 = tr M 1) ∧ N = N1)) := by
  refine ct_of (own := RX7) (L0 := [vr (3, 0, 0), vi w]) rfl (by decide +kernel) rfl rfl ?_
  have e11 : M (18, p, 0) 11 = (pgC M p) 11 0 := rfl
  refine go_aload_n dX7_about_0 rfl rfl ?_
  refine g7_50 dX7_about_1 ?_
  rw [hC]
  refine g7_96 dX7_about_4 ?_
  rw [e11]
  refine go_if_eq (tgt := 19) dX7_about_7 rfl (fun h7 => ?_) (fun h7 => ?_)
  · refine go_aload_n dX7_about_19 rfl rfl ?_
    refine go_iconst dX7_about_20 (R32_lit rfl) ?_
    refine v7_74 dX7_about_21 rfl ⟨rfl, rfl⟩ ⟨rfl, rfl⟩ ct_X7_none (fun r9 M9 N9 hr9 hq9 => ?_)
    refine go_reti dX7_about_24 ?_
    obtain ⟨y1, y2, rfl⟩ := hq9
    exact ⟨Or.inr ⟨by omega, y1, y2⟩, rfl⟩
  · refine go_iload_n dX7_about_10 rfl ?_
    refine go_if_lt (tgt := 19) dX7_about_11 rfl (fun h11 => ?_) (fun h11 => ?_)
    · refine go_aload_n dX7_about_19 rfl rfl ?_
      refine go_iconst dX7_about_20 (R32_lit rfl) ?_
      refine v7_74 dX7_about_21 rfl ⟨rfl, rfl⟩ ⟨rfl, rfl⟩ ct_X7_none (fun r9 M9 N9 hr9 hq9 => ?_)
      refine go_reti dX7_about_24 ?_
      obtain ⟨y1, y2, rfl⟩ := hq9
      exact ⟨Or.inr ⟨by omega, y1, y2⟩, rfl⟩
    · refine go_iload_n dX7_about_14 rfl ?_
      refine go_iconst dX7_about_15 (R32_lit rfl) ?_
      refine go_icmp_le (tgt := 25) dX7_about_16 rfl (fun h16 => ?_) (fun h16 => ?_)
      · refine go_aload_n dX7_about_25 rfl rfl ?_
        refine go_iconst dX7_about_26 (R32_lit rfl) ?_
        refine p7_61 dX7_about_27 ?_
        refine go_iload_n dX7_about_30 rfl ?_
        have hw5 : w = 0 ∨ w = 1 ∨ w = 2 ∨ w = 3 ∨ w = 4 := by omega
        rcases hw5 with hw | hw | hw | hw | hw
        · subst hw
          refine go_tableIn (off := 29) (tgt := 60) dX7_about_31 (by decide) (by decide) rfl rfl ?_
          refine go_aload_n dX7_about_60 rfl rfl ?_
          refine g7_50 dX7_about_61 ?_
          rw [hC]
          refine g7_96 dX7_about_64 ?_
          refine go_reti dX7_about_67 ?_
          refine ⟨Or.inl ⟨by omega, ?_, rfl⟩, rfl⟩
          rw [if_pos rfl, wr_nn (nm_ne1 (by decide))]; rfl
        · subst hw
          refine go_tableIn (off := 37) (tgt := 68) dX7_about_31 (by decide) (by decide) rfl rfl ?_
          refine go_aload_n dX7_about_68 rfl rfl ?_
          refine g7_50 dX7_about_69 ?_
          rw [hC]
          refine g7_87 dX7_about_72 ?_
          refine go_reti dX7_about_75 ?_
          refine ⟨Or.inl ⟨by omega, ?_, rfl⟩, rfl⟩
          rw [if_neg (by decide), if_pos rfl, wr_nn (nm_ne1 (by decide))]; rfl
        · subst hw
          refine go_tableIn (off := 45) (tgt := 76) dX7_about_31 (by decide) (by decide) rfl rfl ?_
          refine go_aload_n dX7_about_76 rfl rfl ?_
          refine g7_50 dX7_about_77 ?_
          rw [hC]
          refine v7_99 dX7_about_80 rfl ⟨rfl, rfl⟩ ⟨rfl, rfl⟩ (ct_X3_steps (by rw [pg_tr]; exact ⟨by omega, by omega⟩)) (fun r3 M3 N3 hr3 hq3 => ?_)
          refine go_reti dX7_about_83 ?_
          obtain ⟨y1, rfl, rfl⟩ := hq3
          rw [pg_tr] at y1
          refine ⟨Or.inl ⟨by omega, ?_, rfl⟩, rfl⟩
          rw [if_neg (by decide), if_neg (by decide), if_pos rfl]; exact y1
        · subst hw
          refine go_tableIn (off := 53) (tgt := 84) dX7_about_31 (by decide) (by decide) rfl rfl ?_
          refine go_aload_n dX7_about_84 rfl rfl ?_
          refine g7_29 dX7_about_85 ?_
          refine g7_103 dX7_about_88 ?_
          refine go_reti dX7_about_91 ?_
          refine ⟨Or.inl ⟨by omega, ?_, rfl⟩, rfl⟩
          rw [if_neg (by decide), if_neg (by decide), if_neg (by decide), if_pos rfl, wr_nn (nm_ne1 (by decide))]; exact hF.2.1
        · subst hw
          refine go_tableOut (tgt := 92) dX7_about_31 (Or.inr (by decide)) rfl ?_
          refine go_aload_n dX7_about_92 rfl rfl ?_
          refine g7_50 dX7_about_93 ?_
          rw [hC]
          refine v7_106 dX7_about_96 rfl ⟨rfl, rfl⟩ ⟨rfl, rfl⟩ (ct_X3_points (by rw [pg_tr]; exact hIW)) (fun r3 M3 N3 hr3 hq3 => ?_)
          obtain ⟨y1, rfl, rfl⟩ := hq3
          rw [pg_tr] at y1
          refine c7_110 dX7_about_99 ?_
          refine v7_112 dX7_about_102 rfl ⟨rfl, rfl⟩ ⟨rfl, rfl⟩ ct_J9_min_f86c9 (fun r4 M4 N4 hr4 hq4 => ?_)
          obtain ⟨rfl, rfl, rfl⟩ := hq4
          rw [y1]
          refine go_l2i dX7_about_105 ?_
          refine go_reti dX7_about_106 ?_
          refine ⟨Or.inl ⟨by omega, ?_, rfl⟩, rfl⟩
          rw [if_neg (by decide), if_neg (by decide), if_neg (by decide), if_neg (by decide)]
      · refine go_aload_n dX7_about_19 rfl rfl ?_
        refine go_iconst dX7_about_20 (R32_lit rfl) ?_
        refine v7_74 dX7_about_21 rfl ⟨rfl, rfl⟩ ⟨rfl, rfl⟩ ct_X7_none (fun r9 M9 N9 hr9 hq9 => ?_)
        refine go_reti dX7_about_24 ?_
        obtain ⟨y1, y2, rfl⟩ := hq9
        exact ⟨Or.inr ⟨by omega, y1, y2⟩, rfl⟩
