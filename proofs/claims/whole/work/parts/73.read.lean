def nmA (b R : Int → Int) : Int → Int := if R 5 = 45 then adR b R else R
def nmV (b R : Int → Int) : Int := if R 5 = 45 then w32 (-(nmA b R 8)) else nmA b R 8
def nmB (b R : Int → Int) : Int → Int := upI (upI (nmA b R) 9 (nmV b R)) 10 (nmA b R 6)
set_option maxRecDepth 100000 in
set_option maxHeartbeats 4000000 in
theorem ct_X4_readNumber {E : Ev} {M : Mm} {N : Nn}  (hE : EN E) (hO : RdO M N) : Ct E yX4_readNumber cX4_readNumber 2 ((some .boolean)) (rmH 3) [vr (6, 0, 0)] M N (qi (fun r M1 N1 => (((nmA (M (4, 0, 0)) (M (6, 0, 0))) 5 ≠ 3 ∧ r = 0 ∧ M1 (6, 0, 0) = faR (nmA (M (4, 0, 0)) (M (6, 0, 0))) 1 ((nmA (M (4, 0, 0)) (M (6, 0, 0))) 6)) ∨ ((nmA (M (4, 0, 0)) (M (6, 0, 0))) 5 = 3 ∧ ¬ (-1000 ≤ (nmV (M (4, 0, 0)) (M (6, 0, 0))) ∧ (nmV (M (4, 0, 0)) (M (6, 0, 0))) ≤ 1000) ∧ r = 0 ∧ M1 (6, 0, 0) = faR (nmB (M (4, 0, 0)) (M (6, 0, 0))) 2 ((nmA (M (4, 0, 0)) (M (6, 0, 0))) 6)) ∨ ((nmA (M (4, 0, 0)) (M (6, 0, 0))) 5 = 3 ∧ (-1000 ≤ (nmV (M (4, 0, 0)) (M (6, 0, 0))) ∧ (nmV (M (4, 0, 0)) (M (6, 0, 0))) ≤ 1000) ∧ r = 1 ∧ M1 (6, 0, 0) = adR (M (4, 0, 0)) (nmB (M (4, 0, 0)) (M (6, 0, 0))))) ∧ Zf M M1 ∧ N = N1)) := by
  refine ct_of (own := RX4) (L0 := [vr (6, 0, 0), vn]) rfl (by decide +kernel) rfl rfl ?_
  refine go_aload_n dX4_readNumber_0 rfl rfl ?_
  refine g4_47 dX4_readNumber_1 ?_
  refine go_bipush dX4_readNumber_4 ⟨by decide, by decide⟩ ?_
  have jn14 : ∀ x : Int, x = (if M (6, 0, 0) 5 = 45 then 1 else 0) → Go E RX4 cX4_readNumber 2 ((some .boolean)) (rmH 3) 0 0 (zM E (qi (fun r M1 N1 => (((nmA (M (4, 0, 0)) (M (6, 0, 0))) 5 ≠ 3 ∧ r = 0 ∧ M1 (6, 0, 0) = faR (nmA (M (4, 0, 0)) (M (6, 0, 0))) 1 ((nmA (M (4, 0, 0)) (M (6, 0, 0))) 6)) ∨ ((nmA (M (4, 0, 0)) (M (6, 0, 0))) 5 = 3 ∧ ¬ (-1000 ≤ (nmV (M (4, 0, 0)) (M (6, 0, 0))) ∧ (nmV (M (4, 0, 0)) (M (6, 0, 0))) ≤ 1000) ∧ r = 0 ∧ M1 (6, 0, 0) = faR (nmB (M (4, 0, 0)) (M (6, 0, 0))) 2 ((nmA (M (4, 0, 0)) (M (6, 0, 0))) 6)) ∨ ((nmA (M (4, 0, 0)) (M (6, 0, 0))) 5 = 3 ∧ (-1000 ≤ (nmV (M (4, 0, 0)) (M (6, 0, 0))) ∧ (nmV (M (4, 0, 0)) (M (6, 0, 0))) ≤ 1000) ∧ r = 1 ∧ M1 (6, 0, 0) = adR (M (4, 0, 0)) (nmB (M (4, 0, 0)) (M (6, 0, 0))))) ∧ Zf M M1 ∧ N = N1))) 14 [vr (6, 0, 0), vn] [vi x] M N := by
    intro x ex
    have hx : (x = 1 ∧ M (6, 0, 0) 5 = 45) ∨ (x = 0 ∧ M (6, 0, 0) 5 ≠ 45) := by
      rw [ex]
      by_cases q : M (6, 0, 0) 5 = 45
      · rw [if_pos q]; exact Or.inl ⟨rfl, q⟩
      · rw [if_neg q]; exact Or.inr ⟨rfl, q⟩
    clear ex
    refine go_ist1 dX4_readNumber_14 rfl rfl ?_
    refine go_iload_n dX4_readNumber_15 rfl ?_
    refine go_if_eq (tgt := 23) dX4_readNumber_16 rfl (fun h16 => ?_) (fun h16 => ?_)
    · first | (obtain ⟨g1, g2, rfl⟩ := hq1) | skip
      refine go_nmM (fun Mc eMc => ?_)
      have hA : Mc (6, 0, 0) = (nmA (M (4, 0, 0)) (M (6, 0, 0))) := by
        unfold nmA
        first
        | (rw [eMc, if_neg (by omega)]; done)
        | (rw [eMc, g1, if_pos (by omega)]; done)
      have hZ : Zf M Mc := by rw [eMc]; first | exact Zf.rf | exact g2
      have hO' : RdO Mc N := by rw [eMc]; first | exact hO | exact hO.ad g1
      have hb4 : Mc (4, 0, 0) = M (4, 0, 0) := hZ _ (nm_ne1 (by decide))
      clear eMc
      refine go_aload_n dX4_readNumber_23 rfl rfl ?_
      refine g4_47 dX4_readNumber_24 ?_
      rw [hA]
      refine go_iconst dX4_readNumber_27 (R32_lit rfl) ?_
      refine go_icmp_eq (tgt := 41) dX4_readNumber_28 rfl (fun h28 => ?_) (fun h28 => ?_)
      · refine go_aload_n dX4_readNumber_41 rfl rfl ?_
        refine go_iload_n dX4_readNumber_42 rfl ?_
        refine go_if_eq (tgt := 54) dX4_readNumber_43 rfl (fun h43 => ?_) (fun h43 => ?_)
        · refine go_aload_n dX4_readNumber_54 rfl rfl ?_
          refine g4_129 dX4_readNumber_55 ?_
          first | rw [hA] | skip
          refine p4_99 dX4_readNumber_58 ?_
          refine go_aload_n dX4_readNumber_61 rfl rfl ?_
          refine go_aload_n dX4_readNumber_62 rfl rfl ?_
          refine g4_54 dX4_readNumber_63 ?_
          rw [wr_nk (by decide), hA]
          refine p4_107 dX4_readNumber_66 ?_
          refine go_nmM (fun Md eMd => ?_)
          have hZd : Zf M Md := by rw [eMd]; exact hZ.w6.w6
          have hB : Md (6, 0, 0) = (nmB (M (4, 0, 0)) (M (6, 0, 0))) := by
            rw [eMd, upI_wr, upI_wr, hA]
            unfold nmB nmV
            first
            | (rw [if_pos (by omega)]; done)
            | (rw [if_neg (by omega)]; done)
            | (exfalso; omega)
          have hN9 : Md (6, 0, 0) 9 = (nmV (M (4, 0, 0)) (M (6, 0, 0))) := by rw [hB]; rfl
          have h6d : Md (6, 0, 0) 6 = (nmA (M (4, 0, 0)) (M (6, 0, 0))) 6 := by rw [hB]; rfl
          have hb4d : Md (4, 0, 0) = M (4, 0, 0) := hZd _ (nm_ne1 (by decide))
          have hOd : RdO Md N := ⟨hO'.1, by rw [hB]; show (nmA (M (4, 0, 0)) (M (6, 0, 0))) 3 ≤ 500; rw [← hA]; exact hO'.2.1, by rw [hB]; show 0 ≤ (nmA (M (4, 0, 0)) (M (6, 0, 0))) 7; rw [← hA]; exact hO'.2.2.1, by rw [hB]; show (nmA (M (4, 0, 0)) (M (6, 0, 0))) 7 ≤ 500; rw [← hA]; exact hO'.2.2.2⟩
          clear eMd
          refine go_aload_n dX4_readNumber_69 rfl rfl ?_
          refine g4_99 dX4_readNumber_70 ?_
          rw [hN9]
          refine v4_146 dX4_readNumber_73 rfl ⟨rfl, rfl⟩ ⟨rfl, rfl⟩ ct_X7_isNumber hE (fun r3 M3 N3 hr3 hq3 => ?_)
          obtain ⟨e3, rfl, rfl⟩ := hq3
          have z3 := b1_iff e3
          refine go_if_ne (tgt := 89) dX4_readNumber_76 rfl (fun h76 => ?_) (fun h76 => ?_)
          · refine go_aload_n dX4_readNumber_89 rfl rfl ?_
            refine v4_40 dX4_readNumber_90 rfl ⟨rfl, rfl⟩ ⟨rfl, rfl⟩ (ct_X4_advance hOd.1 hOd.2.1 hOd.2.2.1 hOd.2.2.2) (fun M5 N5 hq5 => ?_)
            refine go_iconst dX4_readNumber_93 (R32_lit rfl) ?_
            refine go_retz dX4_readNumber_94 (by first | exact Or.inl rfl | exact Or.inr rfl | omega) ?_
            obtain ⟨y2, y3, rfl⟩ := hq5
            exact ⟨Or.inr (Or.inr ⟨h28, by omega, rfl, by rw [y2, hB, hb4d]⟩), hZd.tr y3, rfl⟩
          · refine go_aload_n dX4_readNumber_79 rfl rfl ?_
            refine go_iconst dX4_readNumber_80 (R32_lit rfl) ?_
            refine go_aload_n dX4_readNumber_81 rfl rfl ?_
            refine g4_54 dX4_readNumber_82 ?_
            rw [h6d]
            refine v4_57 dX4_readNumber_85 rfl ⟨rfl, rfl⟩ ⟨rfl, rfl⟩ ct_X4_fail (fun r4 M4 N4 hr4 hq4 => ?_)
            refine go_retz dX4_readNumber_88 (by first | exact Or.inl rfl | exact Or.inr rfl | omega) ?_
            obtain ⟨y1, y2, y3, rfl⟩ := hq4
            exact ⟨Or.inr (Or.inl ⟨h28, by omega, y1, by rw [y2, hB]⟩), hZd.tr y3, rfl⟩
        · refine go_aload_n dX4_readNumber_46 rfl rfl ?_
          refine g4_129 dX4_readNumber_47 ?_
          rw [hA]
          refine go_ineg dX4_readNumber_50 ?_
          refine go_goto (tgt := 58) dX4_readNumber_51 rfl ?_
          first | rw [hA] | skip
          refine p4_99 dX4_readNumber_58 ?_
          refine go_aload_n dX4_readNumber_61 rfl rfl ?_
          refine go_aload_n dX4_readNumber_62 rfl rfl ?_
          refine g4_54 dX4_readNumber_63 ?_
          rw [wr_nk (by decide), hA]
          refine p4_107 dX4_readNumber_66 ?_
          refine go_nmM (fun Md eMd => ?_)
          have hZd : Zf M Md := by rw [eMd]; exact hZ.w6.w6
          have hB : Md (6, 0, 0) = (nmB (M (4, 0, 0)) (M (6, 0, 0))) := by
            rw [eMd, upI_wr, upI_wr, hA]
            unfold nmB nmV
            first
            | (rw [if_pos (by omega)]; done)
            | (rw [if_neg (by omega)]; done)
            | (exfalso; omega)
          have hN9 : Md (6, 0, 0) 9 = (nmV (M (4, 0, 0)) (M (6, 0, 0))) := by rw [hB]; rfl
          have h6d : Md (6, 0, 0) 6 = (nmA (M (4, 0, 0)) (M (6, 0, 0))) 6 := by rw [hB]; rfl
          have hb4d : Md (4, 0, 0) = M (4, 0, 0) := hZd _ (nm_ne1 (by decide))
          have hOd : RdO Md N := ⟨hO'.1, by rw [hB]; show (nmA (M (4, 0, 0)) (M (6, 0, 0))) 3 ≤ 500; rw [← hA]; exact hO'.2.1, by rw [hB]; show 0 ≤ (nmA (M (4, 0, 0)) (M (6, 0, 0))) 7; rw [← hA]; exact hO'.2.2.1, by rw [hB]; show (nmA (M (4, 0, 0)) (M (6, 0, 0))) 7 ≤ 500; rw [← hA]; exact hO'.2.2.2⟩
          clear eMd
          refine go_aload_n dX4_readNumber_69 rfl rfl ?_
          refine g4_99 dX4_readNumber_70 ?_
          rw [hN9]
          refine v4_146 dX4_readNumber_73 rfl ⟨rfl, rfl⟩ ⟨rfl, rfl⟩ ct_X7_isNumber hE (fun r3 M3 N3 hr3 hq3 => ?_)
          obtain ⟨e3, rfl, rfl⟩ := hq3
          have z3 := b1_iff e3
          refine go_if_ne (tgt := 89) dX4_readNumber_76 rfl (fun h76 => ?_) (fun h76 => ?_)
          · refine go_aload_n dX4_readNumber_89 rfl rfl ?_
            refine v4_40 dX4_readNumber_90 rfl ⟨rfl, rfl⟩ ⟨rfl, rfl⟩ (ct_X4_advance hOd.1 hOd.2.1 hOd.2.2.1 hOd.2.2.2) (fun M5 N5 hq5 => ?_)
            refine go_iconst dX4_readNumber_93 (R32_lit rfl) ?_
            refine go_retz dX4_readNumber_94 (by first | exact Or.inl rfl | exact Or.inr rfl | omega) ?_
            obtain ⟨y2, y3, rfl⟩ := hq5
            exact ⟨Or.inr (Or.inr ⟨h28, by omega, rfl, by rw [y2, hB, hb4d]⟩), hZd.tr y3, rfl⟩
          · refine go_aload_n dX4_readNumber_79 rfl rfl ?_
            refine go_iconst dX4_readNumber_80 (R32_lit rfl) ?_
            refine go_aload_n dX4_readNumber_81 rfl rfl ?_
            refine g4_54 dX4_readNumber_82 ?_
            rw [h6d]
            refine v4_57 dX4_readNumber_85 rfl ⟨rfl, rfl⟩ ⟨rfl, rfl⟩ ct_X4_fail (fun r4 M4 N4 hr4 hq4 => ?_)
            refine go_retz dX4_readNumber_88 (by first | exact Or.inl rfl | exact Or.inr rfl | omega) ?_
            obtain ⟨y1, y2, y3, rfl⟩ := hq4
            exact ⟨Or.inr (Or.inl ⟨h28, by omega, y1, by rw [y2, hB]⟩), hZd.tr y3, rfl⟩
      · refine go_aload_n dX4_readNumber_31 rfl rfl ?_
        refine go_iconst dX4_readNumber_32 (R32_lit rfl) ?_
        refine go_aload_n dX4_readNumber_33 rfl rfl ?_
        refine g4_54 dX4_readNumber_34 ?_
        rw [hA]
        refine v4_57 dX4_readNumber_37 rfl ⟨rfl, rfl⟩ ⟨rfl, rfl⟩ ct_X4_fail (fun r2 M2 N2 hr2 hq2 => ?_)
        refine go_retz dX4_readNumber_40 (by first | exact Or.inl rfl | exact Or.inr rfl | omega) ?_
        obtain ⟨y1, y2, y3, rfl⟩ := hq2
        exact ⟨Or.inl ⟨h28, y1, by rw [y2, hA]⟩, hZ.tr y3, rfl⟩
    · refine go_aload_n dX4_readNumber_19 rfl rfl ?_
      refine v4_40 dX4_readNumber_20 rfl ⟨rfl, rfl⟩ ⟨rfl, rfl⟩ (ct_X4_advance hO.1 hO.2.1 hO.2.2.1 hO.2.2.2) (fun M1 N1 hq1 => ?_)
      first | (obtain ⟨g1, g2, rfl⟩ := hq1) | skip
      refine go_nmM (fun Mc eMc => ?_)
      have hA : Mc (6, 0, 0) = (nmA (M (4, 0, 0)) (M (6, 0, 0))) := by
        unfold nmA
        first
        | (rw [eMc, if_neg (by omega)]; done)
        | (rw [eMc, g1, if_pos (by omega)]; done)
      have hZ : Zf M Mc := by rw [eMc]; first | exact Zf.rf | exact g2
      have hO' : RdO Mc N := by rw [eMc]; first | exact hO | exact hO.ad g1
      have hb4 : Mc (4, 0, 0) = M (4, 0, 0) := hZ _ (nm_ne1 (by decide))
      clear eMc
      refine go_aload_n dX4_readNumber_23 rfl rfl ?_
      refine g4_47 dX4_readNumber_24 ?_
      rw [hA]
      refine go_iconst dX4_readNumber_27 (R32_lit rfl) ?_
      refine go_icmp_eq (tgt := 41) dX4_readNumber_28 rfl (fun h28 => ?_) (fun h28 => ?_)
      · refine go_aload_n dX4_readNumber_41 rfl rfl ?_
        refine go_iload_n dX4_readNumber_42 rfl ?_
        refine go_if_eq (tgt := 54) dX4_readNumber_43 rfl (fun h43 => ?_) (fun h43 => ?_)
        · refine go_aload_n dX4_readNumber_54 rfl rfl ?_
          refine g4_129 dX4_readNumber_55 ?_
          first | rw [hA] | skip
          refine p4_99 dX4_readNumber_58 ?_
          refine go_aload_n dX4_readNumber_61 rfl rfl ?_
          refine go_aload_n dX4_readNumber_62 rfl rfl ?_
          refine g4_54 dX4_readNumber_63 ?_
          rw [wr_nk (by decide), hA]
          refine p4_107 dX4_readNumber_66 ?_
          refine go_nmM (fun Md eMd => ?_)
          have hZd : Zf M Md := by rw [eMd]; exact hZ.w6.w6
          have hB : Md (6, 0, 0) = (nmB (M (4, 0, 0)) (M (6, 0, 0))) := by
            rw [eMd, upI_wr, upI_wr, hA]
            unfold nmB nmV
            first
            | (rw [if_pos (by omega)]; done)
            | (rw [if_neg (by omega)]; done)
            | (exfalso; omega)
          have hN9 : Md (6, 0, 0) 9 = (nmV (M (4, 0, 0)) (M (6, 0, 0))) := by rw [hB]; rfl
          have h6d : Md (6, 0, 0) 6 = (nmA (M (4, 0, 0)) (M (6, 0, 0))) 6 := by rw [hB]; rfl
          have hb4d : Md (4, 0, 0) = M (4, 0, 0) := hZd _ (nm_ne1 (by decide))
          have hOd : RdO Md N := ⟨hO'.1, by rw [hB]; show (nmA (M (4, 0, 0)) (M (6, 0, 0))) 3 ≤ 500; rw [← hA]; exact hO'.2.1, by rw [hB]; show 0 ≤ (nmA (M (4, 0, 0)) (M (6, 0, 0))) 7; rw [← hA]; exact hO'.2.2.1, by rw [hB]; show (nmA (M (4, 0, 0)) (M (6, 0, 0))) 7 ≤ 500; rw [← hA]; exact hO'.2.2.2⟩
          clear eMd
          refine go_aload_n dX4_readNumber_69 rfl rfl ?_
          refine g4_99 dX4_readNumber_70 ?_
          rw [hN9]
          refine v4_146 dX4_readNumber_73 rfl ⟨rfl, rfl⟩ ⟨rfl, rfl⟩ ct_X7_isNumber hE (fun r3 M3 N3 hr3 hq3 => ?_)
          obtain ⟨e3, rfl, rfl⟩ := hq3
          have z3 := b1_iff e3
          refine go_if_ne (tgt := 89) dX4_readNumber_76 rfl (fun h76 => ?_) (fun h76 => ?_)
          · refine go_aload_n dX4_readNumber_89 rfl rfl ?_
            refine v4_40 dX4_readNumber_90 rfl ⟨rfl, rfl⟩ ⟨rfl, rfl⟩ (ct_X4_advance hOd.1 hOd.2.1 hOd.2.2.1 hOd.2.2.2) (fun M5 N5 hq5 => ?_)
            refine go_iconst dX4_readNumber_93 (R32_lit rfl) ?_
            refine go_retz dX4_readNumber_94 (by first | exact Or.inl rfl | exact Or.inr rfl | omega) ?_
            obtain ⟨y2, y3, rfl⟩ := hq5
            exact ⟨Or.inr (Or.inr ⟨h28, by omega, rfl, by rw [y2, hB, hb4d]⟩), hZd.tr y3, rfl⟩
          · refine go_aload_n dX4_readNumber_79 rfl rfl ?_
            refine go_iconst dX4_readNumber_80 (R32_lit rfl) ?_
            refine go_aload_n dX4_readNumber_81 rfl rfl ?_
            refine g4_54 dX4_readNumber_82 ?_
            rw [h6d]
            refine v4_57 dX4_readNumber_85 rfl ⟨rfl, rfl⟩ ⟨rfl, rfl⟩ ct_X4_fail (fun r4 M4 N4 hr4 hq4 => ?_)
            refine go_retz dX4_readNumber_88 (by first | exact Or.inl rfl | exact Or.inr rfl | omega) ?_
            obtain ⟨y1, y2, y3, rfl⟩ := hq4
            exact ⟨Or.inr (Or.inl ⟨h28, by omega, y1, by rw [y2, hB]⟩), hZd.tr y3, rfl⟩
        · refine go_aload_n dX4_readNumber_46 rfl rfl ?_
          refine g4_129 dX4_readNumber_47 ?_
          rw [hA]
          refine go_ineg dX4_readNumber_50 ?_
          refine go_goto (tgt := 58) dX4_readNumber_51 rfl ?_
          first | rw [hA] | skip
          refine p4_99 dX4_readNumber_58 ?_
          refine go_aload_n dX4_readNumber_61 rfl rfl ?_
          refine go_aload_n dX4_readNumber_62 rfl rfl ?_
          refine g4_54 dX4_readNumber_63 ?_
          rw [wr_nk (by decide), hA]
          refine p4_107 dX4_readNumber_66 ?_
          refine go_nmM (fun Md eMd => ?_)
          have hZd : Zf M Md := by rw [eMd]; exact hZ.w6.w6
          have hB : Md (6, 0, 0) = (nmB (M (4, 0, 0)) (M (6, 0, 0))) := by
            rw [eMd, upI_wr, upI_wr, hA]
            unfold nmB nmV
            first
            | (rw [if_pos (by omega)]; done)
            | (rw [if_neg (by omega)]; done)
            | (exfalso; omega)
          have hN9 : Md (6, 0, 0) 9 = (nmV (M (4, 0, 0)) (M (6, 0, 0))) := by rw [hB]; rfl
          have h6d : Md (6, 0, 0) 6 = (nmA (M (4, 0, 0)) (M (6, 0, 0))) 6 := by rw [hB]; rfl
          have hb4d : Md (4, 0, 0) = M (4, 0, 0) := hZd _ (nm_ne1 (by decide))
          have hOd : RdO Md N := ⟨hO'.1, by rw [hB]; show (nmA (M (4, 0, 0)) (M (6, 0, 0))) 3 ≤ 500; rw [← hA]; exact hO'.2.1, by rw [hB]; show 0 ≤ (nmA (M (4, 0, 0)) (M (6, 0, 0))) 7; rw [← hA]; exact hO'.2.2.1, by rw [hB]; show (nmA (M (4, 0, 0)) (M (6, 0, 0))) 7 ≤ 500; rw [← hA]; exact hO'.2.2.2⟩
          clear eMd
          refine go_aload_n dX4_readNumber_69 rfl rfl ?_
          refine g4_99 dX4_readNumber_70 ?_
          rw [hN9]
          refine v4_146 dX4_readNumber_73 rfl ⟨rfl, rfl⟩ ⟨rfl, rfl⟩ ct_X7_isNumber hE (fun r3 M3 N3 hr3 hq3 => ?_)
          obtain ⟨e3, rfl, rfl⟩ := hq3
          have z3 := b1_iff e3
          refine go_if_ne (tgt := 89) dX4_readNumber_76 rfl (fun h76 => ?_) (fun h76 => ?_)
          · refine go_aload_n dX4_readNumber_89 rfl rfl ?_
            refine v4_40 dX4_readNumber_90 rfl ⟨rfl, rfl⟩ ⟨rfl, rfl⟩ (ct_X4_advance hOd.1 hOd.2.1 hOd.2.2.1 hOd.2.2.2) (fun M5 N5 hq5 => ?_)
            refine go_iconst dX4_readNumber_93 (R32_lit rfl) ?_
            refine go_retz dX4_readNumber_94 (by first | exact Or.inl rfl | exact Or.inr rfl | omega) ?_
            obtain ⟨y2, y3, rfl⟩ := hq5
            exact ⟨Or.inr (Or.inr ⟨h28, by omega, rfl, by rw [y2, hB, hb4d]⟩), hZd.tr y3, rfl⟩
          · refine go_aload_n dX4_readNumber_79 rfl rfl ?_
            refine go_iconst dX4_readNumber_80 (R32_lit rfl) ?_
            refine go_aload_n dX4_readNumber_81 rfl rfl ?_
            refine g4_54 dX4_readNumber_82 ?_
            rw [h6d]
            refine v4_57 dX4_readNumber_85 rfl ⟨rfl, rfl⟩ ⟨rfl, rfl⟩ ct_X4_fail (fun r4 M4 N4 hr4 hq4 => ?_)
            refine go_retz dX4_readNumber_88 (by first | exact Or.inl rfl | exact Or.inr rfl | omega) ?_
            obtain ⟨y1, y2, y3, rfl⟩ := hq4
            exact ⟨Or.inr (Or.inl ⟨h28, by omega, y1, by rw [y2, hB]⟩), hZd.tr y3, rfl⟩
      · refine go_aload_n dX4_readNumber_31 rfl rfl ?_
        refine go_iconst dX4_readNumber_32 (R32_lit rfl) ?_
        refine go_aload_n dX4_readNumber_33 rfl rfl ?_
        refine g4_54 dX4_readNumber_34 ?_
        rw [hA]
        refine v4_57 dX4_readNumber_37 rfl ⟨rfl, rfl⟩ ⟨rfl, rfl⟩ ct_X4_fail (fun r2 M2 N2 hr2 hq2 => ?_)
        refine go_retz dX4_readNumber_40 (by first | exact Or.inl rfl | exact Or.inr rfl | omega) ?_
        obtain ⟨y1, y2, y3, rfl⟩ := hq2
        exact ⟨Or.inl ⟨h28, y1, by rw [y2, hA]⟩, hZ.tr y3, rfl⟩
  refine go_icmp_ne (tgt := 13) dX4_readNumber_6 rfl (fun h6 => ?_) (fun h6 => ?_)
  · refine go_iconst dX4_readNumber_13 (R32_lit rfl) ?_
    exact jn14 _ (by first | rw [if_pos (by omega)] | rw [if_neg (by omega)])
  · refine go_iconst dX4_readNumber_9 (R32_lit rfl) ?_
    refine go_goto (tgt := 14) dX4_readNumber_10 rfl ?_
    exact jn14 _ (by first | rw [if_pos (by omega)] | rw [if_neg (by omega)])
