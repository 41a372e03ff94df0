theorem nx_gi {b : Int → Int} {i : Nat} {r : Int} {s t : Rs} (hG : GI s) (e : (r, t) = pW b i s) (h : r ≠ 0) : r = 1 ∧ GI t ∧ KS s t := by
  obtain ⟨a, I, K⟩ := nx_w hG.1 e h
  refine ⟨a, ⟨?_, ?_, ?_⟩, K⟩
  · rw [K.2.2.1]; exact I
  · rw [K.2.2.1]; exact hG.2.1
  · rw [K.2.2.1]; exact hG.2.2
theorem nx_pk {b : Int → Int} {r : Int} {s t : Rs} (hI : RI 0 s) (e : (r, t) = pPk b s) (h : r ≠ 0) : r = 1 ∧ GI t ∧ t.2 11 0 = s.2 11 0 ∧ t.2 12 0 = s.2 12 0 := by
  have := pPk_I hI (by rw [← e]; exact h)
  rw [← e] at this
  exact this
theorem nx_sm {b : Int → Int} {r : Int} {s t : Rs} (hI : RI 0 s) (e : (r, t) = pSm b s) (h : r ≠ 0) : r = 1 ∧ GI t ∧ t.2 11 0 = s.2 11 0 ∧ t.2 12 0 = s.2 12 0 := by
  have := pSm_I hI (by rw [← e]; exact h)
  rw [← e] at this
  exact this
theorem nx_gr {b : Int → Int} {np r : Int} {s t : Rs} (hI : GI s) (h15 : s.2 11 0 < 15) (h12 : s.2 11 0 - s.2 12 0 < 12) (e : (r, t) = pGr b np s) (h : r ≠ 0) : r = 1 ∧ RI 0 t := by
  have := pGr_I (np := np) hI h15 h12 (by rw [← e]; exact h)
  rw [← e] at this
  exact this
theorem nx_in {b : Int → Int} {r : Int} {s t : Rs} (hI : RI 0 s) (h15 : s.2 11 0 < 15) (h3 : s.2 12 0 < 3) (e : (r, t) = pIn b s) (h : r ≠ 0) : r = 1 ∧ RI 0 t := by
  have := pIn_I hI h15 h3 (by rw [← e]; exact h)
  rw [← e] at this
  exact this
theorem nx_ln {b : Int → Int} {r : Int} {s t : Rs} (hI : RI 0 s) (e : (r, t) = pLn b s) (h : r ≠ 0) : r = 1 ∧ RI 0 t := by
  have := pLn_I hI (by rw [← e]; exact h)
  rw [← e] at this
  exact this
set_option maxRecDepth 100000 in
set_option maxHeartbeats 4000000 in
theorem ct_X4_readGrid {E : Ev} {M : Mm} {N : Nn} {q : Nat} {b : Int → Int} {np : Int} (hE : ES E) (hH : RH M N q b) (hG : GI (sR M q)) (h15 : pgC M q 11 0 < 15) : Ct E yX4_readGrid cX4_readGrid 3 ((some .boolean)) (rmH 7) [vr (6, 0, 0), vi np] M N (qi (fun r M1 N1 => (r, sR M1 q) = pGr b np (sR M q) ∧ Rf q M M1 ∧ N = N1)) := by
  refine ct_of (own := RX4) (L0 := [vr (6, 0, 0), vi np, vn]) rfl (by decide +kernel) rfl rfl ?_
  refine go_aload_n dX4_readGrid_0 rfl rfl ?_
  refine s4_127 hE dX4_readGrid_1 ?_
  refine v4_93 dX4_readGrid_3 rfl ⟨rfl, rfl⟩ ⟨rfl, rfl⟩ (ct_X4_skipWord hE hH hG.1 (by decide)) (fun r1 M1 N1 hr1 hq1 => ?_)
  obtain ⟨e1, f1, rfl⟩ := hq1
  refine go_if_ne (tgt := 11) dX4_readGrid_6 rfl (fun h6 => ?_) (fun h6 => ?_)
  · obtain ⟨a1, G1, K1⟩ := nx_gi hG e1 h6
    have H1 := hH.nx f1
    have c1 : (sR M1 q).2 11 0 < 15 := by rw [K1.1]; exact h15
    refine go_aload_n dX4_readGrid_11 rfl rfl ?_
    refine g4_47 dX4_readGrid_12 ?_
    refine go_iconst dX4_readGrid_15 (R32_lit rfl) ?_
    refine go_icmp_eq (tgt := 29) dX4_readGrid_16 rfl (fun h16 => ?_) (fun h16 => ?_)
    · refine go_aload_n dX4_readGrid_29 rfl rfl ?_
      refine g4_129 dX4_readGrid_30 ?_
      refine go_bipush dX4_readGrid_33 ⟨by decide, by decide⟩ ?_
      refine go_icmp_le (tgt := 48) dX4_readGrid_35 rfl (fun h35 => ?_) (fun h35 => ?_)
      · refine go_aload_n dX4_readGrid_48 rfl rfl ?_
        refine g4_129 dX4_readGrid_49 ?_
        refine go_ist2 dX4_readGrid_52 rfl rfl ?_
        refine go_aload_n dX4_readGrid_53 rfl rfl ?_
        refine v4_40 dX4_readGrid_54 rfl ⟨rfl, rfl⟩ ⟨rfl, rfl⟩ (ct_X4_advance H1.1 G1.1.1.1.1 G1.1.1.1.2.1 G1.1.1.1.2.2) (fun M4 N4 hq4 => ?_)
        obtain ⟨y2, y3, rfl⟩ := hq4
        have H4 := H1.nx (y3.Rf (q := q))
        refine go_aload_n dX4_readGrid_57 rfl rfl ?_
        refine g4_19 dX4_readGrid_58 ?_
        rw [H4.2.1]
        refine go_aload_n dX4_readGrid_61 rfl rfl ?_
        refine g4_110 dX4_readGrid_62 ?_
        rw [show M4 (6, 0, 0) 11 = M1 (6, 0, 0) 11 from by rw [y2]; rfl]
        refine go_aload_n dX4_readGrid_65 rfl rfl ?_
        refine g4_117 dX4_readGrid_66 ?_
        rw [show M4 (6, 0, 0) 12 = M1 (6, 0, 0) 12 from by rw [y2]; rfl]
        refine go_iload_n dX4_readGrid_69 rfl ?_
        refine v4_132 dX4_readGrid_70 rfl ⟨rfl, rfl⟩ ⟨rfl, rfl⟩ (ct_X3_tellStep (p := q) (by rw [y3.pg]; exact ⟨G1.1.2.1.1, c1⟩) (by rw [y3.pg]; exact (pGs_sv G1 c1 h16 h35).1)) (fun r5 M5 N5 hr5 hq5 => ?_)
        obtain ⟨z5, g5, p5, rfl⟩ := hq5
        rw [y3.pg] at z5 g5
        have s5 := sR_P g5 p5
        rw [y2, H1.2.2] at s5
        have s5 : sR M5 q = (adR b (sR M1 q).1, stS (pGs (sR M1 q)) ((sR M1 q).2 11 0)) := s5
        have f5 : Rf q M M5 := (f1.tr y3.Rf).tr p5.Rf
        have z5 : r5 = (if 1000000 < wtS (pGs (sR M1 q)) ((sR M1 q).2 11 0) then 0 else 1) := z5
        refine go_if_ne (tgt := 85) dX4_readGrid_73 rfl (fun h73 => ?_) (fun h73 => ?_)
        · refine go_iconst dX4_readGrid_85 (R32_lit rfl) ?_
          refine go_goto (tgt := 90) dX4_readGrid_86 rfl ?_
          refine go_retz dX4_readGrid_90 (by first | exact Or.inl rfl | exact Or.inr rfl | omega) ?_
          first
          | (exfalso; omega)
          | (refine ⟨?_, f5, rfl⟩
             unfold pGr
             rw [← e1, bnd_p1 h6]
             unfold pGe
             rw [if_pos (show (sR M1 q).1 5 = 3 from h16), if_neg (show ¬ 8 < (sR M1 q).1 8 from by show ¬ 8 < M1 (6, 0, 0) 8; omega), if_neg (fun z => by rw [if_pos z] at z5; omega), s5])
          | (refine ⟨?_, f5.tr y8.Rf, rfl⟩
             unfold pGr
             rw [← e1, bnd_p1 h6]
             unfold pGe
             rw [if_pos (show (sR M1 q).1 5 = 3 from h16), if_neg (show ¬ 8 < (sR M1 q).1 8 from by show ¬ 8 < M1 (6, 0, 0) 8; omega), if_pos (Decidable.byContradiction (fun z => by rw [if_neg z] at z5; omega)), sR_Z y7 y8, show M5 (6, 0, 0) = adR b (sR M1 q).1 from congrArg Prod.fst s5, g5]
             rfl)
        · refine go_aload_n dX4_readGrid_76 rfl rfl ?_
          refine go_iconst dX4_readGrid_77 (R32_lit rfl) ?_
          refine go_iload_n dX4_readGrid_78 rfl ?_
          refine v4_57 dX4_readGrid_79 rfl ⟨rfl, rfl⟩ ⟨rfl, rfl⟩ ct_X4_fail (fun r6 M6 N6 hr6 hq6 => ?_)
          obtain ⟨y6, y7, y8, rfl⟩ := hq6
          refine go_if_eq (tgt := 89) dX4_readGrid_82 rfl (fun h82 => ?_) (fun h82 => ?_)
          · refine go_iconst dX4_readGrid_89 (R32_lit rfl) ?_
            refine go_retz dX4_readGrid_90 (by first | exact Or.inl rfl | exact Or.inr rfl | omega) ?_
            first
            | (exfalso; omega)
            | (refine ⟨?_, f5, rfl⟩
               unfold pGr
               rw [← e1, bnd_p1 h6]
               unfold pGe
               rw [if_pos (show (sR M1 q).1 5 = 3 from h16), if_neg (show ¬ 8 < (sR M1 q).1 8 from by show ¬ 8 < M1 (6, 0, 0) 8; omega), if_neg (fun z => by rw [if_pos z] at z5; omega), s5])
            | (refine ⟨?_, f5.tr y8.Rf, rfl⟩
               unfold pGr
               rw [← e1, bnd_p1 h6]
               unfold pGe
               rw [if_pos (show (sR M1 q).1 5 = 3 from h16), if_neg (show ¬ 8 < (sR M1 q).1 8 from by show ¬ 8 < M1 (6, 0, 0) 8; omega), if_pos (Decidable.byContradiction (fun z => by rw [if_neg z] at z5; omega)), sR_Z y7 y8, show M5 (6, 0, 0) = adR b (sR M1 q).1 from congrArg Prod.fst s5, g5]
               rfl)
          · refine go_iconst dX4_readGrid_85 (R32_lit rfl) ?_
            refine go_goto (tgt := 90) dX4_readGrid_86 rfl ?_
            refine go_retz dX4_readGrid_90 (by first | exact Or.inl rfl | exact Or.inr rfl | omega) ?_
            first
            | (exfalso; omega)
            | (refine ⟨?_, f5, rfl⟩
               unfold pGr
               rw [← e1, bnd_p1 h6]
               unfold pGe
               rw [if_pos (show (sR M1 q).1 5 = 3 from h16), if_neg (show ¬ 8 < (sR M1 q).1 8 from by show ¬ 8 < M1 (6, 0, 0) 8; omega), if_neg (fun z => by rw [if_pos z] at z5; omega), s5])
            | (refine ⟨?_, f5.tr y8.Rf, rfl⟩
               unfold pGr
               rw [← e1, bnd_p1 h6]
               unfold pGe
               rw [if_pos (show (sR M1 q).1 5 = 3 from h16), if_neg (show ¬ 8 < (sR M1 q).1 8 from by show ¬ 8 < M1 (6, 0, 0) 8; omega), if_pos (Decidable.byContradiction (fun z => by rw [if_neg z] at z5; omega)), sR_Z y7 y8, show M5 (6, 0, 0) = adR b (sR M1 q).1 from congrArg Prod.fst s5, g5]
               rfl)
      · refine go_aload_n dX4_readGrid_38 rfl rfl ?_
        refine go_iconst dX4_readGrid_39 (R32_lit rfl) ?_
        refine go_aload_n dX4_readGrid_40 rfl rfl ?_
        refine g4_54 dX4_readGrid_41 ?_
        refine v4_57 dX4_readGrid_44 rfl ⟨rfl, rfl⟩ ⟨rfl, rfl⟩ ct_X4_fail (fun r3 M3 N3 hr3 hq3 => ?_)
        refine go_retz dX4_readGrid_47 (by first | exact Or.inl rfl | exact Or.inr rfl | omega) ?_
        obtain ⟨u1, u2, u3, rfl⟩ := hq3
        refine ⟨?_, f1.tr u3.Rf, rfl⟩
        unfold pGr
        rw [← e1, bnd_p1 h6]
        unfold pGe
        rw [if_pos (show (sR M1 q).1 5 = 3 from h16), if_pos (show 8 < (sR M1 q).1 8 from by show 8 < M1 (6, 0, 0) 8; omega), sR_Z u2 u3, u1]
        rfl
    · refine go_aload_n dX4_readGrid_19 rfl rfl ?_
      refine go_iconst dX4_readGrid_20 (R32_lit rfl) ?_
      refine go_aload_n dX4_readGrid_21 rfl rfl ?_
      refine g4_54 dX4_readGrid_22 ?_
      refine v4_57 dX4_readGrid_25 rfl ⟨rfl, rfl⟩ ⟨rfl, rfl⟩ ct_X4_fail (fun r2 M2 N2 hr2 hq2 => ?_)
      refine go_retz dX4_readGrid_28 (by first | exact Or.inl rfl | exact Or.inr rfl | omega) ?_
      obtain ⟨u1, u2, u3, rfl⟩ := hq2
      refine ⟨?_, f1.tr u3.Rf, rfl⟩
      unfold pGr
      rw [← e1, bnd_p1 h6]
      unfold pGe
      rw [if_neg (show ¬ (sR M1 q).1 5 = 3 from h16), sR_Z u2 u3, u1]
      rfl
  · refine go_iconst dX4_readGrid_9 (R32_lit rfl) ?_
    refine go_retz dX4_readGrid_10 (by first | exact Or.inl rfl | exact Or.inr rfl | omega) ?_
    refine ⟨?_, f1, rfl⟩
    unfold pGr
    rw [← e1, bnd_p0 h6]
set_option maxRecDepth 100000 in
set_option maxHeartbeats 4000000 in
theorem ct_X4_readInput {E : Ev} {M : Mm} {N : Nn} {q : Nat} {b : Int → Int} (hN : EN E) (hE : ES E) (hH : RH M N q b) (hI : RI 0 (sR M q)) (h15 : pgC M q 11 0 < 15) (h3 : pgC M q 12 0 < 3) : Ct E yX4_readInput cX4_readInput 2 ((some .boolean)) (rmH 8) [vr (6, 0, 0)] M N (qi (fun r M1 N1 => (r, sR M1 q) = pIn b (sR M q) ∧ Rf q M M1 ∧ N = N1)) := by
  refine ct_of (own := RX4) (L0 := [vr (6, 0, 0), vn]) rfl (by decide +kernel) rfl rfl ?_
  refine go_aload_n dX4_readInput_0 rfl rfl ?_
  refine v4_76 dX4_readInput_1 rfl ⟨rfl, rfl⟩ ⟨rfl, rfl⟩ (ct_X4_readNewName hE hH hI) (fun r1 M1 N1 hr1 hq1 => ?_)
  obtain ⟨e1, f1, rfl⟩ := hq1
  refine go_if_eq (tgt := 23) dX4_readInput_4 rfl (fun h4 => ?_) (fun h4 => ?_)
  · refine go_iconst dX4_readInput_23 (R32_lit rfl) ?_
    refine go_retz dX4_readInput_24 (by first | exact Or.inl rfl | exact Or.inr rfl | omega) ?_
    first
    | (refine ⟨?_, ((f1.tr f2).tr f3), rfl⟩
       unfold pIn
       rw [← e1, bnd_p1 h4, ← e2, bnd_p1 h13, ← e3, bnd_p0 h20])
    | (refine ⟨?_, (f1.tr f2), rfl⟩
       unfold pIn
       rw [← e1, bnd_p1 h4, ← e2, bnd_p0 h13])
    | (refine ⟨?_, f1, rfl⟩
       unfold pIn
       rw [← e1, bnd_p0 h4])
  · obtain ⟨a1, I1, K1⟩ := nx_nw hI e1 h4
    have H1 := hH.nx f1
    refine go_aload_n dX4_readInput_7 rfl rfl ?_
    refine s4_91 hE dX4_readInput_8 ?_
    refine v4_93 dX4_readInput_10 rfl ⟨rfl, rfl⟩ ⟨rfl, rfl⟩ (ct_X4_skipWord hE H1 I1 (by decide)) (fun r2 M2 N2 hr2 hq2 => ?_)
    obtain ⟨e2, f2, rfl⟩ := hq2
    refine go_if_eq (tgt := 23) dX4_readInput_13 rfl (fun h13 => ?_) (fun h13 => ?_)
    · refine go_iconst dX4_readInput_23 (R32_lit rfl) ?_
      refine go_retz dX4_readInput_24 (by first | exact Or.inl rfl | exact Or.inr rfl | omega) ?_
      first
      | (refine ⟨?_, ((f1.tr f2).tr f3), rfl⟩
         unfold pIn
         rw [← e1, bnd_p1 h4, ← e2, bnd_p1 h13, ← e3, bnd_p0 h20])
      | (refine ⟨?_, (f1.tr f2), rfl⟩
         unfold pIn
         rw [← e1, bnd_p1 h4, ← e2, bnd_p0 h13])
      | (refine ⟨?_, f1, rfl⟩
         unfold pIn
         rw [← e1, bnd_p0 h4])
    · obtain ⟨a2, I2, K2⟩ := nx_w I1 e2 h13
      have H2 := H1.nx f2
      refine go_aload_n dX4_readInput_16 rfl rfl ?_
      refine v4_96 dX4_readInput_17 rfl ⟨rfl, rfl⟩ ⟨rfl, rfl⟩ (ct_X4_readNumber hN (rd_O H2 I2)) (fun r3 M3 N3 hr3 hq3 => ?_)
      obtain ⟨g3, g3', rfl⟩ := hq3
      obtain ⟨e3, f3⟩ := cv_nm (q := q) H2.2.2 ⟨g3, g3'⟩
      refine go_if_ne (tgt := 25) dX4_readInput_20 rfl (fun h20 => ?_) (fun h20 => ?_)
      · obtain ⟨a3, I3, K3, E3, v3, v3'⟩ := nx_nm I2 e3 h20
        have H3 := H2.nx f3
        refine go_aload_n dX4_readInput_25 rfl rfl ?_
        refine g4_99 dX4_readInput_26 ?_
        refine go_ist1 dX4_readInput_29 rfl rfl ?_
        refine go_aload_n dX4_readInput_30 rfl rfl ?_
        refine s4_102 hE dX4_readInput_31 ?_
        refine v4_93 dX4_readInput_33 rfl ⟨rfl, rfl⟩ ⟨rfl, rfl⟩ (ct_X4_skipWord hE H3 I3 (by decide)) (fun r4 M4 N4 hr4 hq4 => ?_)
        obtain ⟨e4, f4, rfl⟩ := hq4
        refine go_if_ne (tgt := 41) dX4_readInput_36 rfl (fun h36 => ?_) (fun h36 => ?_)
        · obtain ⟨a4, I4, K4⟩ := nx_w I3 e4 h36
          have H4 := H3.nx f4
          refine go_aload_n dX4_readInput_41 rfl rfl ?_
          refine v4_96 dX4_readInput_42 rfl ⟨rfl, rfl⟩ ⟨rfl, rfl⟩ (ct_X4_readNumber hN (rd_O H4 I4)) (fun r5 M5 N5 hr5 hq5 => ?_)
          obtain ⟨g5, g5', rfl⟩ := hq5
          obtain ⟨e5, f5⟩ := cv_nm (q := q) H4.2.2 ⟨g5, g5'⟩
          refine go_if_ne (tgt := 50) dX4_readInput_45 rfl (fun h45 => ?_) (fun h45 => ?_)
          · obtain ⟨a5, I5, K5, E5, v5, v5'⟩ := nx_nm I4 e5 h45
            have H5 := H4.nx f5
            have fr : Rf q M M5 := (((f1.tr f2).tr f3).tr f4).tr f5
            have KK := (K2.tr K3).tr (K4.tr K5)
            have c5 : pgC M5 q 11 0 < 15 := by rw [show pgC M5 q 11 0 = pgC M1 q 11 0 from KK.1, show pgC M1 q = pgC M q from K1]; exact h15
            have d5 : pgC M5 q 12 0 < 3 := by rw [show pgC M5 q 12 0 = pgC M1 q 12 0 from KK.2.1, show pgC M1 q = pgC M q from K1]; exact h3
            refine go_iload_n dX4_readInput_50 rfl ?_
            refine go_aload_n dX4_readInput_51 rfl rfl ?_
            refine g4_99 dX4_readInput_52 ?_
            refine v4_104 dX4_readInput_55 rfl ⟨rfl, rfl⟩ ⟨rfl, rfl⟩ (ct_X7_isEndOf v3) hN (fun r6 M6 N6 hr6 hq6 => ?_)
            obtain ⟨z6, rfl, rfl⟩ := hq6
            have z6 : r6 = if endO ((sR M3 q).1 9) ((sR M5 q).1 9) then 1 else 0 := z6
            refine go_if_ne (tgt := 71) dX4_readInput_58 rfl (fun h58 => ?_) (fun h58 => ?_)
            · refine go_aload_n dX4_readInput_71 rfl rfl ?_
              refine g4_19 dX4_readInput_72 ?_
              rw [H5.2.1]
              refine go_aload_n dX4_readInput_75 rfl rfl ?_
              refine g4_110 dX4_readInput_76 ?_
              refine go_iload_n dX4_readInput_79 rfl ?_
              refine go_aload_n dX4_readInput_80 rfl rfl ?_
              refine g4_99 dX4_readInput_81 ?_
              refine v4_113 dX4_readInput_84 rfl ⟨rfl, rfl⟩ ⟨rfl, rfl⟩ (ct_X3_tellInput (p := q) ⟨I5.2.1.1, c5⟩ ⟨I5.2.1.2.2.1, d5⟩ (tiS_sv I5.2.1 c5 ⟨v3, v3'⟩ ⟨v5, v5'⟩)) (fun M8 N8 hq8 => ?_)
              refine go_iconst dX4_readInput_87 (R32_lit rfl) ?_
              refine go_retz dX4_readInput_88 (by first | exact Or.inl rfl | exact Or.inr rfl | omega) ?_
              obtain ⟨g8, p8, rfl⟩ := hq8
              refine ⟨?_, fr.tr p8.Rf, rfl⟩
              unfold pIn
              rw [← e1, bnd_p1 h4, ← e2, bnd_p1 h13, ← e3, bnd_p1 h20, ← e4, bnd_p1 h36, ← e5, bnd_p1 h45]
              unfold pIe
              rw [if_pos ((b1_iff z6).mp h58), sR_P g8 p8]
              rfl
            · refine go_aload_n dX4_readInput_61 rfl rfl ?_
              refine go_iconst dX4_readInput_62 (R32_lit rfl) ?_
              refine go_aload_n dX4_readInput_63 rfl rfl ?_
              refine g4_107 dX4_readInput_64 ?_
              refine v4_57 dX4_readInput_67 rfl ⟨rfl, rfl⟩ ⟨rfl, rfl⟩ ct_X4_fail (fun r7 M7 N7 hr7 hq7 => ?_)
              refine go_retz dX4_readInput_70 (by first | exact Or.inl rfl | exact Or.inr rfl | omega) ?_
              obtain ⟨u1, u2, u3, rfl⟩ := hq7
              refine ⟨?_, fr.tr u3.Rf, rfl⟩
              unfold pIn
              rw [← e1, bnd_p1 h4, ← e2, bnd_p1 h13, ← e3, bnd_p1 h20, ← e4, bnd_p1 h36, ← e5, bnd_p1 h45]
              unfold pIe
              rw [if_neg (fun z => by rw [if_pos z] at z6; omega), sR_Z u2 u3, u1]
              rfl
          · refine go_iconst dX4_readInput_48 (R32_lit rfl) ?_
            refine go_retz dX4_readInput_49 (by first | exact Or.inl rfl | exact Or.inr rfl | omega) ?_
            refine ⟨?_, ((((f1.tr f2).tr f3).tr f4).tr f5), rfl⟩
            unfold pIn
            rw [← e1, bnd_p1 h4, ← e2, bnd_p1 h13, ← e3, bnd_p1 h20, ← e4, bnd_p1 h36, ← e5, bnd_p0 h45]
        · refine go_iconst dX4_readInput_39 (R32_lit rfl) ?_
          refine go_retz dX4_readInput_40 (by first | exact Or.inl rfl | exact Or.inr rfl | omega) ?_
          refine ⟨?_, (((f1.tr f2).tr f3).tr f4), rfl⟩
          unfold pIn
          rw [← e1, bnd_p1 h4, ← e2, bnd_p1 h13, ← e3, bnd_p1 h20, ← e4, bnd_p0 h36]
      · refine go_iconst dX4_readInput_23 (R32_lit rfl) ?_
        refine go_retz dX4_readInput_24 (by first | exact Or.inl rfl | exact Or.inr rfl | omega) ?_
        first
        | (refine ⟨?_, ((f1.tr f2).tr f3), rfl⟩
           unfold pIn
           rw [← e1, bnd_p1 h4, ← e2, bnd_p1 h13, ← e3, bnd_p0 h20])
        | (refine ⟨?_, (f1.tr f2), rfl⟩
           unfold pIn
           rw [← e1, bnd_p1 h4, ← e2, bnd_p0 h13])
        | (refine ⟨?_, f1, rfl⟩
           unfold pIn
           rw [← e1, bnd_p0 h4])
set_option maxRecDepth 100000 in
set_option maxHeartbeats 4000000 in
theorem ct_X4_readLine {E : Ev} {M : Mm} {N : Nn} {q : Nat} {b : Int → Int} (hN : EN E) (hE : ES E) (hH : RH M N q b) (hI : RI 0 (sR M q)) : Ct E yX4_readLine cX4_readLine 3 ((some .boolean)) (rmH 9) [vr (6, 0, 0)] M N (qi (fun r M1 N1 => (r, sR M1 q) = pLn b (sR M q) ∧ Rf q M M1 ∧ N = N1)) := by
  refine ct_of (own := RX4) (L0 := [vr (6, 0, 0), vn, vn]) rfl (by decide +kernel) rfl rfl ?_
  refine go_aload_n dX4_readLine_0 rfl rfl ?_
  refine s4_65 hE dX4_readLine_1 ?_
  refine v4_67 dX4_readLine_3 rfl ⟨rfl, rfl⟩ ⟨rfl, rfl⟩ (ct_X4_reads hE (w := 0) (by decide) hH.1 hI.1.2.1 hI.1.2.2.1 hI.1.1.2.1 hI.1.1.2.2) (fun r0 M0 N0 hr0 hq0 => ?_)
  obtain ⟨z0, rfl, rfl⟩ := hq0
  have w0 := rd_if (R := M (6, 0, 0)) z0
  rw [hH.2.2] at w0
  have d := hI.2.1
  unfold DrO at d
  refine go_if_eq (tgt := 39) dX4_readLine_6 rfl (fun h6 => ?_) (fun h6 => ?_)
  · have u0 : wdR b (sR M q).1 0 = false := w0.elim (fun q => absurd q.2 (by omega)) (fun q => q.1)
    refine go_aload_n dX4_readLine_39 rfl rfl ?_
    refine s4_74 hE dX4_readLine_40 ?_
    refine v4_67 dX4_readLine_42 rfl ⟨rfl, rfl⟩ ⟨rfl, rfl⟩ (ct_X4_reads hE (w := 3) (by decide) hH.1 hI.1.2.1 hI.1.2.2.1 hI.1.1.2.1 hI.1.1.2.2) (fun r4 M4 N4 hr4 hq4 => ?_)
    obtain ⟨z4, rfl, rfl⟩ := hq4
    have w4 := rd_if (R := M (6, 0, 0)) z4
    rw [hH.2.2] at w4
    refine go_if_ne (tgt := 58) dX4_readLine_45 rfl (fun h45 => ?_) (fun h45 => ?_)
    · have u4 : wdR b (sR M q).1 3 = true := w4.elim (fun q => q.1) (fun q => absurd q.2 (by omega))
      refine go_aload_n dX4_readLine_58 rfl rfl ?_
      refine g4_19 dX4_readLine_59 ?_
      rw [hH.2.1]
      refine v4_50 dX4_readLine_62 rfl ⟨rfl, rfl⟩ ⟨rfl, rfl⟩ (ct_X3_steps (p := q) ⟨by show -2147483648 ≤ (sR M q).2 11 0 - (sR M q).2 12 0; omega, by show (sR M q).2 11 0 - (sR M q).2 12 0 < 2147483648; omega⟩) (fun r6 M6 N6 hr6 hq6 => ?_)
      obtain ⟨z6, rfl, rfl⟩ := hq6
      have z6 : r6 = (sR M q).2 11 0 - (sR M q).2 12 0 := z6
      refine go_bipush dX4_readLine_65 ⟨by decide, by decide⟩ ?_
      refine go_icmp_lt (tgt := 80) dX4_readLine_67 rfl (fun h67 => ?_) (fun h67 => ?_)
      · refine go_aload_n dX4_readLine_80 rfl rfl ?_
        refine v4_40 dX4_readLine_81 rfl ⟨rfl, rfl⟩ ⟨rfl, rfl⟩ (ct_X4_advance hH.1 hI.1.1.1 hI.1.1.2.1 hI.1.1.2.2) (fun M8 N8 hq8 => ?_)
        obtain ⟨y2, y3, rfl⟩ := hq8
        have sA : sR M8 q = (adR b (sR M q).1, (sR M q).2) := by rw [sR_Z y2 y3, hH.2.2]; rfl
        have IA : RI 0 (sR M8 q) := by rw [sA]; exact RI_ad hI
        have HA := hH.nx (y3.Rf (q := q))
        have c8 : (sR M8 q).2 11 0 < 15 := by rw [sA]; show (sR M q).2 11 0 < 15; omega
        have d8 : (sR M8 q).2 11 0 - (sR M8 q).2 12 0 < 12 := by rw [sA]; show (sR M q).2 11 0 - (sR M q).2 12 0 < 12; omega
        refine go_aload_n dX4_readLine_84 rfl rfl ?_
        refine g4_54 dX4_readLine_85 ?_
        rw [show M8 (6, 0, 0) 6 = adR b (sR M q).1 6 from by rw [show M8 (6, 0, 0) = adR b (sR M q).1 from congrArg Prod.fst sA]]
        refine go_ist1 dX4_readLine_88 rfl rfl ?_
        refine go_aload_n dX4_readLine_89 rfl rfl ?_
        refine v4_76 dX4_readLine_90 rfl ⟨rfl, rfl⟩ ⟨rfl, rfl⟩ (ct_X4_readNewName hE HA IA) (fun r9 M9 N9 hr9 hq9 => ?_)
        obtain ⟨e9, f9, rfl⟩ := hq9
        refine go_if_eq (tgt := 105) dX4_readLine_93 rfl (fun h93 => ?_) (fun h93 => ?_)
        · refine go_iconst dX4_readLine_105 (R32_lit rfl) ?_
          refine go_retz dX4_readLine_106 (by first | exact Or.inl rfl | exact Or.inr rfl | omega) ?_
          first
          | (refine ⟨?_, (y3.Rf.tr f9).tr f10, rfl⟩
             unfold pLn
             rw [if_neg (show ¬ wdR b (sR M q).1 0 = true from by rw [u0]; decide), if_pos u4, if_neg (show ¬ 12 ≤ (sR M q).2 11 0 - (sR M q).2 12 0 from by omega), ← sA]
             unfold pLt
             rw [← e9, bnd_p1 h93, ← e10, bnd_p0 h102])
          | (refine ⟨?_, y3.Rf.tr f9, rfl⟩
             unfold pLn
             rw [if_neg (show ¬ wdR b (sR M q).1 0 = true from by rw [u0]; decide), if_pos u4, if_neg (show ¬ 12 ≤ (sR M q).2 11 0 - (sR M q).2 12 0 from by omega), ← sA]
             unfold pLt
             rw [← e9, bnd_p0 h93])
        · obtain ⟨a9, I9, K9⟩ := nx_nw IA e9 h93
          have H9 := HA.nx f9
          refine go_aload_n dX4_readLine_96 rfl rfl ?_
          refine go_bipush dX4_readLine_97 ⟨by decide, by decide⟩ ?_
          refine v4_61 dX4_readLine_99 rfl ⟨rfl, rfl⟩ ⟨rfl, rfl⟩ (ct_X4_skipSign (rd_O H9 I9)) (fun r10 M10 N10 hr10 hq10 => ?_)
          obtain ⟨g10, g10', rfl⟩ := hq10
          obtain ⟨e10, f10⟩ := cv_sg (q := q) H9.2.2 ⟨g10, g10'⟩
          refine go_if_ne (tgt := 107) dX4_readLine_102 rfl (fun h102 => ?_) (fun h102 => ?_)
          · obtain ⟨a10, I10, K10⟩ := nx_sg I9 e10 h102
            have H10 := H9.nx f10
            have c10 : (sR M10 q).2 11 0 < 15 := by rw [K10.1, show (sR M9 q).2 = (sR M8 q).2 from K9]; exact c8
            have d10 : (sR M10 q).2 11 0 - (sR M10 q).2 12 0 < 12 := by rw [K10.1, K10.2.1, show (sR M9 q).2 = (sR M8 q).2 from K9]; exact d8
            have fr : Rf q M M10 := (y3.Rf.tr f9).tr f10
            refine go_aload_n dX4_readLine_107 rfl rfl ?_
            refine s4_79 hE dX4_readLine_108 ?_
            refine v4_67 dX4_readLine_110 rfl ⟨rfl, rfl⟩ ⟨rfl, rfl⟩ (ct_X4_reads hE (w := 5) (by decide) H10.1 I10.1.2.1 I10.1.2.2.1 I10.1.1.2.1 I10.1.1.2.2) (fun r11 M11 N11 hr11 hq11 => ?_)
            obtain ⟨z11, rfl, rfl⟩ := hq11
            have w11 := rd_if (R := M10 (6, 0, 0)) z11
            rw [H10.2.2] at w11
            refine go_if_eq (tgt := 123) dX4_readLine_113 rfl (fun h113 => ?_) (fun h113 => ?_)
            · refine go_aload_n dX4_readLine_123 rfl rfl ?_
              refine v4_84 dX4_readLine_124 rfl ⟨rfl, rfl⟩ ⟨rfl, rfl⟩ (ct_X4_readSum hN hE H10 I10 c10) (fun r12 M12 N12 hr12 hq13 => ?_)
              first
              | (obtain ⟨e12, f12, rfl⟩ := hq13
                 have u11 : ¬ wdR b (sR M10 q).1 5 = true := w11.elim (fun q => absurd q.2 (by omega)) (fun q => by rw [show (sR M10 _).1 = M10 (6, 0, 0) from rfl, q.1]; decide)
                 have n12 : r12 ≠ 0 → GI (sR M12 q) ∧ (sR M12 q).2 11 0 = (sR M10 q).2 11 0 ∧ (sR M12 q).2 12 0 = (sR M10 q).2 12 0 := fun z => (nx_sm I10 e12 z).2
                 have e12 : (r12, sR M12 q) = if wdR b (sR M10 q).1 5 = true then pPk b (sR M10 q) else pSm b (sR M10 q) := by rw [if_neg u11]; exact e12)
              | skip
              refine go_ist2 dX4_readLine_127 rfl rfl ?_
              refine go_iload_n dX4_readLine_128 rfl ?_
              refine go_if_eq (tgt := 144) dX4_readLine_129 rfl (fun h129 => ?_) (fun h129 => ?_)
              · refine go_iconst dX4_readLine_144 (R32_lit rfl) ?_
                refine go_retz dX4_readLine_145 (by first | exact Or.inl rfl | exact Or.inr rfl | omega) ?_
                first
                | (refine ⟨?_, (fr.tr f12).tr f14, rfl⟩
                   unfold pLn
                   rw [if_neg (show ¬ wdR b (sR M q).1 0 = true from by rw [u0]; decide), if_pos u4, if_neg (show ¬ 12 ≤ (sR M q).2 11 0 - (sR M q).2 12 0 from by omega), ← sA]
                   unfold pLt
                   rw [← e9, bnd_p1 h93, ← e10, bnd_p1 h102, ← e12, bnd_p1 h129, ← e14, (nx_gr G12 c12 d12 e14 h137).1])
                | (refine ⟨?_, (fr.tr f12).tr f14, rfl⟩
                   unfold pLn
                   rw [if_neg (show ¬ wdR b (sR M q).1 0 = true from by rw [u0]; decide), if_pos u4, if_neg (show ¬ 12 ≤ (sR M q).2 11 0 - (sR M q).2 12 0 from by omega), ← sA]
                   unfold pLt
                   rw [← e9, bnd_p1 h93, ← e10, bnd_p1 h102, ← e12, bnd_p1 h129, ← e14, h137])
                | (refine ⟨?_, fr.tr f12, rfl⟩
                   unfold pLn
                   rw [if_neg (show ¬ wdR b (sR M q).1 0 = true from by rw [u0]; decide), if_pos u4, if_neg (show ¬ 12 ≤ (sR M q).2 11 0 - (sR M q).2 12 0 from by omega), ← sA]
                   unfold pLt
                   rw [← e9, bnd_p1 h93, ← e10, bnd_p1 h102, ← e12, bnd_p0 h129])
              · have H12 := H10.nx f12
                obtain ⟨G12, k12, k13⟩ := n12 h129
                have c12 : (sR M12 q).2 11 0 < 15 := by rw [k12]; exact c10
                have d12 : (sR M12 q).2 11 0 - (sR M12 q).2 12 0 < 12 := by rw [k12, k13]; exact d10
                refine go_aload_n dX4_readLine_132 rfl rfl ?_
                refine go_iload_n dX4_readLine_133 rfl ?_
                refine v4_87 dX4_readLine_134 rfl ⟨rfl, rfl⟩ ⟨rfl, rfl⟩ (ct_X4_readGrid hE H12 G12 c12) (fun r14 M14 N14 hr14 hq14 => ?_)
                obtain ⟨e14, f14, rfl⟩ := hq14
                refine go_if_eq (tgt := 144) dX4_readLine_137 rfl (fun h137 => ?_) (fun h137 => ?_)
                · refine go_iconst dX4_readLine_144 (R32_lit rfl) ?_
                  refine go_retz dX4_readLine_145 (by first | exact Or.inl rfl | exact Or.inr rfl | omega) ?_
                  first
                  | (refine ⟨?_, (fr.tr f12).tr f14, rfl⟩
                     unfold pLn
                     rw [if_neg (show ¬ wdR b (sR M q).1 0 = true from by rw [u0]; decide), if_pos u4, if_neg (show ¬ 12 ≤ (sR M q).2 11 0 - (sR M q).2 12 0 from by omega), ← sA]
                     unfold pLt
                     rw [← e9, bnd_p1 h93, ← e10, bnd_p1 h102, ← e12, bnd_p1 h129, ← e14, (nx_gr G12 c12 d12 e14 h137).1])
                  | (refine ⟨?_, (fr.tr f12).tr f14, rfl⟩
                     unfold pLn
                     rw [if_neg (show ¬ wdR b (sR M q).1 0 = true from by rw [u0]; decide), if_pos u4, if_neg (show ¬ 12 ≤ (sR M q).2 11 0 - (sR M q).2 12 0 from by omega), ← sA]
                     unfold pLt
                     rw [← e9, bnd_p1 h93, ← e10, bnd_p1 h102, ← e12, bnd_p1 h129, ← e14, h137])
                  | (refine ⟨?_, fr.tr f12, rfl⟩
                     unfold pLn
                     rw [if_neg (show ¬ wdR b (sR M q).1 0 = true from by rw [u0]; decide), if_pos u4, if_neg (show ¬ 12 ≤ (sR M q).2 11 0 - (sR M q).2 12 0 from by omega), ← sA]
                     unfold pLt
                     rw [← e9, bnd_p1 h93, ← e10, bnd_p1 h102, ← e12, bnd_p0 h129])
                · refine go_iconst dX4_readLine_140 (R32_lit rfl) ?_
                  refine go_goto (tgt := 145) dX4_readLine_141 rfl ?_
                  refine go_retz dX4_readLine_145 (by first | exact Or.inl rfl | exact Or.inr rfl | omega) ?_
                  first
                  | (refine ⟨?_, (fr.tr f12).tr f14, rfl⟩
                     unfold pLn
                     rw [if_neg (show ¬ wdR b (sR M q).1 0 = true from by rw [u0]; decide), if_pos u4, if_neg (show ¬ 12 ≤ (sR M q).2 11 0 - (sR M q).2 12 0 from by omega), ← sA]
                     unfold pLt
                     rw [← e9, bnd_p1 h93, ← e10, bnd_p1 h102, ← e12, bnd_p1 h129, ← e14, (nx_gr G12 c12 d12 e14 h137).1])
                  | (refine ⟨?_, (fr.tr f12).tr f14, rfl⟩
                     unfold pLn
                     rw [if_neg (show ¬ wdR b (sR M q).1 0 = true from by rw [u0]; decide), if_pos u4, if_neg (show ¬ 12 ≤ (sR M q).2 11 0 - (sR M q).2 12 0 from by omega), ← sA]
                     unfold pLt
                     rw [← e9, bnd_p1 h93, ← e10, bnd_p1 h102, ← e12, bnd_p1 h129, ← e14, h137])
                  | (refine ⟨?_, fr.tr f12, rfl⟩
                     unfold pLn
                     rw [if_neg (show ¬ wdR b (sR M q).1 0 = true from by rw [u0]; decide), if_pos u4, if_neg (show ¬ 12 ≤ (sR M q).2 11 0 - (sR M q).2 12 0 from by omega), ← sA]
                     unfold pLt
                     rw [← e9, bnd_p1 h93, ← e10, bnd_p1 h102, ← e12, bnd_p0 h129])
            · refine go_aload_n dX4_readLine_116 rfl rfl ?_
              refine v4_81 dX4_readLine_117 rfl ⟨rfl, rfl⟩ ⟨rfl, rfl⟩ (ct_X4_readPick hN hE H10 I10 c10) (fun r12 M12 N12 hr12 hq12 => ?_)
              have u11 : wdR b (sR M10 q).1 5 = true := w11.elim (fun q => q.1) (fun q => absurd q.2 (by omega))
              obtain ⟨e12, f12, rfl⟩ := hq12
              have e12 : (r12, sR M12 q) = if wdR b (sR M10 q).1 5 = true then pPk b (sR M10 q) else pSm b (sR M10 q) := by rw [if_pos u11]; exact e12
              have n12 : r12 ≠ 0 → GI (sR M12 q) ∧ (sR M12 q).2 11 0 = (sR M10 q).2 11 0 ∧ (sR M12 q).2 12 0 = (sR M10 q).2 12 0 := fun z => (nx_pk I10 (by rw [if_pos u11] at e12; exact e12) z).2
              refine go_goto (tgt := 127) dX4_readLine_120 rfl ?_
              first
              | (obtain ⟨e12, f12, rfl⟩ := hq13
                 have u11 : ¬ wdR b (sR M10 q).1 5 = true := w11.elim (fun q => absurd q.2 (by omega)) (fun q => by rw [show (sR M10 _).1 = M10 (6, 0, 0) from rfl, q.1]; decide)
                 have n12 : r12 ≠ 0 → GI (sR M12 q) ∧ (sR M12 q).2 11 0 = (sR M10 q).2 11 0 ∧ (sR M12 q).2 12 0 = (sR M10 q).2 12 0 := fun z => (nx_sm I10 e12 z).2
                 have e12 : (r12, sR M12 q) = if wdR b (sR M10 q).1 5 = true then pPk b (sR M10 q) else pSm b (sR M10 q) := by rw [if_neg u11]; exact e12)
              | skip
              refine go_ist2 dX4_readLine_127 rfl rfl ?_
              refine go_iload_n dX4_readLine_128 rfl ?_
              refine go_if_eq (tgt := 144) dX4_readLine_129 rfl (fun h129 => ?_) (fun h129 => ?_)
              · refine go_iconst dX4_readLine_144 (R32_lit rfl) ?_
                refine go_retz dX4_readLine_145 (by first | exact Or.inl rfl | exact Or.inr rfl | omega) ?_
                first
                | (refine ⟨?_, (fr.tr f12).tr f14, rfl⟩
                   unfold pLn
                   rw [if_neg (show ¬ wdR b (sR M q).1 0 = true from by rw [u0]; decide), if_pos u4, if_neg (show ¬ 12 ≤ (sR M q).2 11 0 - (sR M q).2 12 0 from by omega), ← sA]
                   unfold pLt
                   rw [← e9, bnd_p1 h93, ← e10, bnd_p1 h102, ← e12, bnd_p1 h129, ← e14, (nx_gr G12 c12 d12 e14 h137).1])
                | (refine ⟨?_, (fr.tr f12).tr f14, rfl⟩
                   unfold pLn
                   rw [if_neg (show ¬ wdR b (sR M q).1 0 = true from by rw [u0]; decide), if_pos u4, if_neg (show ¬ 12 ≤ (sR M q).2 11 0 - (sR M q).2 12 0 from by omega), ← sA]
                   unfold pLt
                   rw [← e9, bnd_p1 h93, ← e10, bnd_p1 h102, ← e12, bnd_p1 h129, ← e14, h137])
                | (refine ⟨?_, fr.tr f12, rfl⟩
                   unfold pLn
                   rw [if_neg (show ¬ wdR b (sR M q).1 0 = true from by rw [u0]; decide), if_pos u4, if_neg (show ¬ 12 ≤ (sR M q).2 11 0 - (sR M q).2 12 0 from by omega), ← sA]
                   unfold pLt
                   rw [← e9, bnd_p1 h93, ← e10, bnd_p1 h102, ← e12, bnd_p0 h129])
              · have H12 := H10.nx f12
                obtain ⟨G12, k12, k13⟩ := n12 h129
                have c12 : (sR M12 q).2 11 0 < 15 := by rw [k12]; exact c10
                have d12 : (sR M12 q).2 11 0 - (sR M12 q).2 12 0 < 12 := by rw [k12, k13]; exact d10
                refine go_aload_n dX4_readLine_132 rfl rfl ?_
                refine go_iload_n dX4_readLine_133 rfl ?_
                refine v4_87 dX4_readLine_134 rfl ⟨rfl, rfl⟩ ⟨rfl, rfl⟩ (ct_X4_readGrid hE H12 G12 c12) (fun r14 M14 N14 hr14 hq14 => ?_)
                obtain ⟨e14, f14, rfl⟩ := hq14
                refine go_if_eq (tgt := 144) dX4_readLine_137 rfl (fun h137 => ?_) (fun h137 => ?_)
                · refine go_iconst dX4_readLine_144 (R32_lit rfl) ?_
                  refine go_retz dX4_readLine_145 (by first | exact Or.inl rfl | exact Or.inr rfl | omega) ?_
                  first
                  | (refine ⟨?_, (fr.tr f12).tr f14, rfl⟩
                     unfold pLn
                     rw [if_neg (show ¬ wdR b (sR M q).1 0 = true from by rw [u0]; decide), if_pos u4, if_neg (show ¬ 12 ≤ (sR M q).2 11 0 - (sR M q).2 12 0 from by omega), ← sA]
                     unfold pLt
                     rw [← e9, bnd_p1 h93, ← e10, bnd_p1 h102, ← e12, bnd_p1 h129, ← e14, (nx_gr G12 c12 d12 e14 h137).1])
                  | (refine ⟨?_, (fr.tr f12).tr f14, rfl⟩
                     unfold pLn
                     rw [if_neg (show ¬ wdR b (sR M q).1 0 = true from by rw [u0]; decide), if_pos u4, if_neg (show ¬ 12 ≤ (sR M q).2 11 0 - (sR M q).2 12 0 from by omega), ← sA]
                     unfold pLt
                     rw [← e9, bnd_p1 h93, ← e10, bnd_p1 h102, ← e12, bnd_p1 h129, ← e14, h137])
                  | (refine ⟨?_, fr.tr f12, rfl⟩
                     unfold pLn
                     rw [if_neg (show ¬ wdR b (sR M q).1 0 = true from by rw [u0]; decide), if_pos u4, if_neg (show ¬ 12 ≤ (sR M q).2 11 0 - (sR M q).2 12 0 from by omega), ← sA]
                     unfold pLt
                     rw [← e9, bnd_p1 h93, ← e10, bnd_p1 h102, ← e12, bnd_p0 h129])
                · refine go_iconst dX4_readLine_140 (R32_lit rfl) ?_
                  refine go_goto (tgt := 145) dX4_readLine_141 rfl ?_
                  refine go_retz dX4_readLine_145 (by first | exact Or.inl rfl | exact Or.inr rfl | omega) ?_
                  first
                  | (refine ⟨?_, (fr.tr f12).tr f14, rfl⟩
                     unfold pLn
                     rw [if_neg (show ¬ wdR b (sR M q).1 0 = true from by rw [u0]; decide), if_pos u4, if_neg (show ¬ 12 ≤ (sR M q).2 11 0 - (sR M q).2 12 0 from by omega), ← sA]
                     unfold pLt
                     rw [← e9, bnd_p1 h93, ← e10, bnd_p1 h102, ← e12, bnd_p1 h129, ← e14, (nx_gr G12 c12 d12 e14 h137).1])
                  | (refine ⟨?_, (fr.tr f12).tr f14, rfl⟩
                     unfold pLn
                     rw [if_neg (show ¬ wdR b (sR M q).1 0 = true from by rw [u0]; decide), if_pos u4, if_neg (show ¬ 12 ≤ (sR M q).2 11 0 - (sR M q).2 12 0 from by omega), ← sA]
                     unfold pLt
                     rw [← e9, bnd_p1 h93, ← e10, bnd_p1 h102, ← e12, bnd_p1 h129, ← e14, h137])
                  | (refine ⟨?_, fr.tr f12, rfl⟩
                     unfold pLn
                     rw [if_neg (show ¬ wdR b (sR M q).1 0 = true from by rw [u0]; decide), if_pos u4, if_neg (show ¬ 12 ≤ (sR M q).2 11 0 - (sR M q).2 12 0 from by omega), ← sA]
                     unfold pLt
                     rw [← e9, bnd_p1 h93, ← e10, bnd_p1 h102, ← e12, bnd_p0 h129])
          · refine go_iconst dX4_readLine_105 (R32_lit rfl) ?_
            refine go_retz dX4_readLine_106 (by first | exact Or.inl rfl | exact Or.inr rfl | omega) ?_
            first
            | (refine ⟨?_, (y3.Rf.tr f9).tr f10, rfl⟩
               unfold pLn
               rw [if_neg (show ¬ wdR b (sR M q).1 0 = true from by rw [u0]; decide), if_pos u4, if_neg (show ¬ 12 ≤ (sR M q).2 11 0 - (sR M q).2 12 0 from by omega), ← sA]
               unfold pLt
               rw [← e9, bnd_p1 h93, ← e10, bnd_p0 h102])
            | (refine ⟨?_, y3.Rf.tr f9, rfl⟩
               unfold pLn
               rw [if_neg (show ¬ wdR b (sR M q).1 0 = true from by rw [u0]; decide), if_pos u4, if_neg (show ¬ 12 ≤ (sR M q).2 11 0 - (sR M q).2 12 0 from by omega), ← sA]
               unfold pLt
               rw [← e9, bnd_p0 h93])
      · refine go_aload_n dX4_readLine_70 rfl rfl ?_
        refine go_iconst dX4_readLine_71 (R32_lit rfl) ?_
        refine go_aload_n dX4_readLine_72 rfl rfl ?_
        refine g4_54 dX4_readLine_73 ?_
        refine v4_57 dX4_readLine_76 rfl ⟨rfl, rfl⟩ ⟨rfl, rfl⟩ ct_X4_fail (fun r7 M7 N7 hr7 hq7 => ?_)
        refine go_retz dX4_readLine_79 (by first | exact Or.inl rfl | exact Or.inr rfl | omega) ?_
        obtain ⟨u1, u2, u3, rfl⟩ := hq7
        refine ⟨?_, u3.Rf, rfl⟩
        unfold pLn
        rw [if_neg (show ¬ wdR b (sR M q).1 0 = true from by rw [u0]; decide), if_pos u4, if_pos (show 12 ≤ (sR M q).2 11 0 - (sR M q).2 12 0 from by omega), sR_Z u2 u3, u1]
        rfl
    · have u4 : ¬ wdR b (sR M q).1 3 = true := w4.elim (fun q => absurd q.2 (by omega)) (fun q => by rw [show (sR M _).1 = M (6, 0, 0) from rfl, q.1]; decide)
      refine go_aload_n dX4_readLine_48 rfl rfl ?_
      refine go_iconst dX4_readLine_49 (R32_lit rfl) ?_
      refine go_aload_n dX4_readLine_50 rfl rfl ?_
      refine g4_54 dX4_readLine_51 ?_
      refine v4_57 dX4_readLine_54 rfl ⟨rfl, rfl⟩ ⟨rfl, rfl⟩ ct_X4_fail (fun r5 M5 N5 hr5 hq5 => ?_)
      refine go_retz dX4_readLine_57 (by first | exact Or.inl rfl | exact Or.inr rfl | omega) ?_
      obtain ⟨u1, u2, u3, rfl⟩ := hq5
      refine ⟨?_, u3.Rf, rfl⟩
      unfold pLn
      rw [if_neg (show ¬ wdR b (sR M q).1 0 = true from by rw [u0]; decide), if_neg u4, sR_Z u2 u3, u1]
      rfl
  · have u0 : wdR b (sR M q).1 0 = true := w0.elim (fun q => q.1) (fun q => absurd q.2 (by omega))
    refine go_aload_n dX4_readLine_9 rfl rfl ?_
    refine g4_19 dX4_readLine_10 ?_
    rw [hH.2.1]
    refine g4_28 dX4_readLine_13 ?_
    refine go_iconst dX4_readLine_16 (R32_lit rfl) ?_
    refine go_icmp_lt (tgt := 30) dX4_readLine_17 rfl (fun h17 => ?_) (fun h17 => ?_)
    · refine go_aload_n dX4_readLine_30 rfl rfl ?_
      refine v4_40 dX4_readLine_31 rfl ⟨rfl, rfl⟩ ⟨rfl, rfl⟩ (ct_X4_advance hH.1 hI.1.1.1 hI.1.1.2.1 hI.1.1.2.2) (fun M2 N2 hq2 => ?_)
      obtain ⟨y2, y3, rfl⟩ := hq2
      have sA : sR M2 q = (adR b (sR M q).1, (sR M q).2) := by rw [sR_Z y2 y3, hH.2.2]; rfl
      have IA : RI 0 (sR M2 q) := by rw [sA]; exact RI_ad hI
      have HA := hH.nx (y3.Rf (q := q))
      have c2 : pgC M2 q 11 0 < 15 := by rw [show pgC M2 q = pgC M q from congrArg Prod.snd sA]; show (sR M q).2 11 0 < 15; have : (sR M q).2 12 0 < 3 := h17; omega
      have c3 : pgC M2 q 12 0 < 3 := by rw [show pgC M2 q = pgC M q from congrArg Prod.snd sA]; exact h17
      refine go_aload_n dX4_readLine_34 rfl rfl ?_
      refine v4_71 dX4_readLine_35 rfl ⟨rfl, rfl⟩ ⟨rfl, rfl⟩ (ct_X4_readInput hN hE HA IA c2 c3) (fun r3 M3 N3 hr3 hq3 => ?_)
      obtain ⟨e3, f3, rfl⟩ := hq3
      have o3 : r3 = 0 ∨ r3 = 1 := by
        by_cases z : r3 = 0
        · exact Or.inl z
        · exact Or.inr (nx_in IA c2 c3 e3 z).1
      refine go_retz dX4_readLine_38 (by first | exact Or.inl rfl | exact Or.inr rfl | omega) ?_
      refine ⟨?_, y3.Rf.tr f3, rfl⟩
      unfold pLn
      rw [if_pos u0, if_neg (show ¬ 3 ≤ (sR M q).2 12 0 from by show ¬ 3 ≤ M (18, q, 0) 12; omega), ← sA]
      exact e3
    · refine go_aload_n dX4_readLine_20 rfl rfl ?_
      refine go_iconst dX4_readLine_21 (R32_lit rfl) ?_
      refine go_aload_n dX4_readLine_22 rfl rfl ?_
      refine g4_54 dX4_readLine_23 ?_
      refine v4_57 dX4_readLine_26 rfl ⟨rfl, rfl⟩ ⟨rfl, rfl⟩ ct_X4_fail (fun r1 M1 N1 hr1 hq1 => ?_)
      refine go_retz dX4_readLine_29 (by first | exact Or.inl rfl | exact Or.inr rfl | omega) ?_
      obtain ⟨u1, u2, u3, rfl⟩ := hq1
      refine ⟨?_, u3.Rf, rfl⟩
      unfold pLn
      rw [if_pos u0, if_pos (show 3 ≤ (sR M q).2 12 0 from by show 3 ≤ M (18, q, 0) 12; omega), sR_Z u2 u3, u1]
      rfl
