def Cf (M M1 : Mm) : Prop := ∀ n : Nm, n ≠ (20, 0, 0) → n ≠ (21, 0, 0) → M1 n = M n
theorem Cf.bf {M M1 : Mm} (h : Cf M M1) : Bf M M1 := fun n _ _ _ d e _ => h n d e
theorem Cf.pg {M M1 : Mm} {p : Nat} (h : Cf M M1) : pgC M1 p = pgC M p := by
  funext k j
  unfold pgC
  rw [h (18, p, 0) (nm_ne1 (by decide)) (nm_ne1 (by decide)), h (19, p, k) (nm_ne1 (by decide)) (nm_ne1 (by decide))]
theorem PcM.a {M M1 M2 : Mm} {S : Pg} {c : Pc} (h : PcM M c) (h20 : M1 (20, 0, 0) = cpR (M (20, 0, 0)) (spW c * 3) (c.2.2.2.1 * 3)) (h21 : M1 (21, 0, 0) = cpR (M (21, 0, 0)) (spW c * 3) (c.2.2.2.1 * 3)) (hf : Cf M M1) (e : M2 = wr M1 (21, 0, 0) (c.2.2.2.1 * 3 + spI S c) (spM S c)) : PcM M2 (spA S c) := by
  obtain ⟨p1, p2, p3, p4, p5, p6⟩ := h
  rw [e]
  refine ⟨?_, ?_, ?_, ?_, ?_, ?_⟩
  · rw [wr_nf (nm_ne1 (by decide)), h20, p1]; rfl
  · rw [upI_wr, h21, p2]; rfl
  · rw [wr_nf (nm_ne1 (by decide)), hf _ (nm_ne1 (by decide)) (nm_ne1 (by decide))]; exact p3
  · rw [wr_nf (nm_ne1 (by decide)), hf _ (nm_ne1 (by decide)) (nm_ne1 (by decide))]; exact p4
  · rw [wr_nf (nm_ne1 (by decide)), hf _ (nm_ne1 (by decide)) (nm_ne1 (by decide))]; exact p5
  · rw [wr_nf (nm_ne1 (by decide)), hf _ (nm_ne1 (by decide)) (nm_ne1 (by decide))]; exact p6
theorem PcM.b {M M1 M2 : Mm} {S : Pg} {c d : Pc} (h : PcM M d) (h20 : M1 (20, 0, 0) = cpR (M (20, 0, 0)) (spW c * 3) (d.2.2.2.1 * 3)) (h21 : M1 (21, 0, 0) = cpR (M (21, 0, 0)) (spW c * 3) (d.2.2.2.1 * 3)) (hf : Cf M M1) (e : M2 = wr M1 (20, 0, 0) (d.2.2.2.1 * 3 + spI S c) (spM S c)) : PcM M2 (spB S c d) := by
  obtain ⟨p1, p2, p3, p4, p5, p6⟩ := h
  rw [e]
  refine ⟨?_, ?_, ?_, ?_, ?_, ?_⟩
  · rw [upI_wr, h20, p1]; rfl
  · rw [wr_nf (nm_ne1 (by decide)), h21, p2]; rfl
  · rw [wr_nf (nm_ne1 (by decide)), hf _ (nm_ne1 (by decide)) (nm_ne1 (by decide))]; exact p3
  · rw [wr_nf (nm_ne1 (by decide)), hf _ (nm_ne1 (by decide)) (nm_ne1 (by decide))]; exact p4
  · rw [wr_nf (nm_ne1 (by decide)), hf _ (nm_ne1 (by decide)) (nm_ne1 (by decide))]; exact p5
  · rw [wr_nf (nm_ne1 (by decide)), hf _ (nm_ne1 (by decide)) (nm_ne1 (by decide))]; exact p6
theorem cpR_lt {g : Int → Int} {a b j i : Int} (h : j < b) (hi : i < 3) (q : j * 3 + i < b * 3) : cpR g a (b * 3) (j * 3 + i) = g (j * 3 + i) := by
  unfold cpR
  rw [if_neg (by omega)]
/-- the older rows stay as they are -/
theorem spA_old {S : Pg} {c : Pc} (hn : S 12 0 ≤ 3) {q : Int} (hq : q < c.2.2.2.1) (h : rgO S c.1 c.2.1 (q * 3)) (hi : 0 ≤ spI S c) : rgO S (spA S c).1 (spA S c).2.1 (q * 3) := fun i i0 i1 => by
  have := h i i0 i1
  show -1000 ≤ cpR c.1 _ (c.2.2.2.1 * 3) (q * 3 + i) ∧ cpR c.1 _ (c.2.2.2.1 * 3) (q * 3 + i) ≤ upI (cpR c.2.1 _ (c.2.2.2.1 * 3)) (c.2.2.2.1 * 3 + spI S c) _ (q * 3 + i) ∧ upI (cpR c.2.1 _ (c.2.2.2.1 * 3)) (c.2.2.2.1 * 3 + spI S c) _ (q * 3 + i) ≤ 1000
  rw [upI_out (by omega), cpR_out (by omega), cpR_out (by omega)]
  exact this
set_option maxRecDepth 100000 in
set_option maxHeartbeats 4000000 in
theorem ct_X2_splitWorst {E : Ev} {M : Mm} {N : Nn} {S : Pg} {c : Pc} (hS : Rn S (pgC M 0)) (hP : PcM M c) (hF : hasF M) (m0 : 1 ≤ c.2.2.2.1) (m1 : c.2.2.2.1 ≤ 81) (s0 : 0 ≤ c.2.2.2.2.1) (s1 : c.2.2.2.2.1 ≤ 100) (n0 : 0 ≤ S 12 0) (n1 : S 12 0 ≤ 3) (hb : ∀ j, 0 ≤ j → j < c.2.2.2.1 → rgO S c.1 c.2.1 (j * 3)) (hR : ∀ lo hi b, rgO S lo hi b → RC (rgS S lo hi b (S 12 0).toNat)) (hW : Clo S (wB (S 7 c.2.2.2.2.2))) (a0 : 0 ≤ c.2.2.2.2.2) (a1 : c.2.2.2.2.2 < S 11 0) (ha : S 0 c.2.2.2.2.2 = -2 ∨ wB (S 7 c.2.2.2.2.2) c.2.2.2.2.2 = true) : Ct E yX2_splitWorst cX2_splitWorst 5 ((some .boolean)) (rmH 8) [vr (17, 0, 0)] M N (qi (fun r M1 N1 => ((spZ S c ∧ r = 0 ∧ PcM M1 c) ∨ (¬ spZ S c ∧ r = 1 ∧ PcM M1 (spS S c))) ∧ Rn S (pgC M1 0) ∧ hasF M1 ∧ Kf M M1 ∧ Nf 1 N N1)) := by
  refine ct_of (own := RX2) (L0 := [vr (17, 0, 0), vn, vn, vn, vn]) rfl (by decide +kernel) rfl rfl ?_
  obtain ⟨p1, p2, p3, p4, p5, p6⟩ := id hP
  have h12 : M (18, 0, 0) 12 = S 12 0 := congrFun (hS.k (k := 12) (by decide) (by decide)) 0
  refine go_aload_n dX2_splitWorst_0 rfl rfl ?_
  refine v2_61 dX2_splitWorst_1 rfl ⟨rfl, rfl⟩ ⟨rfl, rfl⟩ (ct_X2_worstPiece (by omega) (by omega)) (fun r1 M1 N1 hr1 hq1 => ?_)
  obtain ⟨e1, rfl, rfl⟩ := hq1
  have hwb := wpS_bd c.2.2.1 c.2.2.2.1.toNat
  have e1 : r1 = spW c := by rw [e1, p3, p4]; rfl
  have hw0 : 0 ≤ r1 ∧ r1 < c.2.2.2.1 := by
    rw [e1]
    unfold spW
    omega
  have hbw := hb r1 hw0.1 hw0.2
  refine go_ist1 dX2_splitWorst_4 rfl rfl ?_
  refine go_aload_n dX2_splitWorst_5 rfl rfl ?_
  refine go_iload_n dX2_splitWorst_6 rfl ?_
  refine v2_65 dX2_splitWorst_7 rfl ⟨rfl, rfl⟩ ⟨rfl, rfl⟩ (ct_X2_widestInput hw0.1 (by omega) (by omega) (by omega) (by rw [h12, p1, p2]; exact hbw)) (fun r2 M1 N1 hr2 hq2 => ?_)
  obtain ⟨e2, rfl, rfl⟩ := hq2
  have hib := wdS_bd c.1 c.2.1 (spW c * 3) (S 12 0).toNat
  have e2 : r2 = spI S c := by rw [e2, p1, p2, h12, e1]; rfl
  have hi0 : -1 ≤ r2 ∧ r2 < S 12 0 := by
    rw [e2]
    unfold spI
    omega
  refine go_ist2 dX2_splitWorst_10 rfl rfl ?_
  refine go_iload_n dX2_splitWorst_11 rfl ?_
  refine go_iconst dX2_splitWorst_12 (R32_lit rfl) ?_
  refine go_icmp_eq (tgt := 27) dX2_splitWorst_13 rfl (fun h13 => ?_) (fun h13 => ?_)
  · refine go_iconst dX2_splitWorst_27 (R32_lit rfl) ?_
    refine go_retz dX2_splitWorst_28 (by first | exact Or.inl rfl | exact Or.inr rfl | omega) ?_
    refine ⟨Or.inl ⟨?_, rfl, hP⟩, hS, hF, Kf.rf, Nf.rf⟩
    unfold spZ
    omega
  · refine go_aload_n dX2_splitWorst_16 rfl rfl ?_
    refine g2_44 dX2_splitWorst_17 ?_
    rw [p4]
    refine go_iconst dX2_splitWorst_20 (R32_lit rfl) ?_
    refine go_iaddc dX2_splitWorst_21 ⟨by omega, by omega⟩ ?_
    refine go_bipush dX2_splitWorst_22 ⟨by decide, by decide⟩ ?_
    refine go_icmp_le (tgt := 29) dX2_splitWorst_24 rfl (fun h24 => ?_) (fun h24 => ?_)
    · have hri : 0 ≤ r2 := by omega
      have hnz : ¬ spZ S c := fun z => by
        unfold spZ at z
        omega
      have hbi := hbw r2 hri hi0.2
      have hmid := mid_bd hbi.2.1
      rw [e1] at hbw
      refine go_iload_n dX2_splitWorst_29 rfl ?_
      refine go_iconst dX2_splitWorst_30 (R32_lit rfl) ?_
      refine go_imulc dX2_splitWorst_31 ⟨by omega, by omega⟩ ?_
      refine go_iload_n dX2_splitWorst_32 rfl ?_
      refine go_iaddc dX2_splitWorst_33 ⟨by omega, by omega⟩ ?_
      refine go_ist3 dX2_splitWorst_34 rfl rfl ?_
      refine go_aload_n dX2_splitWorst_35 rfl rfl ?_
      refine g2_25 dX2_splitWorst_36 ?_
      refine go_iload_n dX2_splitWorst_39 rfl ?_
      rw [show r1 * 3 + r2 = r1 * 3 + r2 from rfl]
      refine go_iald dX2_splitWorst_40 rfl (by omega) (by omega) ?_
      rw [p1]
      refine go_aload_n dX2_splitWorst_41 rfl rfl ?_
      refine g2_29 dX2_splitWorst_42 ?_
      refine go_iload_n dX2_splitWorst_45 rfl ?_
      refine go_iald dX2_splitWorst_46 rfl (by omega) (by omega) ?_
      rw [p2]
      refine go_aload_n dX2_splitWorst_47 rfl rfl ?_
      refine g2_25 dX2_splitWorst_48 ?_
      refine go_iload_n dX2_splitWorst_51 rfl ?_
      refine go_iald dX2_splitWorst_52 rfl (by omega) (by omega) ?_
      rw [p1]
      refine go_isubc dX2_splitWorst_53 ⟨by omega, by omega⟩ ?_
      refine go_iconst dX2_splitWorst_54 (R32_lit rfl) ?_
      refine go_idivc dX2_splitWorst_55 (by decide) ⟨by omega, by omega⟩ ?_
      refine go_iaddc dX2_splitWorst_56 ⟨by omega, by omega⟩ ?_
      refine go_nmi (fun x ex => ?_)
      have ex : x = spM S c := by rw [ex, e1, e2]; rfl
      refine go_ist4 dX2_splitWorst_57 rfl rfl ?_
      refine go_aload_n dX2_splitWorst_59 rfl rfl ?_
      refine go_iload_n dX2_splitWorst_60 rfl ?_
      refine v2_69 dX2_splitWorst_61 rfl ⟨rfl, rfl⟩ ⟨rfl, rfl⟩ (ct_X2_copyToNext hw0.1 (by omega) p4 (by omega) (by omega)) (fun M1 N1 hq3 => ?_)
      obtain ⟨g1, g2, g3, rfl⟩ := hq3
      have g3 : Cf M M1 := g3
      have k5 : M1 (17, 0, 0) 5 = c.2.2.2.1 := by rw [g3 _ (nm_ne1 (by decide)) (nm_ne1 (by decide))]; exact p4
      refine go_aload_n dX2_splitWorst_64 rfl rfl ?_
      refine g2_29 dX2_splitWorst_65 ?_
      refine go_aload_n dX2_splitWorst_68 rfl rfl ?_
      refine g2_44 dX2_splitWorst_69 ?_
      rw [k5]
      refine go_iconst dX2_splitWorst_72 (R32_lit rfl) ?_
      refine go_imulc dX2_splitWorst_73 ⟨by omega, by omega⟩ ?_
      refine go_iload_n dX2_splitWorst_74 rfl ?_
      refine go_iaddc dX2_splitWorst_75 ⟨by omega, by omega⟩ ?_
      refine go_iload dX2_splitWorst_76 rfl ?_
      refine go_iast dX2_splitWorst_78 rfl (by omega) (by omega) ?_
      refine go_nmM (fun M2 eM2 => ?_)
      have hPA : PcM M2 (spA S c) := hP.a (by rw [← e1]; exact g1) (by rw [← e1]; exact g2) g3 (by rw [eM2, e2, ex])
      have hSA : Rn S (pgC M2 0) := by rw [eM2, pgC_w (by decide) (by decide), g3.pg]; exact hS
      have hFA : hasF M2 := by rw [eM2]; exact g3.bf.w21.hasF hF
      have hmx : c.1 (spW c * 3 + spI S c) ≤ spM S c ∧ spM S c ≤ c.2.1 (spW c * 3 + spI S c) := by
        have h := hmid
        rw [e1, e2] at h
        exact h
      have hRA : RC (kmP S (spA S c)) := hR _ _ _ (rgO.a hbw n1 hmx)
      refine go_aload_n dX2_splitWorst_79 rfl rfl ?_
      refine v2_58 dX2_splitWorst_80 rfl ⟨rfl, rfl⟩ ⟨rfl, rfl⟩ (ct_X2_keepMade hSA hPA hFA (by show 0 ≤ c.2.2.2.1; omega) (by show c.2.2.2.1 < 81; omega) hRA hW a0 a1 ha) (fun M3 N3 hq4 => ?_)
      obtain ⟨u1, u2, u3, u4, u5⟩ := hq4
      have hP3 := u3
      obtain ⟨d1, d2, d3, d4, d5, d6⟩ := id u3
      have hold : rgO S (kmS S (spA S c)).1 (kmS S (spA S c)).2.1 (spW c * 3) := spA_old n1 (by rw [← e1]; exact hw0.2) hbw (by omega)
      refine go_aload_n dX2_splitWorst_83 rfl rfl ?_
      refine go_iload_n dX2_splitWorst_84 rfl ?_
      refine v2_69 dX2_splitWorst_85 rfl ⟨rfl, rfl⟩ ⟨rfl, rfl⟩ (ct_X2_copyToNext (m := c.2.2.2.1 + 1) hw0.1 (by omega) d4 (by omega) (by omega)) (fun M4 N4 hq5 => ?_)
      obtain ⟨v1, v2, v3, rfl⟩ := hq5
      have v3 : Cf M3 M4 := v3
      have k6 : M4 (17, 0, 0) 5 = c.2.2.2.1 + 1 := by rw [v3 _ (nm_ne1 (by decide)) (nm_ne1 (by decide))]; exact d4
      refine go_aload_n dX2_splitWorst_88 rfl rfl ?_
      refine g2_25 dX2_splitWorst_89 ?_
      refine go_aload_n dX2_splitWorst_92 rfl rfl ?_
      refine g2_44 dX2_splitWorst_93 ?_
      rw [k6]
      refine go_iconst dX2_splitWorst_96 (R32_lit rfl) ?_
      refine go_imulc dX2_splitWorst_97 ⟨by omega, by omega⟩ ?_
      refine go_iload_n dX2_splitWorst_98 rfl ?_
      refine go_iaddc dX2_splitWorst_99 ⟨by omega, by omega⟩ ?_
      refine go_iload dX2_splitWorst_100 rfl ?_
      refine go_iast dX2_splitWorst_102 rfl (by omega) (by omega) ?_
      refine go_nmM (fun M5 eM5 => ?_)
      have hPB : PcM M5 (spB S c (kmS S (spA S c))) := u3.b (by rw [← e1]; exact v1) (by rw [← e1]; exact v2) v3 (by rw [eM5, e2, ex]; rfl)
      have hSB : Rn S (pgC M5 0) := by rw [eM5, pgC_w (by decide) (by decide), v3.pg]; exact u1
      have hFB : hasF M5 := by rw [eM5]; exact v3.bf.w20.hasF u2
      have hmy : (kmS S (spA S c)).1 (spW c * 3 + spI S c) ≤ spM S c ∧ spM S c ≤ (kmS S (spA S c)).2.1 (spW c * 3 + spI S c) := by
        show cpR c.1 _ (c.2.2.2.1 * 3) _ ≤ _ ∧ _ ≤ upI (cpR c.2.1 _ (c.2.2.2.1 * 3)) (c.2.2.2.1 * 3 + spI S c) _ _
        rw [upI_out (by omega), cpR_out (by omega), cpR_out (by omega)]
        exact hmx
      have hRB : RC (kmP S (spB S c (kmS S (spA S c)))) := hR _ _ _ (rgO.b hold n1 hmy)
      refine go_aload_n dX2_splitWorst_103 rfl rfl ?_
      refine v2_58 dX2_splitWorst_104 rfl ⟨rfl, rfl⟩ ⟨rfl, rfl⟩ (ct_X2_keepMade hSB hPB hFB (by show 0 ≤ c.2.2.2.1 + 1; omega) (by show c.2.2.2.1 + 1 < 81; omega) hRB hW a0 a1 ha) (fun M6 N6 hq6 => ?_)
      obtain ⟨y1, y2, y3, y4, y5⟩ := hq6
      obtain ⟨z1, z2, z3, z4, z5, z6⟩ := id y3
      have z5' : M6 (17, 0, 0) 6 = c.2.2.2.2.1 := z5
      refine go_aload_n dX2_splitWorst_107 rfl rfl ?_
      refine g2_32 dX2_splitWorst_108 ?_
      refine go_iload_n dX2_splitWorst_111 rfl ?_
      refine c2_73 dX2_splitWorst_112 ?_
      refine go_last dX2_splitWorst_115 rfl (by omega) (by omega) ?_
      refine go_aload_n dX2_splitWorst_116 rfl rfl ?_
      first | refine go_dup_r dX2_splitWorst_117 ?_ | refine go_dup_i dX2_splitWorst_117 ?_
      refine g2_47 dX2_splitWorst_118 ?_
      rw [wr_nn (nm_ne1 (by decide)), z5']
      refine go_iconst dX2_splitWorst_121 (R32_lit rfl) ?_
      refine go_iaddc dX2_splitWorst_122 ⟨by omega, by omega⟩ ?_
      refine p2_47 dX2_splitWorst_123 ?_
      refine go_iconst dX2_splitWorst_126 (R32_lit rfl) ?_
      refine go_retz dX2_splitWorst_127 (by first | exact Or.inl rfl | exact Or.inr rfl | omega) ?_
      refine ⟨Or.inr ⟨hnz, rfl, ?_⟩, ?_, ?_, ?_, u5.tr y5⟩
      · refine ⟨?_, ?_, ?_, ?_, ?_, ?_⟩
        · rw [wr_nf (nm_ne1 (by decide)), wr_nf (nm_ne1 (by decide))]; exact z1
        · rw [wr_nf (nm_ne1 (by decide)), wr_nf (nm_ne1 (by decide))]; exact z2
        · rw [wr_nf (nm_ne1 (by decide)), upI_wr, z3, e1]; rfl
        · rw [wr_nk (by decide), wr_nf (nm_ne1 (by decide))]; exact z4
        · rw [wr_eq]; rfl
        · rw [wr_nk (by decide), wr_nf (nm_ne1 (by decide))]; exact z6
      · rw [pgC_w (by decide) (by decide), pgC_w (by decide) (by decide)]; exact y1
      · exact (Bf.w17 (Bf.w22 (fun _ _ _ _ _ _ _ => rfl))).hasF y2
      · have h1 : Kf M M2 := by rw [eM2]; exact g3.bf.w21.kf
        have h2 : Kf M3 M5 := by rw [eM5]; exact v3.bf.w20.kf
        exact ((h1.tr u4).tr (h2.tr y4)).wr PcN.of22 |>.wr PcN.of17
    · refine go_iconst dX2_splitWorst_27 (R32_lit rfl) ?_
      refine go_retz dX2_splitWorst_28 (by first | exact Or.inl rfl | exact Or.inr rfl | omega) ?_
      refine ⟨Or.inl ⟨?_, rfl, hP⟩, hS, hF, Kf.rf, Nf.rf⟩
      unfold spZ
      omega
