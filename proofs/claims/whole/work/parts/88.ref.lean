set_option maxRecDepth 100000 in
set_option maxHeartbeats 4000000 in
theorem ct_X8_readInput {E : Ev} {M : Mm} {N : Nn} {b : Int → Int} {s : Rs} (hE : ES E) (hR : RR b 0 M s) : Ct E yX8_readInput cX8_readInput 3 ((some .boolean)) (rmH 9) [vr (29, 0, 0)] M N (qi (fun r M1 N1 => OT b 0 (if 3 ≤ s.2 12 0 then pFl s 4 (s.1 6) else pIn b (adR b s.1, s.2)) r M1 ∧ FR M M1 ∧ N = N1)) := by
  refine ct_of (own := RX8) (L0 := [vr (29, 0, 0), vn, vn]) rfl (by decide +kernel) rfl rfl ?_
  have dW := hR.2.2.2.2.2.2.2
  obtain ⟨d1, d2, d3, d4, d5, d6, -⟩ := dW
  have c22 := hR.1.2.2.2.2.2.1
  have c23 := hR.1.2.2.2.2.2.2
  have dn := hR.2.2.2.2.2.2.2.dr.2.2.2.2.2.1
  refine go_aload_n dX8_readInput_0 rfl rfl ?_
  refine g8_208 dX8_readInput_1 ?_
  rw [c23]
  refine go_iconst dX8_readInput_4 (R32_lit rfl) ?_
  refine go_icmp_ne (tgt := 14) dX8_readInput_5 rfl (fun h5 => ?_) (fun h5 => ?_)
  · refine go_aload_n dX8_readInput_14 rfl rfl ?_
    refine v8_175 dX8_readInput_15 rfl ⟨rfl, rfl⟩ ⟨rfl, rfl⟩ (ct_X8_goesOn hR.2.2.1 hR.bd.1 hR.bd.2.1 hR.bd.2.2.1) (fun M1 N1 hq1 => ?_)
    obtain ⟨g11, g12, g13, g14, g15, rfl⟩ := hq1
    have R1 := hR.ad g15 g11 g12 g13 g14
    obtain ⟨X, hX⟩ : ∃ X, X = (if 3 ≤ s.2 12 0 then pFl s 4 (s.1 6) else pIn b (adR b s.1, s.2)) := ⟨_, rfl⟩
    have eX : X = pIn b (adR b s.1, s.2) := hX.trans (if_neg (by omega))
    have F1 : FR M M1 := (FR.of g15 (by decide) (by decide))
    unfold pIn at eX
    refine go_aload_n dX8_readInput_18 rfl rfl ?_
    refine v8_211 dX8_readInput_19 rfl ⟨rfl, rfl⟩ ⟨rfl, rfl⟩ (ct_X8_readName hE R1 (show s.2 11 0 < 15 by omega)) (fun r2 M2 N2 hr2 hq2 => ?_)
    obtain ⟨o2, n2, f2, rfl⟩ := hq2
    have F2 := F1.tr (FR.of f2 (by decide) (by decide))
    refine go_if_eq (tgt := 47) dX8_readInput_22 rfl (fun h22 => ?_) (fun h22 => ?_)
    · refine go_iconst dX8_readInput_47 (R32_lit rfl) ?_
      refine go_retz dX8_readInput_48 (by first | exact Or.inl rfl | exact Or.inr rfl | omega) ?_
      first
      | exact ⟨OT_eq (hX.symm.trans eX) (OT_b0 (k := 0) (sn_0 z4 h44) rfl), F4, rfl⟩
      | exact ⟨OT_eq (hX.symm.trans eX) (OT_b0 o3 h31), F3, rfl⟩
      | exact ⟨OT_eq (hX.symm.trans eX) (OT_b0 o2 h22), F2, rfl⟩
    · obtain ⟨t1, e1, R2, S1⟩ := OT_nw1 R1.2.2.2.2.2.2.1 o2 h22
      rw [e1, bnd_p1 (by decide)] at eX
      have N2 := n2 h22
      rw [e1] at N2
      have N2 : nmO b (M2 (30, 0, 24) (t1.2 11 0)) (M2 (30, 0, 25) (t1.2 11 0)) (t1.1 11) := N2
      have S1 : t1.2 = s.2 := S1
      refine go_aload_n dX8_readInput_25 rfl rfl ?_
      refine s8_183 hE dX8_readInput_26 ?_
      refine v8_214 dX8_readInput_28 rfl ⟨rfl, rfl⟩ ⟨rfl, rfl⟩ (ct_X8_passes hE R2 (by decide)) (fun r3 M3 N3 hr3 hq3 => ?_)
      obtain ⟨o3, f3, rfl⟩ := hq3
      have F3 := F2.tr (FR.of f3 (by decide) (by decide))
      refine go_if_eq (tgt := 47) dX8_readInput_31 rfl (fun h31 => ?_) (fun h31 => ?_)
      · refine go_iconst dX8_readInput_47 (R32_lit rfl) ?_
        refine go_retz dX8_readInput_48 (by first | exact Or.inl rfl | exact Or.inr rfl | omega) ?_
        first
        | exact ⟨OT_eq (hX.symm.trans eX) (OT_b0 (k := 0) (sn_0 z4 h44) rfl), F4, rfl⟩
        | exact ⟨OT_eq (hX.symm.trans eX) (OT_b0 o3 h31), F3, rfl⟩
        | exact ⟨OT_eq (hX.symm.trans eX) (OT_b0 o2 h22), F2, rfl⟩
      · obtain ⟨t2, e2, R3, S2, w2, -⟩ := OT_w1 o3 h31
        rw [e2, bnd_p1 (by decide)] at eX
        refine go_aload_n dX8_readInput_34 rfl rfl ?_
        refine go_sipush dX8_readInput_35 ⟨by decide, by decide⟩ ?_
        refine go_sipush dX8_readInput_38 ⟨by decide, by decide⟩ ?_
        refine v8_217 dX8_readInput_41 rfl ⟨rfl, rfl⟩ ⟨rfl, rfl⟩ (ct_X8_seesNumber R3) (fun r4 M4 N4 hr4 hq4 => ?_)
        obtain ⟨z4, f4, rfl⟩ := hq4
        have F4 := F3.tr (FR.of f4 (by decide) (by decide))
        refine go_if_ne (tgt := 49) dX8_readInput_44 rfl (fun h44 => ?_) (fun h44 => ?_)
        · obtain ⟨q1, q2, -, q26, R4⟩ : nmA b t2.1 5 = 3 ∧ (-1000 ≤ nmV b t2.1 ∧ nmV b t2.1 ≤ 1000) ∧ r4 = 1 ∧ M4 (29, 0, 0) 26 = nmV b t2.1 ∧ RR b 0 M4 (nmA b t2.1, t2.2) := by
            rcases z4 with z | z | z
            · exact absurd z.2.1 h44
            · exact absurd z.2.2.1 h44
            · exact z
          rw [pNm_ok q1 q2, bnd_p1 (by decide)] at eX
          refine go_aload_n dX8_readInput_49 rfl rfl ?_
          refine g8_178 dX8_readInput_50 ?_
          rw [q26]
          refine go_ist1 dX8_readInput_53 rfl rfl ?_
          refine go_aload_n dX8_readInput_54 rfl rfl ?_
          refine v8_175 dX8_readInput_55 rfl ⟨rfl, rfl⟩ ⟨rfl, rfl⟩ (ct_X8_goesOn R4.2.2.1 R4.bd.1 R4.bd.2.1 R4.bd.2.2.1) (fun M5 N5 hq5 => ?_)
          obtain ⟨g51, g52, g53, g54, g55, rfl⟩ := hq5
          have R5 := R4.ad g55 g51 g52 g53 g54
          have R5 : RR b 0 M5 (adR b (nmB b t2.1), t2.2) := R5.cg rfl rfl rfl rfl rfl
          have F5 := F4.tr (FR.of g55 (by decide) (by decide))
          refine go_aload_n dX8_readInput_58 rfl rfl ?_
          refine s8_184 hE dX8_readInput_59 ?_
          refine v8_214 dX8_readInput_61 rfl ⟨rfl, rfl⟩ ⟨rfl, rfl⟩ (ct_X8_passes hE R5 (by decide)) (fun r6 M6 N6 hr6 hq6 => ?_)
          obtain ⟨o6, f6, rfl⟩ := hq6
          have F6 := F5.tr (FR.of f6 (by decide) (by decide))
          refine go_if_eq (tgt := 78) dX8_readInput_64 rfl (fun h64 => ?_) (fun h64 => ?_)
          · refine go_iconst dX8_readInput_78 (R32_lit rfl) ?_
            refine go_retz dX8_readInput_79 (by first | exact Or.inl rfl | exact Or.inr rfl | omega) ?_
            first
            | (refine ⟨OT_eq (hX.symm.trans eX) ?_, F7, rfl⟩
               rcases z7 with ⟨z1, -, z3, z4'⟩ | ⟨z1, z6, -, z3, z4'⟩ | z
               · have e : pNm b u = (0, faR (nmA b u.1) 1 (nmA b u.1 6), u.2) := by unfold pNm; rw [if_neg z1]
                 rw [e, bnd_p0 rfl]
                 exact ⟨rfl, fun q => absurd rfl q, fun _ => ⟨z3, z4'⟩⟩
               · exact pIe_f z1 (fun q => z6 ⟨q.1, q.2.1⟩) q2.1 z3 z4'
               · exact absurd z.2.2.1 (by omega))
            | exact ⟨OT_eq (hX.symm.trans eX) (OT_b0 o6 h64), F6, rfl⟩
          · obtain ⟨u, e6, R6, S6, w6, -⟩ := OT_w1 o6 h64
            rw [e6, bnd_p1 (by decide)] at eX
            have eX : X = bnd (pNm b u) (pIe (nmV b t2.1)) := eX
            refine go_aload_n dX8_readInput_67 rfl rfl ?_
            refine go_iload_n dX8_readInput_68 rfl ?_
            refine go_sipush dX8_readInput_69 ⟨by decide, by decide⟩ ?_
            refine v8_217 dX8_readInput_72 rfl ⟨rfl, rfl⟩ ⟨rfl, rfl⟩ (ct_X8_seesNumber R6) (fun r7 M7 N7 hr7 hq7 => ?_)
            obtain ⟨z7, f7, rfl⟩ := hq7
            have F7 := F6.tr (FR.of f7 (by decide) (by decide))
            refine go_if_ne (tgt := 80) dX8_readInput_75 rfl (fun h75 => ?_) (fun h75 => ?_)
            · obtain ⟨p1, p2, -, p26, R7⟩ : nmA b u.1 5 = 3 ∧ (nmV b t2.1 ≤ nmV b u.1 ∧ nmV b u.1 ≤ 1000) ∧ r7 = 1 ∧ M7 (29, 0, 0) 26 = nmV b u.1 ∧ RR b 0 M7 (nmA b u.1, u.2) := by
                rcases z7 with z | z | z
                · exact absurd z.2.1 h75
                · exact absurd z.2.2.1 h75
                · exact z
              have SS : u.2 = s.2 := S6.trans (S2.trans S1)
              have k22 : M7 (29, 0, 0) 22 = s.2 11 0 := by rw [R7.1.2.2.2.2.2.1]; show u.2 11 0 = _; rw [SS]
              have k23 : M7 (29, 0, 0) 23 = s.2 12 0 := by rw [R7.1.2.2.2.2.2.2]; show u.2 12 0 = _; rw [SS]
              refine go_aload_n dX8_readInput_80 rfl rfl ?_
              refine g8_178 dX8_readInput_81 ?_
              rw [p26]
              refine go_iload_n dX8_readInput_84 rfl ?_
              refine go_isubc dX8_readInput_85 ⟨by omega, by omega⟩ ?_
              refine go_iconst dX8_readInput_86 (R32_lit rfl) ?_
              refine go_irem dX8_readInput_87 (by decide) ?_
              refine go_if_eq (tgt := 97) dX8_readInput_88 rfl (fun h88 => ?_) (fun h88 => ?_)
              · refine go_bipush dX8_readInput_97 ⟨by decide, by decide⟩ ?_
                refine go_aload_n dX8_readInput_99 rfl rfl ?_
                refine g8_199 dX8_readInput_100 ?_
                rw [k22]
                refine go_iaddc dX8_readInput_103 ⟨by omega, by omega⟩ ?_
                refine go_ist2 dX8_readInput_104 rfl rfl ?_
                refine go_aload_n dX8_readInput_105 rfl rfl ?_
                refine g8_19 dX8_readInput_106 ?_
                refine go_iload_n dX8_readInput_109 rfl ?_
                refine go_bipush dX8_readInput_110 ⟨by decide, by decide⟩ ?_
                refine go_iast dX8_readInput_112 rfl (by omega) (by omega) ?_
                refine go_aload_n dX8_readInput_113 rfl rfl ?_
                refine g8_22 dX8_readInput_114 ?_
                refine go_iload_n dX8_readInput_117 rfl ?_
                refine go_iconst dX8_readInput_118 (R32_lit rfl) ?_
                refine go_iast dX8_readInput_119 rfl (by omega) (by omega) ?_
                refine go_aload_n dX8_readInput_120 rfl rfl ?_
                refine g8_25 dX8_readInput_121 ?_
                refine go_iload_n dX8_readInput_124 rfl ?_
                refine go_iload_n dX8_readInput_125 rfl ?_
                refine go_iast dX8_readInput_126 rfl (by omega) (by omega) ?_
                refine go_aload_n dX8_readInput_127 rfl rfl ?_
                refine g8_28 dX8_readInput_128 ?_
                refine go_iload_n dX8_readInput_131 rfl ?_
                refine go_aload_n dX8_readInput_132 rfl rfl ?_
                refine g8_178 dX8_readInput_133 ?_
                rw [wr_nf (nm_ne1 (by decide)), wr_nf (nm_ne1 (by decide)), wr_nf (nm_ne1 (by decide)), p26]
                refine go_iast dX8_readInput_136 rfl (by omega) (by omega) ?_
                refine go_nmM (fun Mc eMc => ?_)
                have fC : Kr [] [7, 8, 9, 10] M7 Mc := by rw [eMc]; exact (((Kr.rf.wa (by decide)).wa (by decide)).wa (by decide)).wa (by decide)
                have FC : FR M Mc := by rw [eMc]; exact (((F7.wa (by omega)).wa (by omega)).wa (by omega)).wa (by omega)
                have r7' : ∀ i, Mc (30, 0, 7) i = if i = 15 + s.2 11 0 then -2 else M7 (30, 0, 7) i := by intro i; rw [eMc, wr_nf (nm_ne3 (by decide)), wr_nf (nm_ne3 (by decide)), wr_nf (nm_ne3 (by decide)), upI_wr]; rfl
                have r8' : ∀ i, Mc (30, 0, 8) i = if i = 15 + s.2 11 0 then 0 else M7 (30, 0, 8) i := by intro i; rw [eMc, wr_nf (nm_ne3 (by decide)), wr_nf (nm_ne3 (by decide)), upI_wr, wr_nf (nm_ne3 (by decide))]; rfl
                have r9' : ∀ i, Mc (30, 0, 9) i = if i = 15 + s.2 11 0 then nmV b t2.1 else M7 (30, 0, 9) i := by intro i; rw [eMc, wr_nf (nm_ne3 (by decide)), upI_wr, wr_nf (nm_ne3 (by decide)), wr_nf (nm_ne3 (by decide))]; rfl
                have r10' : ∀ i, Mc (30, 0, 10) i = if i = 15 + s.2 11 0 then nmV b u.1 else M7 (30, 0, 10) i := by intro i; rw [eMc, upI_wr, wr_nf (nm_ne3 (by decide)), wr_nf (nm_ne3 (by decide)), wr_nf (nm_ne3 (by decide))]; rfl
                clear eMc
                have RC0 : RR b 0 Mc (nmA b u.1, u.2) := by
                  obtain ⟨i1, i2, i3, i4, i5, i6, i7, i8⟩ := R7
                  refine ⟨i1.k fC (by decide) (by decide) (by decide) (by decide) (by decide) (by decide) (by decide), i2, i3.k (fC.a 4 (by decide)), i4.k (fC.a 24 (by decide)) (fC.a 25 (by decide)), ?_, i6.k (fC.a 11 (by decide)) (fC.a 12 (by decide)), i7, i8⟩
                  show PR 15 (u.2 11 0) u.2 Mc
                  intro v v0 v1
                  have v1' : v < s.2 11 0 := by rw [← SS]; exact v1
                  rw [r7', r8', r9', r10', fC.a 11 (by decide), fC.a 12 (by decide), if_neg (by omega), if_neg (by omega), if_neg (by omega), if_neg (by omega)]
                  exact i5 v v0 v1
                refine go_aload_n dX8_readInput_137 rfl rfl ?_
                refine v8_175 dX8_readInput_138 rfl ⟨rfl, rfl⟩ ⟨rfl, rfl⟩ (ct_X8_goesOn RC0.2.2.1 RC0.bd.1 RC0.bd.2.1 RC0.bd.2.2.1) (fun M8 N8 hq8 => ?_)
                obtain ⟨g81, g82, g83, g84, g85, rfl⟩ := hq8
                have R8 := RC0.ad g85 g81 g82 g83 g84
                have R8 : RR b 0 M8 (adR b (nmB b u.1), u.2) := R8.cg rfl rfl rfl rfl rfl
                have F8 := FC.tr (FR.of g85 (by decide) (by decide))
                have m22 : M8 (29, 0, 0) 22 = s.2 11 0 := by rw [R8.1.2.2.2.2.2.1]; show u.2 11 0 = _; rw [SS]
                have m23 : M8 (29, 0, 0) 23 = s.2 12 0 := by rw [R8.1.2.2.2.2.2.2]; show u.2 12 0 = _; rw [SS]
                refine go_aload_n dX8_readInput_141 rfl rfl ?_
                first | refine go_dup_r dX8_readInput_142 ?_ | refine go_dup_i dX8_readInput_142 ?_
                refine g8_199 dX8_readInput_143 ?_
                rw [m22]
                refine go_iconst dX8_readInput_146 (R32_lit rfl) ?_
                refine go_iaddc dX8_readInput_147 ⟨by omega, by omega⟩ ?_
                refine p8_199 dX8_readInput_148 ?_
                refine go_aload_n dX8_readInput_151 rfl rfl ?_
                first | refine go_dup_r dX8_readInput_152 ?_ | refine go_dup_i dX8_readInput_152 ?_
                refine g8_208 dX8_readInput_153 ?_
                rw [wr_nk (by decide), m23]
                refine go_iconst dX8_readInput_156 (R32_lit rfl) ?_
                refine go_iaddc dX8_readInput_157 ⟨by omega, by omega⟩ ?_
                refine p8_208 dX8_readInput_158 ?_
                refine go_iconst dX8_readInput_161 (R32_lit rfl) ?_
                refine go_retz dX8_readInput_162 (by first | exact Or.inl rfl | exact Or.inr rfl | omega) ?_
                have hx := pIe_t (b := b) (a := nmV b t2.1) (u := u) p1 q2.1 p2.1 p2.2 h88
                rw [hx] at eX
                rw [SS] at eX R8
                have hu11 : u.1 11 = t1.1 11 := by
                  rw [w6]
                  show nmB b t2.1 11 = _
                  rw [nmB_k (Or.inl rfl), w2]
                have hc24 : M8 (30, 0, 24) = M2 (30, 0, 24) := by rw [g85.a 24 (by decide), fC.a 24 (by decide), f7.a 24 (by decide), f6.a 24 (by decide), g55.a 24 (by decide), f4.a 24 (by decide), f3.a 24 (by decide)]
                have hc25 : M8 (30, 0, 25) = M2 (30, 0, 25) := by rw [g85.a 25 (by decide), fC.a 25 (by decide), f7.a 25 (by decide), f6.a 25 (by decide), g55.a 25 (by decide), f4.a 25 (by decide), f3.a 25 (by decide)]
                rw [S1] at N2
                have hw := WF_in (nm := u.1 11) (S := s.2) (by rw [← S1]; exact R2.2.2.2.2.2.2.2) (by omega) (by omega) q2.1 p2.1 p2.2
                refine ⟨OT_ok (hX.symm.trans eX) rfl (RR_told (S := s.2) R8 ((Kr.rf.ws (by decide)).ws (by decide)) ?_ ?_ ?_ (Cg_ti.tr Cg_st) ?_ ?_ ?_ hw), (F8.ws (by decide)).ws (by decide), rfl⟩
                · rw [wr_nk (by decide), wr_eq, stS_raw0 (by decide) (by decide) (by decide), tiS_11]
                · rw [wr_eq, stS_raw0 (by decide) (by decide) (by decide), tiS_12]
                · rw [stS_raw0 (by decide) (by decide) (by decide), tiS_11]
                · intro v hv
                  rw [stS_raw0 (by decide) (by decide) (by decide), tiS_v hv (by decide) (by decide) (by decide)]
                · rw [hc24, hc25, stS_raw0 (by decide) (by decide) (by decide), tiS_1, hu11]
                  exact N2
                · unfold PRv
                  rw [stS_raw0 (by decide) (by decide) (by decide), stS_raw0 (by decide) (by decide) (by decide), stS_raw0 (by decide) (by decide) (by decide), stS_raw0 (by decide) (by decide) (by decide), tiS_0, tiS_2, tiS_3, tiS_4, g85.a 7 (by decide), g85.a 8 (by decide), g85.a 9 (by decide), g85.a 10 (by decide), r7', r8', r9', r10', if_pos rfl, if_pos rfl, if_pos rfl, if_pos rfl]
                  exact ⟨rfl, rfl, fun _ => ⟨rfl, rfl⟩, fun q => absurd rfl q⟩
              · refine go_aload_n dX8_readInput_91 rfl rfl ?_
                refine go_iconst dX8_readInput_92 (R32_lit rfl) ?_
                refine v8_171 dX8_readInput_93 rfl ⟨rfl, rfl⟩ ⟨rfl, rfl⟩ ct_X8_errs (fun r9 M9 N9 hr9 hq9 => ?_)
                refine go_retz dX8_readInput_96 (by first | exact Or.inl rfl | exact Or.inr rfl | omega) ?_
                obtain ⟨y1, y2, rfl⟩ := hq9
                have o3 := (OT_fl (b := b) (k := 0) (M := M7) (w := 2) (R := nmA b u.1) (S := u.2) rfl y1 y2 R7.1.2.1).2.2 y1
                refine ⟨?_, F7.tr (by rw [y2]; exact FR.of flM_K (by decide) (by decide)), rfl⟩
                rw [y1]
                exact OT_eq (hX.symm.trans eX) (pIe_f p1 (fun q => h88 q.2.2) q2.1 o3.1 o3.2)
            · refine go_iconst dX8_readInput_78 (R32_lit rfl) ?_
              refine go_retz dX8_readInput_79 (by first | exact Or.inl rfl | exact Or.inr rfl | omega) ?_
              first
              | (refine ⟨OT_eq (hX.symm.trans eX) ?_, F7, rfl⟩
                 rcases z7 with ⟨z1, -, z3, z4'⟩ | ⟨z1, z6, -, z3, z4'⟩ | z
                 · have e : pNm b u = (0, faR (nmA b u.1) 1 (nmA b u.1 6), u.2) := by unfold pNm; rw [if_neg z1]
                   rw [e, bnd_p0 rfl]
                   exact ⟨rfl, fun q => absurd rfl q, fun _ => ⟨z3, z4'⟩⟩
                 · exact pIe_f z1 (fun q => z6 ⟨q.1, q.2.1⟩) q2.1 z3 z4'
                 · exact absurd z.2.2.1 (by omega))
              | exact ⟨OT_eq (hX.symm.trans eX) (OT_b0 o6 h64), F6, rfl⟩
        · refine go_iconst dX8_readInput_47 (R32_lit rfl) ?_
          refine go_retz dX8_readInput_48 (by first | exact Or.inl rfl | exact Or.inr rfl | omega) ?_
          first
          | exact ⟨OT_eq (hX.symm.trans eX) (OT_b0 (k := 0) (sn_0 z4 h44) rfl), F4, rfl⟩
          | exact ⟨OT_eq (hX.symm.trans eX) (OT_b0 o3 h31), F3, rfl⟩
          | exact ⟨OT_eq (hX.symm.trans eX) (OT_b0 o2 h22), F2, rfl⟩
  · refine go_aload_n dX8_readInput_8 rfl rfl ?_
    refine go_iconst dX8_readInput_9 (R32_lit rfl) ?_
    refine v8_171 dX8_readInput_10 rfl ⟨rfl, rfl⟩ ⟨rfl, rfl⟩ ct_X8_errs (fun r0 M0 N0 hr0 hq0 => ?_)
    refine go_retz dX8_readInput_13 (by first | exact Or.inl rfl | exact Or.inr rfl | omega) ?_
    obtain ⟨y1, y2, rfl⟩ := hq0
    exact ⟨OT_fl (M := M) (w := 4) (by rw [if_pos (by omega)]; rfl) y1 y2 hR.1.2.1, by rw [y2]; exact FR.of flM_K (by decide) (by decide), rfl⟩
