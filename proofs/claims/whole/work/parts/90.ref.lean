/-- a step that is about to be told: its rows, its weight -/
theorem RR_ts {b : Int → Int} {M : Mm} {t : Rs} (h : RR b (if t.1 12 = 3 then 4 else 2) M t) (b0 : 0 ≤ t.1 12) (b1 : t.1 12 ≤ 3) (h15 : t.2 11 0 < 15) (h12 : t.2 11 0 - t.2 12 0 < 12) (g0 : 0 ≤ t.1 8) (g1 : t.1 8 ≤ 8) (r7 : M (30, 0, 7) (15 + t.2 11 0) = t.1 12) (r8 : M (30, 0, 8) (15 + t.2 11 0) = t.1 8) :
    PR 15 (t.2 11 0 + 1) (stS (pGs t) (t.2 11 0)) M ∧ PRv 15 (stS (pGs t) (t.2 11 0)) M (t.2 11 0) ∧ Cg (t.2 11 0) t.2 (stS (pGs t) (t.2 11 0)) ∧ (∀ v, 0 ≤ v → v < t.2 11 0 + 1 → WFr (stS (pGs t) (t.2 11 0)) v ∧ stS (pGs t) (t.2 11 0) 6 v = wtS (stS (pGs t) (t.2 11 0)) v) ∧ (∀ v, 0 ≤ v → v < t.2 11 0 → stS (pGs t) (t.2 11 0) 6 v ≤ 1000000) ∧ stS (pGs t) (t.2 11 0) 6 (t.2 11 0) = wtS (pGs t) (t.2 11 0) ∧ (wtS (pGs t) (t.2 11 0) ≤ 1000000 → WF (stS (pGs t) (t.2 11 0))) := by
  obtain ⟨i1, i2, i3, i4, i5, i6, i7, i8⟩ := h
  have ho : ∀ k, 0 ≤ k → k < (if t.1 12 = 3 then 4 else 2) → WFo t.2 (t.2 11 0) (4 * t.2 11 0 + k) := by
    intro k k0 k1
    have a := i7.2.2 k k0 k1
    have c := i6 k k0 k1
    exact ⟨fun z => (a.1 z).1, fun z => ⟨(c.2 z).1, a.2 z⟩⟩
  obtain ⟨wr, wf⟩ := WF_ts (nm := t.1 11) i8 h15 h12 b0 b1 g0 g1 ho
  have cg : Cg (t.2 11 0) t.2 (stS (pGs t) (t.2 11 0)) := Cg_ts.tr Cg_st
  have pv : PRv 15 (stS (pGs t) (t.2 11 0)) M (t.2 11 0) := by
    unfold PRv opn
    rw [stS_raw0 (by decide) (by decide) (by decide), stS_raw0 (by decide) (by decide) (by decide), show pGs t 0 (t.2 11 0) = t.1 12 from tsS_0, show pGs t 4 (t.2 11 0) = t.1 8 from tsS_4]
    refine ⟨r7, r8, fun q => absurd q (by omega), fun _ k k0 k1 => ?_⟩
    rw [stS_raw0 (by decide) (by decide) (by decide), stS_raw0 (by decide) (by decide) (by decide), show pGs t 8 = t.2 8 from tsS_lo (by decide) (by decide) (by decide) (by decide) (by decide) (by decide), show pGs t 9 = t.2 9 from tsS_lo (by decide) (by decide) (by decide) (by decide) (by decide) (by decide)]
    exact i6 k k0 k1
  refine ⟨PR_told i5 cg pv i8.1, pv, cg, fun v v0 v1 => ?_, fun v v0 v1 => ?_, stS_6, wf⟩
  · by_cases q : v = t.2 11 0
    · rw [q]
      refine ⟨WFr_st wr, ?_⟩
      rw [stS_6]
      exact (stS_st wr i8.1).2.1.symm
    · obtain ⟨a, c⟩ := i8.2.2.2.2.2.2.1 v v0 (by omega)
      exact ⟨a.cg cg v0 (by omega), (c.cg cg v0 (by omega) a).2.1⟩
  · rw [(cg.1 v v0 v1).2.2.2.2.2.1]
    exact (i8.2.2.2.2.2.2.1 v v0 v1).2.2.2.2
set_option maxRecDepth 100000 in
set_option maxHeartbeats 4000000 in
theorem ct_X8_readLet {E : Ev} {M : Mm} {N : Nn} {b : Int → Int} {s : Rs} (hE : ES E) (hR : RR b 0 M s) : Ct E yX8_readLet cX8_readLet 2 ((some .boolean)) (rmH 10) [vr (29, 0, 0)] M N (qi (fun r M1 N1 => OT b 0 (if 12 ≤ s.2 11 0 - s.2 12 0 then pFl s 4 (s.1 6) else pLt b (adR b s.1 6) (adR b s.1, s.2)) r M1 ∧ FR M M1 ∧ N = N1)) := by
  refine ct_of (own := RX8) (L0 := [vr (29, 0, 0), vn]) rfl (by decide +kernel) rfl rfl ?_
  have dW := hR.2.2.2.2.2.2.2
  obtain ⟨d1, d2, d3, d4, d5, d6, -⟩ := dW
  have c22 := hR.1.2.2.2.2.2.1
  have c23 := hR.1.2.2.2.2.2.2
  have dn := hR.2.2.2.2.2.2.2.dr.2.2.2.2.2.1
  refine go_aload_n dX8_readLet_0 rfl rfl ?_
  refine g8_199 dX8_readLet_1 ?_
  rw [c22]
  refine go_aload_n dX8_readLet_4 rfl rfl ?_
  refine g8_208 dX8_readLet_5 ?_
  rw [c23]
  refine go_isubc dX8_readLet_8 ⟨by omega, by omega⟩ ?_
  refine go_bipush dX8_readLet_9 ⟨by decide, by decide⟩ ?_
  refine go_icmp_ne (tgt := 20) dX8_readLet_11 rfl (fun h11 => ?_) (fun h11 => ?_)
  · refine go_aload_n dX8_readLet_20 rfl rfl ?_
    refine v8_175 dX8_readLet_21 rfl ⟨rfl, rfl⟩ ⟨rfl, rfl⟩ (ct_X8_goesOn hR.2.2.1 hR.bd.1 hR.bd.2.1 hR.bd.2.2.1) (fun M1 N1 hq1 => ?_)
    obtain ⟨g11, g12, g13, g14, g15, rfl⟩ := hq1
    have R1 := hR.ad g15 g11 g12 g13 g14
    obtain ⟨X, hX⟩ : ∃ X, X = (if 12 ≤ s.2 11 0 - s.2 12 0 then pFl s 4 (s.1 6) else pLt b (adR b s.1 6) (adR b s.1, s.2)) := ⟨_, rfl⟩
    have eX : X = pLt b (adR b s.1 6) (adR b s.1, s.2) := hX.trans (if_neg (by omega))
    have F1 : FR M M1 := (FR.of g15 (by decide) (by decide))
    unfold pLt at eX
    have P1 := R1.1.2.1
    refine go_aload_n dX8_readLet_24 rfl rfl ?_
    refine g8_130 dX8_readLet_25 ?_
    rw [show M1 (29, 0, 0) 16 = adR b s.1 6 from P1]
    refine go_ist1 dX8_readLet_28 rfl rfl ?_
    refine go_aload_n dX8_readLet_29 rfl rfl ?_
    refine v8_211 dX8_readLet_30 rfl ⟨rfl, rfl⟩ ⟨rfl, rfl⟩ (ct_X8_readName hE R1 (show s.2 11 0 < 15 by omega)) (fun r2 M2 N2 hr2 hq2 => ?_)
    obtain ⟨o2, n2, f2, rfl⟩ := hq2
    have F2 := F1.tr (FR.of f2 (by decide) (by decide))
    refine go_if_ne (tgt := 38) dX8_readLet_33 rfl (fun h33 => ?_) (fun h33 => ?_)
    · obtain ⟨t1, e1, R2, S1⟩ := OT_nw1 R1.2.2.2.2.2.2.1 o2 h33
      rw [e1, bnd_p1 (by decide)] at eX
      have N2 := n2 h33
      rw [e1] at N2
      have N2 : nmO b (M2 (30, 0, 24) (t1.2 11 0)) (M2 (30, 0, 25) (t1.2 11 0)) (t1.1 11) := N2
      have S1 : t1.2 = s.2 := S1
      refine go_aload_n dX8_readLet_38 rfl rfl ?_
      refine go_bipush dX8_readLet_39 ⟨by decide, by decide⟩ ?_
      refine v8_224 dX8_readLet_41 rfl ⟨rfl, rfl⟩ ⟨rfl, rfl⟩ (ct_X8_takes R2) (fun r3 M3 N3 hr3 hq3 => ?_)
      obtain ⟨o3, f3, rfl⟩ := hq3
      have F3 := F2.tr (FR.of f3 (by decide) (by decide))
      refine go_if_eq (tgt := 63) dX8_readLet_44 rfl (fun h44 => ?_) (fun h44 => ?_)
      · refine go_iconst dX8_readLet_63 (R32_lit rfl) ?_
        refine go_retz dX8_readLet_64 (by first | exact Or.inl rfl | exact Or.inr rfl | omega) ?_
        first
        | exact ⟨OT_eq (hX.symm.trans eX) (OT_b0 o5 h60), F5, rfl⟩
        | (refine ⟨OT_eq (hX.symm.trans eX) ?_, F4, rfl⟩
           rcases z4 with ⟨q1, q2⟩ | ⟨q1, -⟩
           · exact OT_b0 q2 rfl
           · exact absurd q1 (by omega))
        | exact ⟨OT_eq (hX.symm.trans eX) (OT_b0 o3 h44), F3, rfl⟩
      · obtain ⟨t2, e2, R3, S2, w2, -⟩ := OT_sg1 o3 h44
        rw [e2, bnd_p1 (by decide)] at eX
        have SS : t2.2 = s.2 := S2.trans S1
        refine go_aload_n dX8_readLet_47 rfl rfl ?_
        refine v8_227 dX8_readLet_48 rfl ⟨rfl, rfl⟩ ⟨rfl, rfl⟩ (ct_X8_readSteps hE R3 (by rw [SS]; omega)) (fun r4 M4 N4 hr4 hq4 => ?_)
        obtain ⟨⟨z4, k4, l4⟩, rfl⟩ := hq4
        have F4 := F3.tr (show FR M3 M4 from ⟨k4.up (by decide) (by decide), l4⟩)
        refine go_if_eq (tgt := 63) dX8_readLet_51 rfl (fun h51 => ?_) (fun h51 => ?_)
        · refine go_iconst dX8_readLet_63 (R32_lit rfl) ?_
          refine go_retz dX8_readLet_64 (by first | exact Or.inl rfl | exact Or.inr rfl | omega) ?_
          first
          | exact ⟨OT_eq (hX.symm.trans eX) (OT_b0 o5 h60), F5, rfl⟩
          | (refine ⟨OT_eq (hX.symm.trans eX) ?_, F4, rfl⟩
             rcases z4 with ⟨q1, q2⟩ | ⟨q1, -⟩
             · exact OT_b0 q2 rfl
             · exact absurd q1 (by omega))
          | exact ⟨OT_eq (hX.symm.trans eX) (OT_b0 o3 h44), F3, rfl⟩
        · obtain ⟨-, t3, e3, R4, b0, b1, c11, c12, w3, s7⟩ : r4 = 1 ∧ ∃ t, (if wdR b t2.1 5 = true then pPk b t2 else pSm b t2) = (1, t) ∧ RR b (if t.1 12 = 3 then 4 else 2) M4 t ∧ 0 ≤ t.1 12 ∧ t.1 12 ≤ 3 ∧ t.2 11 0 = t2.2 11 0 ∧ t.2 12 0 = t2.2 12 0 ∧ t.1 11 = t2.1 11 ∧ M4 (30, 0, 7) (15 + t2.2 11 0) = t.1 12 := z4.elim (fun q => absurd q.1 h51) id
          rw [e3, bnd_p1 (by decide)] at eX
          unfold pGr at eX
          rw [SS] at c11 c12 s7
          clear z4
          refine go_aload_n dX8_readLet_54 rfl rfl ?_
          refine s8_187 hE dX8_readLet_55 ?_
          refine v8_214 dX8_readLet_57 rfl ⟨rfl, rfl⟩ ⟨rfl, rfl⟩ (ct_X8_passes hE R4 (by decide)) (fun r5 M5 N5 hr5 hq5 => ?_)
          obtain ⟨o5, f5, rfl⟩ := hq5
          have F5 := F4.tr (FR.of f5 (by decide) (by decide))
          refine go_if_ne (tgt := 65) dX8_readLet_60 rfl (fun h60 => ?_) (fun h60 => ?_)
          · obtain ⟨t, e5, R5, S5, w5, y5⟩ := OT_w1 o5 h60
            rw [e5, bnd_p1 (by decide)] at eX
            unfold pGe at eX
            rw [← y5] at R5
            have q11 : t.2 11 0 = s.2 11 0 := by rw [S5, c11]
            have q12 : t.2 12 0 = s.2 12 0 := by rw [S5, c12]
            have tk := R5.1.2.2.2.1
            have rb := R5.2.2.2.2.2.2.1.1.2.2.2
            have m22 := R5.1.2.2.2.2.2.1
            rw [q11] at m22
            refine go_aload_n dX8_readLet_65 rfl rfl ?_
            refine g8_133 dX8_readLet_66 ?_
            rw [tk]
            refine go_iconst dX8_readLet_69 (R32_lit rfl) ?_
            refine go_icmp_eq (tgt := 79) dX8_readLet_70 rfl (fun h70 => ?_) (fun h70 => ?_)
            · rw [if_pos h70] at eX
              have wv := R5.1.2.2.2.2.1 h70
              have rb := rb h70
              refine go_aload_n dX8_readLet_79 rfl rfl ?_
              refine g8_148 dX8_readLet_80 ?_
              rw [wv]
              refine go_i2l dX8_readLet_83 ?_
              refine go_lconst (x := 0) dX8_readLet_84 rfl ?_
              refine c8_230 dX8_readLet_85 ?_
              refine v8_140 dX8_readLet_88 rfl ⟨rfl, rfl⟩ ⟨rfl, rfl⟩ ct_X8_in (fun r6 M6 N6 hr6 hq6 => ?_)
              obtain ⟨z6, rfl, rfl⟩ := hq6
              have z6 := bit_iff z6
              refine go_if_ne (tgt := 100) dX8_readLet_91 rfl (fun h91 => ?_) (fun h91 => ?_)
              · rw [if_neg (show ¬ 8 < t.1 8 by omega)] at eX
                refine go_aload_n dX8_readLet_100 rfl rfl ?_
                refine g8_22 dX8_readLet_101 ?_
                refine go_bipush dX8_readLet_104 ⟨by decide, by decide⟩ ?_
                refine go_aload_n dX8_readLet_106 rfl rfl ?_
                refine g8_199 dX8_readLet_107 ?_
                rw [m22]
                refine go_iaddc dX8_readLet_110 ⟨by omega, by omega⟩ ?_
                refine go_aload_n dX8_readLet_111 rfl rfl ?_
                refine g8_148 dX8_readLet_112 ?_
                rw [wv]
                refine go_iast dX8_readLet_115 rfl (by omega) (by omega) ?_
                refine go_nmM (fun Mg eMg => ?_)
                have RG : RR b (if t.1 12 = 3 then 4 else 2) Mg t := by rw [eMg]; exact RR_row R5 (Or.inr rfl) (by rw [q11]; exact Int.le_refl _)
                have FG : FR M Mg := by rw [eMg]; exact F5.wa (by omega)
                have r8 : Mg (30, 0, 8) (15 + t.2 11 0) = t.1 8 := by rw [eMg, q11, wr_eq]
                have r7 : Mg (30, 0, 7) (15 + t.2 11 0) = t.1 12 := by rw [eMg, wr_nf (nm_ne3 (by decide)), f5.a 7 (by decide), q11, s7, y5]
                have g24 : Mg (30, 0, 24) = M2 (30, 0, 24) := by rw [eMg, wr_nf (nm_ne3 (by decide)), f5.a 24 (by decide), k4.a 24 (by decide), f3.a 24 (by decide)]
                have g25 : Mg (30, 0, 25) = M2 (30, 0, 25) := by rw [eMg, wr_nf (nm_ne3 (by decide)), f5.a 25 (by decide), k4.a 25 (by decide), f3.a 25 (by decide)]
                have gm22 : Mg (29, 0, 0) 22 = s.2 11 0 := by rw [eMg, wr_nf (nm_ne1 (by decide))]; exact m22
                clear eMg
                obtain ⟨PP, pv, cg, hw, h6, e6, wf⟩ := RR_ts RG (by omega) (by omega) (by omega) (by omega) rb.1 (by omega) r7 r8
                rw [q11] at PP pv cg hw h6 e6 wf eX
                refine go_aload_n dX8_readLet_116 rfl rfl ?_
                refine go_bipush dX8_readLet_117 ⟨by decide, by decide⟩ ?_
                refine go_aload_n dX8_readLet_119 rfl rfl ?_
                refine g8_199 dX8_readLet_120 ?_
                rw [gm22]
                refine go_iconst dX8_readLet_123 (R32_lit rfl) ?_
                refine go_iaddc dX8_readLet_124 ⟨by omega, by omega⟩ ?_
                refine v8_232 dX8_readLet_125 rfl ⟨rfl, rfl⟩ ⟨rfl, rfl⟩ (ct_X8_laysWeights PP (by omega) (by omega) (by decide) (by decide) hw) (fun r7' M7 N7 hr7 hq7 => ?_)
                obtain ⟨z7, f7, rfl⟩ := hq7
                have F7 := FG.tr (FR.of f7 (by decide) (by decide))
                have z7 : (wtS (pGs t) (s.2 11 0) ≤ 1000000 ∧ r7' = 1) ∨ (1000000 < wtS (pGs t) (s.2 11 0) ∧ r7' = 0) := by
                  rcases z7 with ⟨a, c, -⟩ | ⟨⟨v, v0, v1, v2⟩, c⟩
                  · left
                    have := a (s.2 11 0) d1 (by omega)
                    rw [e6] at this
                    exact ⟨this, c⟩
                  · right
                    have hv : v = s.2 11 0 := by
                      by_cases q : v = s.2 11 0
                      · exact q
                      · have := h6 v v0 (by omega)
                        omega
                    rw [hv, e6] at v2
                    exact ⟨v2, c⟩
                refine go_if_ne (tgt := 142) dX8_readLet_128 rfl (fun h128 => ?_) (fun h128 => ?_)
                · rw [if_neg (show ¬ 1000000 < wtS (pGs t) (s.2 11 0) by omega)] at eX
                  have R7 : RR b (if t.1 12 = 3 then 4 else 2) M7 t := RG.k f7 (by decide) (by decide) (by decide) (by decide) (by decide) (by decide) (by decide) (by decide) (by decide) (RG.1.k f7 (by decide) (by decide) (by decide) (by decide) (by decide) (by decide) (by decide))
                  refine go_aload_n dX8_readLet_142 rfl rfl ?_
                  refine v8_175 dX8_readLet_143 rfl ⟨rfl, rfl⟩ ⟨rfl, rfl⟩ (ct_X8_goesOn R7.2.2.1 R7.bd.1 R7.bd.2.1 R7.bd.2.2.1) (fun M8 N8 hq8 => ?_)
                  obtain ⟨g81, g82, g83, g84, g85, rfl⟩ := hq8
                  have R8 := R7.ad g85 g81 g82 g83 g84
                  have F8 := F7.tr (FR.of g85 (by decide) (by decide))
                  have n22 : M8 (29, 0, 0) 22 = s.2 11 0 := by rw [R8.1.2.2.2.2.2.1]; exact q11
                  refine go_aload_n dX8_readLet_146 rfl rfl ?_
                  first | refine go_dup_r dX8_readLet_147 ?_ | refine go_dup_i dX8_readLet_147 ?_
                  refine g8_199 dX8_readLet_148 ?_
                  rw [n22]
                  refine go_iconst dX8_readLet_151 (R32_lit rfl) ?_
                  refine go_iaddc dX8_readLet_152 ⟨by omega, by omega⟩ ?_
                  refine p8_199 dX8_readLet_153 ?_
                  refine go_iconst dX8_readLet_156 (R32_lit rfl) ?_
                  refine go_retz dX8_readLet_157 (by first | exact Or.inl rfl | exact Or.inr rfl | omega) ?_
                  have hwf := wf (by omega)
                  have h24 : M8 (30, 0, 24) = M2 (30, 0, 24) := by rw [g85.a 24 (by decide), f7.a 24 (by decide)]; exact g24
                  have h25 : M8 (30, 0, 25) = M2 (30, 0, 25) := by rw [g85.a 25 (by decide), f7.a 25 (by decide)]; exact g25
                  rw [S1] at N2
                  have hn11 : t.1 11 = t1.1 11 := by rw [w5, w3, w2]
                  refine ⟨OT_ok (hX.symm.trans eX) rfl (RR_told (S := t.2) R8 (Kr.rf.ws (by decide)) ?_ ?_ ?_ (by rw [q11]; exact cg) ?_ ?_ ?_ hwf), F8.ws (by decide), rfl⟩
                  · rw [wr_eq, stS_raw0 (by decide) (by decide) (by decide), show pGs t 11 0 = t.2 11 0 + 1 from tsS_11, q11]
                  · rw [wr_nk (by decide), stS_raw0 (by decide) (by decide) (by decide), show pGs t 12 0 = t.2 12 0 from tsS_12]
                    exact R8.1.2.2.2.2.2.2
                  · rw [stS_raw0 (by decide) (by decide) (by decide), show pGs t 11 0 = t.2 11 0 + 1 from tsS_11]
                  · intro v hv
                    rw [stS_raw0 (by decide) (by decide) (by decide)]
                    exact tsS_v hv (by decide)
                  · rw [h24, h25, stS_raw0 (by decide) (by decide) (by decide), show pGs t 1 (t.2 11 0) = t.1 11 from tsS_1, q11, hn11]
                    exact N2
                  · rw [q11]
                    unfold PRv at pv ⊢
                    rw [g85.a 7 (by decide), g85.a 8 (by decide), g85.a 9 (by decide), g85.a 10 (by decide), g85.a 11 (by decide), g85.a 12 (by decide), f7.a 7 (by decide), f7.a 8 (by decide), f7.a 9 (by decide), f7.a 10 (by decide), f7.a 11 (by decide), f7.a 12 (by decide)]
                    exact pv
                · rw [if_pos (show 1000000 < wtS (pGs t) (s.2 11 0) by omega)] at eX
                  refine go_aload_n dX8_readLet_131 rfl rfl ?_
                  refine go_iload_n dX8_readLet_132 rfl ?_
                  refine p8_130 dX8_readLet_133 ?_
                  refine go_nmM (fun Mp eMp => ?_)
                  have FP : FR M Mp := by rw [eMp]; exact F7.ws (by decide)
                  have p16 : Mp (29, 0, 0) 16 = adR b s.1 6 := by rw [eMp, wr_eq]
                  clear eMp
                  refine go_aload_n dX8_readLet_136 rfl rfl ?_
                  refine go_iconst dX8_readLet_137 (R32_lit rfl) ?_
                  refine v8_171 dX8_readLet_138 rfl ⟨rfl, rfl⟩ ⟨rfl, rfl⟩ ct_X8_errs (fun r9 M9 N9 hr9 hq9 => ?_)
                  refine go_retz dX8_readLet_141 (by first | exact Or.inl rfl | exact Or.inr rfl | omega) ?_
                  obtain ⟨y1, y2, rfl⟩ := hq9
                  exact ⟨OT_fl (M := Mp) (w := 5) (hX.symm.trans eX) y1 y2 p16, FP.tr (by rw [y2]; exact FR.of flM_K (by decide) (by decide)), rfl⟩
              · refine go_aload_n dX8_readLet_94 rfl rfl ?_
                refine go_iconst dX8_readLet_95 (R32_lit rfl) ?_
                refine v8_171 dX8_readLet_96 rfl ⟨rfl, rfl⟩ ⟨rfl, rfl⟩ ct_X8_errs (fun r9 M9 N9 hr9 hq9 => ?_)
                refine go_retz dX8_readLet_99 (by first | exact Or.inl rfl | exact Or.inr rfl | omega) ?_
                obtain ⟨y1, y2, rfl⟩ := hq9
                rw [if_pos (show 8 < t.1 8 by omega)] at eX
                exact ⟨OT_fl (M := M5) (w := 2) (hX.symm.trans eX) y1 y2 R5.1.2.1, F5.tr (by rw [y2]; exact FR.of flM_K (by decide) (by decide)), rfl⟩
            · refine go_aload_n dX8_readLet_73 rfl rfl ?_
              refine go_iconst dX8_readLet_74 (R32_lit rfl) ?_
              refine v8_171 dX8_readLet_75 rfl ⟨rfl, rfl⟩ ⟨rfl, rfl⟩ ct_X8_errs (fun r9 M9 N9 hr9 hq9 => ?_)
              refine go_retz dX8_readLet_78 (by first | exact Or.inl rfl | exact Or.inr rfl | omega) ?_
              obtain ⟨y1, y2, rfl⟩ := hq9
              rw [if_neg h70] at eX
              exact ⟨OT_fl (M := M5) (w := 1) (hX.symm.trans eX) y1 y2 R5.1.2.1, F5.tr (by rw [y2]; exact FR.of flM_K (by decide) (by decide)), rfl⟩
          · refine go_iconst dX8_readLet_63 (R32_lit rfl) ?_
            refine go_retz dX8_readLet_64 (by first | exact Or.inl rfl | exact Or.inr rfl | omega) ?_
            first
            | exact ⟨OT_eq (hX.symm.trans eX) (OT_b0 o5 h60), F5, rfl⟩
            | (refine ⟨OT_eq (hX.symm.trans eX) ?_, F4, rfl⟩
               rcases z4 with ⟨q1, q2⟩ | ⟨q1, -⟩
               · exact OT_b0 q2 rfl
               · exact absurd q1 (by omega))
            | exact ⟨OT_eq (hX.symm.trans eX) (OT_b0 o3 h44), F3, rfl⟩
    · refine go_iconst dX8_readLet_36 (R32_lit rfl) ?_
      refine go_retz dX8_readLet_37 (by first | exact Or.inl rfl | exact Or.inr rfl | omega) ?_
      exact ⟨OT_eq (hX.symm.trans eX) (OT_b0 o2 h33), F2, rfl⟩
  · refine go_aload_n dX8_readLet_14 rfl rfl ?_
    refine go_iconst dX8_readLet_15 (R32_lit rfl) ?_
    refine v8_171 dX8_readLet_16 rfl ⟨rfl, rfl⟩ ⟨rfl, rfl⟩ ct_X8_errs (fun r0 M0 N0 hr0 hq0 => ?_)
    refine go_retz dX8_readLet_19 (by first | exact Or.inl rfl | exact Or.inr rfl | omega) ?_
    obtain ⟨y1, y2, rfl⟩ := hq0
    exact ⟨OT_fl (M := M) (w := 4) (by rw [if_pos (by omega)]; rfl) y1 y2 hR.1.2.1, by rw [y2]; exact FR.of flM_K (by decide) (by decide), rfl⟩
theorem OT_01 {b : Int → Int} {r : Int} {s : Rs} {M1 : Mm} (hI : RI 0 s) (o : OT b 0 (pLn b s) r M1) : r = 0 ∨ r = 1 := by
  by_cases q : r = 0
  · exact Or.inl q
  · right
    rw [o.1]
    exact (pLn_I hI (by rw [← o.1]; exact q)).1
set_option maxRecDepth 100000 in
set_option maxHeartbeats 4000000 in
theorem ct_X8_readLine {E : Ev} {M : Mm} {N : Nn} {b : Int → Int} {s : Rs} (hE : ES E) (hR : RR b 0 M s) : Ct E yX8_readLine cX8_readLine 1 ((some .boolean)) (rmH 11) [vr (29, 0, 0)] M N (qi (fun r M1 N1 => OT b 0 (pLn b s) r M1 ∧ FR M M1 ∧ N = N1)) := by
  refine ct_of (own := RX8) (L0 := [vr (29, 0, 0)]) rfl (by decide +kernel) rfl rfl ?_
  refine go_aload_n dX8_readLine_0 rfl rfl ?_
  refine s8_181 hE dX8_readLine_1 ?_
  refine v8_167 dX8_readLine_3 rfl ⟨rfl, rfl⟩ ⟨rfl, rfl⟩ (ct_X8_isName hE (by decide) hR.bd.2.2.2.1 hR.bd.2.2.2.2 hR.bd.2.1 hR.bd.2.2.1) (fun r1 M1 N1 hr1 hq1 => ?_)
  obtain ⟨z1, rfl, rfl⟩ := hq1
  have w1 := hR.nm (by decide) z1
  refine go_if_eq (tgt := 14) dX8_readLine_6 rfl (fun h6 => ?_) (fun h6 => ?_)
  · have u1 : ¬ wdR b s.1 0 = true := w1.elim (fun q => absurd q.2 (by omega)) (fun q => by rw [q.1]; decide)
    refine go_aload_n dX8_readLine_14 rfl rfl ?_
    refine s8_185 hE dX8_readLine_15 ?_
    refine v8_167 dX8_readLine_17 rfl ⟨rfl, rfl⟩ ⟨rfl, rfl⟩ (ct_X8_isName hE (by decide) hR.bd.2.2.2.1 hR.bd.2.2.2.2 hR.bd.2.1 hR.bd.2.2.1) (fun r2 M2 N2 hr2 hq2 => ?_)
    obtain ⟨z2, rfl, rfl⟩ := hq2
    have w2 := hR.nm (by decide) z2
    refine go_if_eq (tgt := 30) dX8_readLine_20 rfl (fun h20 => ?_) (fun h20 => ?_)
    · have u2 : ¬ wdR b s.1 3 = true := w2.elim (fun q => absurd q.2 (by omega)) (fun q => by rw [q.1]; decide)
      refine go_aload_n dX8_readLine_30 rfl rfl ?_
      refine go_iconst dX8_readLine_31 (R32_lit rfl) ?_
      refine v8_171 dX8_readLine_32 rfl ⟨rfl, rfl⟩ ⟨rfl, rfl⟩ ct_X8_errs (fun r5 M5 N5 hr5 hq5 => ?_)
      first
      | (obtain ⟨o3, f3, rfl⟩ := hq4
         have o3 := OT_eq (X := pLn b s) (by unfold pLn; rw [if_neg u1, if_pos u2]) o3
         have z3 := OT_01 hR.2.2.2.2.2.2.1 o3)
      | (obtain ⟨y1, y2, rfl⟩ := hq5
         have z3 : r5 = 0 ∨ r5 = 1 := Or.inl y1)
      refine go_retz dX8_readLine_35 (by first | exact Or.inl rfl | exact Or.inr rfl | omega) ?_
      first
      | exact ⟨o3, f3, rfl⟩
      | exact ⟨OT_fl (M := M) (w := 1) (by unfold pLn; rw [if_neg u1, if_neg u2]; rfl) y1 y2 hR.1.2.1, by rw [y2]; exact FR.of flM_K (by decide) (by decide), rfl⟩
    · have u2 : wdR b s.1 3 = true := w2.elim (fun q => q.1) (fun q => absurd q.2 (by omega))
      refine go_aload_n dX8_readLine_23 rfl rfl ?_
      refine v8_238 dX8_readLine_24 rfl ⟨rfl, rfl⟩ ⟨rfl, rfl⟩ (ct_X8_readLet hE hR) (fun r3 M3 N3 hr3 hq4 => ?_)
      refine go_goto (tgt := 35) dX8_readLine_27 rfl ?_
      first
      | (obtain ⟨o3, f3, rfl⟩ := hq4
         have o3 := OT_eq (X := pLn b s) (by unfold pLn; rw [if_neg u1, if_pos u2]) o3
         have z3 := OT_01 hR.2.2.2.2.2.2.1 o3)
      | (obtain ⟨y1, y2, rfl⟩ := hq5
         have z3 : r5 = 0 ∨ r5 = 1 := Or.inl y1)
      refine go_retz dX8_readLine_35 (by first | exact Or.inl rfl | exact Or.inr rfl | omega) ?_
      first
      | exact ⟨o3, f3, rfl⟩
      | exact ⟨OT_fl (M := M) (w := 1) (by unfold pLn; rw [if_neg u1, if_neg u2]; rfl) y1 y2 hR.1.2.1, by rw [y2]; exact FR.of flM_K (by decide) (by decide), rfl⟩
  · have u1 : wdR b s.1 0 = true := w1.elim (fun q => q.1) (fun q => absurd q.2 (by omega))
    refine go_aload_n dX8_readLine_9 rfl rfl ?_
    refine v8_235 dX8_readLine_10 rfl ⟨rfl, rfl⟩ ⟨rfl, rfl⟩ (ct_X8_readInput hE hR) (fun r3 M3 N3 hr3 hq3 => ?_)
    obtain ⟨o3, f3, rfl⟩ := hq3
    have o3 := OT_eq (X := pLn b s) (by unfold pLn; rw [if_pos u1]) o3
    have z3 := OT_01 hR.2.2.2.2.2.2.1 o3
    refine go_retz dX8_readLine_13 (by first | exact Or.inl rfl | exact Or.inr rfl | omega) ?_
    exact ⟨o3, f3, rfl⟩
