theorem RR_row {b : Int → Int} {k i x : Int} {M : Mm} {s : Rs} {f : Nat} (h : RR b k M s) (hf : f = 7 ∨ f = 8) (hi : 15 + s.2 11 0 ≤ i) : RR b k (wr M (30, 0, f) i x) s := by
  have fC : Kr [] [7, 8] M (wr M (30, 0, f) i x) := Kr.rf.wa (by rcases hf with rfl | rfl <;> decide)
  obtain ⟨i1, i2, i3, i4, i5, i6, i7, i8⟩ := h
  refine ⟨i1.k fC (by decide) (by decide) (by decide) (by decide) (by decide) (by decide) (by decide), i2, i3.k (fC.a 4 (by decide)), i4.k (fC.a 24 (by decide)) (fC.a 25 (by decide)), ?_, i6.k (fC.a 11 (by decide)) (fC.a 12 (by decide)), i7, i8⟩
  intro v v0 v1
  rw [fC.a 9 (by decide), fC.a 10 (by decide), fC.a 11 (by decide), fC.a 12 (by decide), wr_ne (fun z => absurd z.2 (by omega)), wr_ne (fun z => absurd z.2 (by omega))]
  exact i5 v v0 v1
def SPo (b : Int → Int) (X : Rr) (s : Rs) (r : Int) (M M1 : Mm) : Prop := ((r = 0 ∧ OT b 0 X 0 M1) ∨ (r = 1 ∧ ∃ t, X = (1, t) ∧ RR b (if t.1 12 = 3 then 4 else 2) M1 t ∧ 0 ≤ t.1 12 ∧ t.1 12 ≤ 3 ∧ t.2 11 0 = s.2 11 0 ∧ t.2 12 0 = s.2 12 0 ∧ t.1 11 = s.1 11 ∧ M1 (30, 0, 7) (15 + s.2 11 0) = t.1 12)) ∧ Kr [16, 17, 18, 19, 20, 21, 26] [7, 11, 12] M M1 ∧ Lw M M1
set_option maxRecDepth 100000 in
set_option maxHeartbeats 4000000 in
theorem ct_X8_readSteps {E : Ev} {M : Mm} {N : Nn} {b : Int → Int} {s : Rs} (hE : ES E) (hR : RR b 0 M s) (h15 : s.2 11 0 < 15) : Ct E yX8_readSteps cX8_readSteps 2 ((some .boolean)) (rmH 9) [vr (29, 0, 0)] M N (qi (fun r M1 N1 => SPo b (if wdR b s.1 5 = true then pPk b s else pSm b s) s r M M1 ∧ N = N1)) := by
  refine ct_of (own := RX8) (L0 := [vr (29, 0, 0), vn]) rfl (by decide +kernel) rfl rfl ?_
  have c22 := hR.1.2.2.2.2.2.1
  have d1 := hR.2.2.2.2.2.2.2.1
  obtain ⟨X, hX⟩ : ∃ X, X = (if wdR b s.1 5 = true then pPk b s else pSm b s) := ⟨_, rfl⟩
  refine go_bipush dX8_readSteps_0 ⟨by decide, by decide⟩ ?_
  refine go_aload_n dX8_readSteps_2 rfl rfl ?_
  refine g8_199 dX8_readSteps_3 ?_
  rw [c22]
  refine go_iaddc dX8_readSteps_6 ⟨by omega, by omega⟩ ?_
  refine go_ist1 dX8_readSteps_7 rfl rfl ?_
  refine go_aload_n dX8_readSteps_8 rfl rfl ?_
  refine s8_189 hE dX8_readSteps_9 ?_
  refine v8_167 dX8_readSteps_11 rfl ⟨rfl, rfl⟩ ⟨rfl, rfl⟩ (ct_X8_isName hE (by decide) hR.bd.2.2.2.1 hR.bd.2.2.2.2 hR.bd.2.1 hR.bd.2.2.1) (fun r0 M0 N0 hr0 hq0 => ?_)
  obtain ⟨z1, rfl, rfl⟩ := hq0
  have w1 := hR.nm (by decide) z1
  refine go_if_eq (tgt := 93) dX8_readSteps_14 rfl (fun h14 => ?_) (fun h14 => ?_)
  · have u1 : ¬ wdR b s.1 5 = true := w1.elim (fun q => absurd q.2 (by omega)) (fun q => by rw [q.1]; decide)
    have eX : X = pSm b s := hX.trans (if_neg u1)
    unfold pSm at eX
    refine go_aload_n dX8_readSteps_93 rfl rfl ?_
    refine go_iconst dX8_readSteps_94 (R32_lit rfl) ?_
    refine v8_221 dX8_readSteps_95 rfl ⟨rfl, rfl⟩ ⟨rfl, rfl⟩ (ct_X8_readOperand hE hR h15 (by decide) (by decide)) (fun r1 M2 N2 hr1 hq2 => ?_)
    obtain ⟨o1, f1, L1, rfl⟩ := hq2
    refine go_if_ne (tgt := 103) dX8_readSteps_98 rfl (fun h98 => ?_) (fun h98 => ?_)
    · obtain ⟨t1, e1, R1, K1⟩ := OT_op1 hR.2.2.2.2.2.2.1 o1 h98
      have R1 : RR b 1 M2 t1 := R1
      rw [e1, bnd_p1 (by decide)] at eX
      have tk := R1.1.2.2.2.1
      refine go_aload_n dX8_readSteps_103 rfl rfl ?_
      refine g8_133 dX8_readSteps_104 ?_
      rw [tk]
      refine go_bipush dX8_readSteps_107 ⟨by decide, by decide⟩ ?_
      refine go_icmp_eq (tgt := 136) dX8_readSteps_109 rfl (fun h109 => ?_) (fun h109 => ?_)
      · refine go_aload_n dX8_readSteps_136 rfl rfl ?_
        refine g8_19 dX8_readSteps_137 ?_
        refine go_iload_n dX8_readSteps_140 rfl ?_
        refine go_aload_n dX8_readSteps_141 rfl rfl ?_
        refine g8_133 dX8_readSteps_142 ?_
        rw [tk]
        refine go_bipush dX8_readSteps_145 ⟨by decide, by decide⟩ ?_
        refine go_icmp_ne (tgt := 154) dX8_readSteps_147 rfl (fun h147 => ?_) (fun h147 => ?_)
        · refine go_aload_n dX8_readSteps_154 rfl rfl ?_
          refine g8_133 dX8_readSteps_155 ?_
          rw [tk]
          refine go_bipush dX8_readSteps_158 ⟨by decide, by decide⟩ ?_
          refine go_icmp_ne (tgt := 167) dX8_readSteps_160 rfl (fun h160 => ?_) (fun h160 => ?_)
          · refine go_iconst dX8_readSteps_167 (R32_lit rfl) ?_
            refine go_nmi (fun y ey => ?_)
            have hy : y = byC (t1.1 5) := by
              rw [ey]
              unfold byC
              first
              | (rw [if_pos (by omega)]; done)
              | (rw [if_neg (by omega), if_pos (by omega)]; done)
              | (rw [if_neg (by omega), if_neg (by omega)]; done)
              | (exfalso; omega)
            clear ey
            subst hy
            rw [if_pos (show t1.1 5 = 43 ∨ t1.1 5 = 45 ∨ t1.1 5 = 42 by omega)] at eX
            refine go_iast dX8_readSteps_168 rfl (by omega) (by omega) ?_
            refine go_nmM (fun Mc eMc => ?_)
            have RC0 : RR b 1 Mc t1 := by rw [eMc]; exact RR_row R1 (Or.inl rfl) (by rw [K1.1]; exact Int.le_refl _)
            have kC : Kr [16, 17, 18, 19, 20, 21, 26] [7, 11, 12] M Mc := by rw [eMc]; exact (f1.up (by decide) (by decide)).wa (by decide)
            have lC : Lw M Mc := by rw [eMc]; exact L1.wa (by omega)
            have sC : Mc (30, 0, 7) (15 + s.2 11 0) = byC (t1.1 5) := by rw [eMc, wr_eq]
            clear eMc
            refine go_aload_n dX8_readSteps_169 rfl rfl ?_
            refine v8_175 dX8_readSteps_170 rfl ⟨rfl, rfl⟩ ⟨rfl, rfl⟩ (ct_X8_goesOn RC0.2.2.1 RC0.bd.1 RC0.bd.2.1 RC0.bd.2.2.1) (fun M4 N4 hq4 => ?_)
            obtain ⟨g41, g42, g43, g44, g45, rfl⟩ := hq4
            have R4 := RC0.ad g45 g41 g42 g43 g44
            have R4 : RR b 1 M4 (adR b (upI t1.1 12 (byC (t1.1 5))), t1.2) := R4.cg rfl rfl rfl rfl rfl
            refine go_aload_n dX8_readSteps_173 rfl rfl ?_
            refine go_iconst dX8_readSteps_174 (R32_lit rfl) ?_
            refine v8_221 dX8_readSteps_175 rfl ⟨rfl, rfl⟩ ⟨rfl, rfl⟩ (ct_X8_readOperand hE R4 (show t1.2 11 0 < 15 from by rw [K1.1]; exact h15) (by decide) (by decide)) (fun r5 M5 N5 hr5 hq5 => ?_)
            obtain ⟨o5, f5, L5, rfl⟩ := hq5
            have k5 := (kC.tr (g45.up (by decide) (by decide))).tr (f5.up (by decide) (by decide))
            have l5 := (lC.tr (g45.lw (by decide) (by decide) (by decide) (by decide) (by decide) (by decide))).tr L5
            have z5 : r5 = 0 ∨ r5 = 1 := by
              by_cases q : r5 = 0
              · exact Or.inl q
              · obtain ⟨t5, e5, R5, K5⟩ := OT_op1 R4.2.2.2.2.2.2.1 o5 q
                have := o5.1
                rw [e5] at this
                exact Or.inr this
            refine go_retz dX8_readSteps_178 (by first | exact Or.inl rfl | exact Or.inr rfl | omega) ?_
            by_cases q : r5 = 0
            · exact ⟨⟨Or.inl ⟨q, OT_eq (hX.symm.trans eX) (OT_0 o5 q)⟩, k5, l5⟩, rfl⟩
            · obtain ⟨t5, e5, R5, K5⟩ := OT_op1 R4.2.2.2.2.2.2.1 o5 q
              have hb := byC_bd (c := t1.1 5)
              have e12 : t5.1 12 = byC (t1.1 5) := K5.2.2.1
              refine ⟨⟨Or.inr ⟨by omega, t5, (hX.symm.trans eX).trans e5, ?_, by omega, by omega, K5.1.trans K1.1, K5.2.1.trans K1.2.1, K5.2.2.2.trans K1.2.2.2, ?_⟩, k5, l5⟩, rfl⟩
              · rw [if_neg (by omega)]; exact R5
              · rw [f5.a 7 (by decide), g45.a 7 (by decide), sC, e12]
          · refine go_iconst dX8_readSteps_163 (R32_lit rfl) ?_
            refine go_goto (tgt := 168) dX8_readSteps_164 rfl ?_
            refine go_nmi (fun y ey => ?_)
            have hy : y = byC (t1.1 5) := by
              rw [ey]
              unfold byC
              first
              | (rw [if_pos (by omega)]; done)
              | (rw [if_neg (by omega), if_pos (by omega)]; done)
              | (rw [if_neg (by omega), if_neg (by omega)]; done)
              | (exfalso; omega)
            clear ey
            subst hy
            rw [if_pos (show t1.1 5 = 43 ∨ t1.1 5 = 45 ∨ t1.1 5 = 42 by omega)] at eX
            refine go_iast dX8_readSteps_168 rfl (by omega) (by omega) ?_
            refine go_nmM (fun Mc eMc => ?_)
            have RC0 : RR b 1 Mc t1 := by rw [eMc]; exact RR_row R1 (Or.inl rfl) (by rw [K1.1]; exact Int.le_refl _)
            have kC : Kr [16, 17, 18, 19, 20, 21, 26] [7, 11, 12] M Mc := by rw [eMc]; exact (f1.up (by decide) (by decide)).wa (by decide)
            have lC : Lw M Mc := by rw [eMc]; exact L1.wa (by omega)
            have sC : Mc (30, 0, 7) (15 + s.2 11 0) = byC (t1.1 5) := by rw [eMc, wr_eq]
            clear eMc
            refine go_aload_n dX8_readSteps_169 rfl rfl ?_
            refine v8_175 dX8_readSteps_170 rfl ⟨rfl, rfl⟩ ⟨rfl, rfl⟩ (ct_X8_goesOn RC0.2.2.1 RC0.bd.1 RC0.bd.2.1 RC0.bd.2.2.1) (fun M4 N4 hq4 => ?_)
            obtain ⟨g41, g42, g43, g44, g45, rfl⟩ := hq4
            have R4 := RC0.ad g45 g41 g42 g43 g44
            have R4 : RR b 1 M4 (adR b (upI t1.1 12 (byC (t1.1 5))), t1.2) := R4.cg rfl rfl rfl rfl rfl
            refine go_aload_n dX8_readSteps_173 rfl rfl ?_
            refine go_iconst dX8_readSteps_174 (R32_lit rfl) ?_
            refine v8_221 dX8_readSteps_175 rfl ⟨rfl, rfl⟩ ⟨rfl, rfl⟩ (ct_X8_readOperand hE R4 (show t1.2 11 0 < 15 from by rw [K1.1]; exact h15) (by decide) (by decide)) (fun r5 M5 N5 hr5 hq5 => ?_)
            obtain ⟨o5, f5, L5, rfl⟩ := hq5
            have k5 := (kC.tr (g45.up (by decide) (by decide))).tr (f5.up (by decide) (by decide))
            have l5 := (lC.tr (g45.lw (by decide) (by decide) (by decide) (by decide) (by decide) (by decide))).tr L5
            have z5 : r5 = 0 ∨ r5 = 1 := by
              by_cases q : r5 = 0
              · exact Or.inl q
              · obtain ⟨t5, e5, R5, K5⟩ := OT_op1 R4.2.2.2.2.2.2.1 o5 q
                have := o5.1
                rw [e5] at this
                exact Or.inr this
            refine go_retz dX8_readSteps_178 (by first | exact Or.inl rfl | exact Or.inr rfl | omega) ?_
            by_cases q : r5 = 0
            · exact ⟨⟨Or.inl ⟨q, OT_eq (hX.symm.trans eX) (OT_0 o5 q)⟩, k5, l5⟩, rfl⟩
            · obtain ⟨t5, e5, R5, K5⟩ := OT_op1 R4.2.2.2.2.2.2.1 o5 q
              have hb := byC_bd (c := t1.1 5)
              have e12 : t5.1 12 = byC (t1.1 5) := K5.2.2.1
              refine ⟨⟨Or.inr ⟨by omega, t5, (hX.symm.trans eX).trans e5, ?_, by omega, by omega, K5.1.trans K1.1, K5.2.1.trans K1.2.1, K5.2.2.2.trans K1.2.2.2, ?_⟩, k5, l5⟩, rfl⟩
              · rw [if_neg (by omega)]; exact R5
              · rw [f5.a 7 (by decide), g45.a 7 (by decide), sC, e12]
        · refine go_iconst dX8_readSteps_150 (R32_lit rfl) ?_
          refine go_goto (tgt := 168) dX8_readSteps_151 rfl ?_
          refine go_nmi (fun y ey => ?_)
          have hy : y = byC (t1.1 5) := by
            rw [ey]
            unfold byC
            first
            | (rw [if_pos (by omega)]; done)
            | (rw [if_neg (by omega), if_pos (by omega)]; done)
            | (rw [if_neg (by omega), if_neg (by omega)]; done)
            | (exfalso; omega)
          clear ey
          subst hy
          rw [if_pos (show t1.1 5 = 43 ∨ t1.1 5 = 45 ∨ t1.1 5 = 42 by omega)] at eX
          refine go_iast dX8_readSteps_168 rfl (by omega) (by omega) ?_
          refine go_nmM (fun Mc eMc => ?_)
          have RC0 : RR b 1 Mc t1 := by rw [eMc]; exact RR_row R1 (Or.inl rfl) (by rw [K1.1]; exact Int.le_refl _)
          have kC : Kr [16, 17, 18, 19, 20, 21, 26] [7, 11, 12] M Mc := by rw [eMc]; exact (f1.up (by decide) (by decide)).wa (by decide)
          have lC : Lw M Mc := by rw [eMc]; exact L1.wa (by omega)
          have sC : Mc (30, 0, 7) (15 + s.2 11 0) = byC (t1.1 5) := by rw [eMc, wr_eq]
          clear eMc
          refine go_aload_n dX8_readSteps_169 rfl rfl ?_
          refine v8_175 dX8_readSteps_170 rfl ⟨rfl, rfl⟩ ⟨rfl, rfl⟩ (ct_X8_goesOn RC0.2.2.1 RC0.bd.1 RC0.bd.2.1 RC0.bd.2.2.1) (fun M4 N4 hq4 => ?_)
          obtain ⟨g41, g42, g43, g44, g45, rfl⟩ := hq4
          have R4 := RC0.ad g45 g41 g42 g43 g44
          have R4 : RR b 1 M4 (adR b (upI t1.1 12 (byC (t1.1 5))), t1.2) := R4.cg rfl rfl rfl rfl rfl
          refine go_aload_n dX8_readSteps_173 rfl rfl ?_
          refine go_iconst dX8_readSteps_174 (R32_lit rfl) ?_
          refine v8_221 dX8_readSteps_175 rfl ⟨rfl, rfl⟩ ⟨rfl, rfl⟩ (ct_X8_readOperand hE R4 (show t1.2 11 0 < 15 from by rw [K1.1]; exact h15) (by decide) (by decide)) (fun r5 M5 N5 hr5 hq5 => ?_)
          obtain ⟨o5, f5, L5, rfl⟩ := hq5
          have k5 := (kC.tr (g45.up (by decide) (by decide))).tr (f5.up (by decide) (by decide))
          have l5 := (lC.tr (g45.lw (by decide) (by decide) (by decide) (by decide) (by decide) (by decide))).tr L5
          have z5 : r5 = 0 ∨ r5 = 1 := by
            by_cases q : r5 = 0
            · exact Or.inl q
            · obtain ⟨t5, e5, R5, K5⟩ := OT_op1 R4.2.2.2.2.2.2.1 o5 q
              have := o5.1
              rw [e5] at this
              exact Or.inr this
          refine go_retz dX8_readSteps_178 (by first | exact Or.inl rfl | exact Or.inr rfl | omega) ?_
          by_cases q : r5 = 0
          · exact ⟨⟨Or.inl ⟨q, OT_eq (hX.symm.trans eX) (OT_0 o5 q)⟩, k5, l5⟩, rfl⟩
          · obtain ⟨t5, e5, R5, K5⟩ := OT_op1 R4.2.2.2.2.2.2.1 o5 q
            have hb := byC_bd (c := t1.1 5)
            have e12 : t5.1 12 = byC (t1.1 5) := K5.2.2.1
            refine ⟨⟨Or.inr ⟨by omega, t5, (hX.symm.trans eX).trans e5, ?_, by omega, by omega, K5.1.trans K1.1, K5.2.1.trans K1.2.1, K5.2.2.2.trans K1.2.2.2, ?_⟩, k5, l5⟩, rfl⟩
            · rw [if_neg (by omega)]; exact R5
            · rw [f5.a 7 (by decide), g45.a 7 (by decide), sC, e12]
      · refine go_aload_n dX8_readSteps_112 rfl rfl ?_
        refine g8_133 dX8_readSteps_113 ?_
        rw [tk]
        refine go_bipush dX8_readSteps_116 ⟨by decide, by decide⟩ ?_
        refine go_icmp_eq (tgt := 136) dX8_readSteps_118 rfl (fun h118 => ?_) (fun h118 => ?_)
        · refine go_aload_n dX8_readSteps_136 rfl rfl ?_
          refine g8_19 dX8_readSteps_137 ?_
          refine go_iload_n dX8_readSteps_140 rfl ?_
          refine go_aload_n dX8_readSteps_141 rfl rfl ?_
          refine g8_133 dX8_readSteps_142 ?_
          rw [tk]
          refine go_bipush dX8_readSteps_145 ⟨by decide, by decide⟩ ?_
          refine go_icmp_ne (tgt := 154) dX8_readSteps_147 rfl (fun h147 => ?_) (fun h147 => ?_)
          · refine go_aload_n dX8_readSteps_154 rfl rfl ?_
            refine g8_133 dX8_readSteps_155 ?_
            rw [tk]
            refine go_bipush dX8_readSteps_158 ⟨by decide, by decide⟩ ?_
            refine go_icmp_ne (tgt := 167) dX8_readSteps_160 rfl (fun h160 => ?_) (fun h160 => ?_)
            · refine go_iconst dX8_readSteps_167 (R32_lit rfl) ?_
              refine go_nmi (fun y ey => ?_)
              have hy : y = byC (t1.1 5) := by
                rw [ey]
                unfold byC
                first
                | (rw [if_pos (by omega)]; done)
                | (rw [if_neg (by omega), if_pos (by omega)]; done)
                | (rw [if_neg (by omega), if_neg (by omega)]; done)
                | (exfalso; omega)
              clear ey
              subst hy
              rw [if_pos (show t1.1 5 = 43 ∨ t1.1 5 = 45 ∨ t1.1 5 = 42 by omega)] at eX
              refine go_iast dX8_readSteps_168 rfl (by omega) (by omega) ?_
              refine go_nmM (fun Mc eMc => ?_)
              have RC0 : RR b 1 Mc t1 := by rw [eMc]; exact RR_row R1 (Or.inl rfl) (by rw [K1.1]; exact Int.le_refl _)
              have kC : Kr [16, 17, 18, 19, 20, 21, 26] [7, 11, 12] M Mc := by rw [eMc]; exact (f1.up (by decide) (by decide)).wa (by decide)
              have lC : Lw M Mc := by rw [eMc]; exact L1.wa (by omega)
              have sC : Mc (30, 0, 7) (15 + s.2 11 0) = byC (t1.1 5) := by rw [eMc, wr_eq]
              clear eMc
              refine go_aload_n dX8_readSteps_169 rfl rfl ?_
              refine v8_175 dX8_readSteps_170 rfl ⟨rfl, rfl⟩ ⟨rfl, rfl⟩ (ct_X8_goesOn RC0.2.2.1 RC0.bd.1 RC0.bd.2.1 RC0.bd.2.2.1) (fun M4 N4 hq4 => ?_)
              obtain ⟨g41, g42, g43, g44, g45, rfl⟩ := hq4
              have R4 := RC0.ad g45 g41 g42 g43 g44
              have R4 : RR b 1 M4 (adR b (upI t1.1 12 (byC (t1.1 5))), t1.2) := R4.cg rfl rfl rfl rfl rfl
              refine go_aload_n dX8_readSteps_173 rfl rfl ?_
              refine go_iconst dX8_readSteps_174 (R32_lit rfl) ?_
              refine v8_221 dX8_readSteps_175 rfl ⟨rfl, rfl⟩ ⟨rfl, rfl⟩ (ct_X8_readOperand hE R4 (show t1.2 11 0 < 15 from by rw [K1.1]; exact h15) (by decide) (by decide)) (fun r5 M5 N5 hr5 hq5 => ?_)
              obtain ⟨o5, f5, L5, rfl⟩ := hq5
              have k5 := (kC.tr (g45.up (by decide) (by decide))).tr (f5.up (by decide) (by decide))
              have l5 := (lC.tr (g45.lw (by decide) (by decide) (by decide) (by decide) (by decide) (by decide))).tr L5
              have z5 : r5 = 0 ∨ r5 = 1 := by
                by_cases q : r5 = 0
                · exact Or.inl q
                · obtain ⟨t5, e5, R5, K5⟩ := OT_op1 R4.2.2.2.2.2.2.1 o5 q
                  have := o5.1
                  rw [e5] at this
                  exact Or.inr this
              refine go_retz dX8_readSteps_178 (by first | exact Or.inl rfl | exact Or.inr rfl | omega) ?_
              by_cases q : r5 = 0
              · exact ⟨⟨Or.inl ⟨q, OT_eq (hX.symm.trans eX) (OT_0 o5 q)⟩, k5, l5⟩, rfl⟩
              · obtain ⟨t5, e5, R5, K5⟩ := OT_op1 R4.2.2.2.2.2.2.1 o5 q
                have hb := byC_bd (c := t1.1 5)
                have e12 : t5.1 12 = byC (t1.1 5) := K5.2.2.1
                refine ⟨⟨Or.inr ⟨by omega, t5, (hX.symm.trans eX).trans e5, ?_, by omega, by omega, K5.1.trans K1.1, K5.2.1.trans K1.2.1, K5.2.2.2.trans K1.2.2.2, ?_⟩, k5, l5⟩, rfl⟩
                · rw [if_neg (by omega)]; exact R5
                · rw [f5.a 7 (by decide), g45.a 7 (by decide), sC, e12]
            · refine go_iconst dX8_readSteps_163 (R32_lit rfl) ?_
              refine go_goto (tgt := 168) dX8_readSteps_164 rfl ?_
              refine go_nmi (fun y ey => ?_)
              have hy : y = byC (t1.1 5) := by
                rw [ey]
                unfold byC
                first
                | (rw [if_pos (by omega)]; done)
                | (rw [if_neg (by omega), if_pos (by omega)]; done)
                | (rw [if_neg (by omega), if_neg (by omega)]; done)
                | (exfalso; omega)
              clear ey
              subst hy
              rw [if_pos (show t1.1 5 = 43 ∨ t1.1 5 = 45 ∨ t1.1 5 = 42 by omega)] at eX
              refine go_iast dX8_readSteps_168 rfl (by omega) (by omega) ?_
              refine go_nmM (fun Mc eMc => ?_)
              have RC0 : RR b 1 Mc t1 := by rw [eMc]; exact RR_row R1 (Or.inl rfl) (by rw [K1.1]; exact Int.le_refl _)
              have kC : Kr [16, 17, 18, 19, 20, 21, 26] [7, 11, 12] M Mc := by rw [eMc]; exact (f1.up (by decide) (by decide)).wa (by decide)
              have lC : Lw M Mc := by rw [eMc]; exact L1.wa (by omega)
              have sC : Mc (30, 0, 7) (15 + s.2 11 0) = byC (t1.1 5) := by rw [eMc, wr_eq]
              clear eMc
              refine go_aload_n dX8_readSteps_169 rfl rfl ?_
              refine v8_175 dX8_readSteps_170 rfl ⟨rfl, rfl⟩ ⟨rfl, rfl⟩ (ct_X8_goesOn RC0.2.2.1 RC0.bd.1 RC0.bd.2.1 RC0.bd.2.2.1) (fun M4 N4 hq4 => ?_)
              obtain ⟨g41, g42, g43, g44, g45, rfl⟩ := hq4
              have R4 := RC0.ad g45 g41 g42 g43 g44
              have R4 : RR b 1 M4 (adR b (upI t1.1 12 (byC (t1.1 5))), t1.2) := R4.cg rfl rfl rfl rfl rfl
              refine go_aload_n dX8_readSteps_173 rfl rfl ?_
              refine go_iconst dX8_readSteps_174 (R32_lit rfl) ?_
              refine v8_221 dX8_readSteps_175 rfl ⟨rfl, rfl⟩ ⟨rfl, rfl⟩ (ct_X8_readOperand hE R4 (show t1.2 11 0 < 15 from by rw [K1.1]; exact h15) (by decide) (by decide)) (fun r5 M5 N5 hr5 hq5 => ?_)
              obtain ⟨o5, f5, L5, rfl⟩ := hq5
              have k5 := (kC.tr (g45.up (by decide) (by decide))).tr (f5.up (by decide) (by decide))
              have l5 := (lC.tr (g45.lw (by decide) (by decide) (by decide) (by decide) (by decide) (by decide))).tr L5
              have z5 : r5 = 0 ∨ r5 = 1 := by
                by_cases q : r5 = 0
                · exact Or.inl q
                · obtain ⟨t5, e5, R5, K5⟩ := OT_op1 R4.2.2.2.2.2.2.1 o5 q
                  have := o5.1
                  rw [e5] at this
                  exact Or.inr this
              refine go_retz dX8_readSteps_178 (by first | exact Or.inl rfl | exact Or.inr rfl | omega) ?_
              by_cases q : r5 = 0
              · exact ⟨⟨Or.inl ⟨q, OT_eq (hX.symm.trans eX) (OT_0 o5 q)⟩, k5, l5⟩, rfl⟩
              · obtain ⟨t5, e5, R5, K5⟩ := OT_op1 R4.2.2.2.2.2.2.1 o5 q
                have hb := byC_bd (c := t1.1 5)
                have e12 : t5.1 12 = byC (t1.1 5) := K5.2.2.1
                refine ⟨⟨Or.inr ⟨by omega, t5, (hX.symm.trans eX).trans e5, ?_, by omega, by omega, K5.1.trans K1.1, K5.2.1.trans K1.2.1, K5.2.2.2.trans K1.2.2.2, ?_⟩, k5, l5⟩, rfl⟩
                · rw [if_neg (by omega)]; exact R5
                · rw [f5.a 7 (by decide), g45.a 7 (by decide), sC, e12]
          · refine go_iconst dX8_readSteps_150 (R32_lit rfl) ?_
            refine go_goto (tgt := 168) dX8_readSteps_151 rfl ?_
            refine go_nmi (fun y ey => ?_)
            have hy : y = byC (t1.1 5) := by
              rw [ey]
              unfold byC
              first
              | (rw [if_pos (by omega)]; done)
              | (rw [if_neg (by omega), if_pos (by omega)]; done)
              | (rw [if_neg (by omega), if_neg (by omega)]; done)
              | (exfalso; omega)
            clear ey
            subst hy
            rw [if_pos (show t1.1 5 = 43 ∨ t1.1 5 = 45 ∨ t1.1 5 = 42 by omega)] at eX
            refine go_iast dX8_readSteps_168 rfl (by omega) (by omega) ?_
            refine go_nmM (fun Mc eMc => ?_)
            have RC0 : RR b 1 Mc t1 := by rw [eMc]; exact RR_row R1 (Or.inl rfl) (by rw [K1.1]; exact Int.le_refl _)
            have kC : Kr [16, 17, 18, 19, 20, 21, 26] [7, 11, 12] M Mc := by rw [eMc]; exact (f1.up (by decide) (by decide)).wa (by decide)
            have lC : Lw M Mc := by rw [eMc]; exact L1.wa (by omega)
            have sC : Mc (30, 0, 7) (15 + s.2 11 0) = byC (t1.1 5) := by rw [eMc, wr_eq]
            clear eMc
            refine go_aload_n dX8_readSteps_169 rfl rfl ?_
            refine v8_175 dX8_readSteps_170 rfl ⟨rfl, rfl⟩ ⟨rfl, rfl⟩ (ct_X8_goesOn RC0.2.2.1 RC0.bd.1 RC0.bd.2.1 RC0.bd.2.2.1) (fun M4 N4 hq4 => ?_)
            obtain ⟨g41, g42, g43, g44, g45, rfl⟩ := hq4
            have R4 := RC0.ad g45 g41 g42 g43 g44
            have R4 : RR b 1 M4 (adR b (upI t1.1 12 (byC (t1.1 5))), t1.2) := R4.cg rfl rfl rfl rfl rfl
            refine go_aload_n dX8_readSteps_173 rfl rfl ?_
            refine go_iconst dX8_readSteps_174 (R32_lit rfl) ?_
            refine v8_221 dX8_readSteps_175 rfl ⟨rfl, rfl⟩ ⟨rfl, rfl⟩ (ct_X8_readOperand hE R4 (show t1.2 11 0 < 15 from by rw [K1.1]; exact h15) (by decide) (by decide)) (fun r5 M5 N5 hr5 hq5 => ?_)
            obtain ⟨o5, f5, L5, rfl⟩ := hq5
            have k5 := (kC.tr (g45.up (by decide) (by decide))).tr (f5.up (by decide) (by decide))
            have l5 := (lC.tr (g45.lw (by decide) (by decide) (by decide) (by decide) (by decide) (by decide))).tr L5
            have z5 : r5 = 0 ∨ r5 = 1 := by
              by_cases q : r5 = 0
              · exact Or.inl q
              · obtain ⟨t5, e5, R5, K5⟩ := OT_op1 R4.2.2.2.2.2.2.1 o5 q
                have := o5.1
                rw [e5] at this
                exact Or.inr this
            refine go_retz dX8_readSteps_178 (by first | exact Or.inl rfl | exact Or.inr rfl | omega) ?_
            by_cases q : r5 = 0
            · exact ⟨⟨Or.inl ⟨q, OT_eq (hX.symm.trans eX) (OT_0 o5 q)⟩, k5, l5⟩, rfl⟩
            · obtain ⟨t5, e5, R5, K5⟩ := OT_op1 R4.2.2.2.2.2.2.1 o5 q
              have hb := byC_bd (c := t1.1 5)
              have e12 : t5.1 12 = byC (t1.1 5) := K5.2.2.1
              refine ⟨⟨Or.inr ⟨by omega, t5, (hX.symm.trans eX).trans e5, ?_, by omega, by omega, K5.1.trans K1.1, K5.2.1.trans K1.2.1, K5.2.2.2.trans K1.2.2.2, ?_⟩, k5, l5⟩, rfl⟩
              · rw [if_neg (by omega)]; exact R5
              · rw [f5.a 7 (by decide), g45.a 7 (by decide), sC, e12]
        · refine go_aload_n dX8_readSteps_121 rfl rfl ?_
          refine g8_133 dX8_readSteps_122 ?_
          rw [tk]
          refine go_bipush dX8_readSteps_125 ⟨by decide, by decide⟩ ?_
          refine go_icmp_eq (tgt := 136) dX8_readSteps_127 rfl (fun h127 => ?_) (fun h127 => ?_)
          · refine go_aload_n dX8_readSteps_136 rfl rfl ?_
            refine g8_19 dX8_readSteps_137 ?_
            refine go_iload_n dX8_readSteps_140 rfl ?_
            refine go_aload_n dX8_readSteps_141 rfl rfl ?_
            refine g8_133 dX8_readSteps_142 ?_
            rw [tk]
            refine go_bipush dX8_readSteps_145 ⟨by decide, by decide⟩ ?_
            refine go_icmp_ne (tgt := 154) dX8_readSteps_147 rfl (fun h147 => ?_) (fun h147 => ?_)
            · refine go_aload_n dX8_readSteps_154 rfl rfl ?_
              refine g8_133 dX8_readSteps_155 ?_
              rw [tk]
              refine go_bipush dX8_readSteps_158 ⟨by decide, by decide⟩ ?_
              refine go_icmp_ne (tgt := 167) dX8_readSteps_160 rfl (fun h160 => ?_) (fun h160 => ?_)
              · refine go_iconst dX8_readSteps_167 (R32_lit rfl) ?_
                refine go_nmi (fun y ey => ?_)
                have hy : y = byC (t1.1 5) := by
                  rw [ey]
                  unfold byC
                  first
                  | (rw [if_pos (by omega)]; done)
                  | (rw [if_neg (by omega), if_pos (by omega)]; done)
                  | (rw [if_neg (by omega), if_neg (by omega)]; done)
                  | (exfalso; omega)
                clear ey
                subst hy
                rw [if_pos (show t1.1 5 = 43 ∨ t1.1 5 = 45 ∨ t1.1 5 = 42 by omega)] at eX
                refine go_iast dX8_readSteps_168 rfl (by omega) (by omega) ?_
                refine go_nmM (fun Mc eMc => ?_)
                have RC0 : RR b 1 Mc t1 := by rw [eMc]; exact RR_row R1 (Or.inl rfl) (by rw [K1.1]; exact Int.le_refl _)
                have kC : Kr [16, 17, 18, 19, 20, 21, 26] [7, 11, 12] M Mc := by rw [eMc]; exact (f1.up (by decide) (by decide)).wa (by decide)
                have lC : Lw M Mc := by rw [eMc]; exact L1.wa (by omega)
                have sC : Mc (30, 0, 7) (15 + s.2 11 0) = byC (t1.1 5) := by rw [eMc, wr_eq]
                clear eMc
                refine go_aload_n dX8_readSteps_169 rfl rfl ?_
                refine v8_175 dX8_readSteps_170 rfl ⟨rfl, rfl⟩ ⟨rfl, rfl⟩ (ct_X8_goesOn RC0.2.2.1 RC0.bd.1 RC0.bd.2.1 RC0.bd.2.2.1) (fun M4 N4 hq4 => ?_)
                obtain ⟨g41, g42, g43, g44, g45, rfl⟩ := hq4
                have R4 := RC0.ad g45 g41 g42 g43 g44
                have R4 : RR b 1 M4 (adR b (upI t1.1 12 (byC (t1.1 5))), t1.2) := R4.cg rfl rfl rfl rfl rfl
                refine go_aload_n dX8_readSteps_173 rfl rfl ?_
                refine go_iconst dX8_readSteps_174 (R32_lit rfl) ?_
                refine v8_221 dX8_readSteps_175 rfl ⟨rfl, rfl⟩ ⟨rfl, rfl⟩ (ct_X8_readOperand hE R4 (show t1.2 11 0 < 15 from by rw [K1.1]; exact h15) (by decide) (by decide)) (fun r5 M5 N5 hr5 hq5 => ?_)
                obtain ⟨o5, f5, L5, rfl⟩ := hq5
                have k5 := (kC.tr (g45.up (by decide) (by decide))).tr (f5.up (by decide) (by decide))
                have l5 := (lC.tr (g45.lw (by decide) (by decide) (by decide) (by decide) (by decide) (by decide))).tr L5
                have z5 : r5 = 0 ∨ r5 = 1 := by
                  by_cases q : r5 = 0
                  · exact Or.inl q
                  · obtain ⟨t5, e5, R5, K5⟩ := OT_op1 R4.2.2.2.2.2.2.1 o5 q
                    have := o5.1
                    rw [e5] at this
                    exact Or.inr this
                refine go_retz dX8_readSteps_178 (by first | exact Or.inl rfl | exact Or.inr rfl | omega) ?_
                by_cases q : r5 = 0
                · exact ⟨⟨Or.inl ⟨q, OT_eq (hX.symm.trans eX) (OT_0 o5 q)⟩, k5, l5⟩, rfl⟩
                · obtain ⟨t5, e5, R5, K5⟩ := OT_op1 R4.2.2.2.2.2.2.1 o5 q
                  have hb := byC_bd (c := t1.1 5)
                  have e12 : t5.1 12 = byC (t1.1 5) := K5.2.2.1
                  refine ⟨⟨Or.inr ⟨by omega, t5, (hX.symm.trans eX).trans e5, ?_, by omega, by omega, K5.1.trans K1.1, K5.2.1.trans K1.2.1, K5.2.2.2.trans K1.2.2.2, ?_⟩, k5, l5⟩, rfl⟩
                  · rw [if_neg (by omega)]; exact R5
                  · rw [f5.a 7 (by decide), g45.a 7 (by decide), sC, e12]
              · refine go_iconst dX8_readSteps_163 (R32_lit rfl) ?_
                refine go_goto (tgt := 168) dX8_readSteps_164 rfl ?_
                refine go_nmi (fun y ey => ?_)
                have hy : y = byC (t1.1 5) := by
                  rw [ey]
                  unfold byC
                  first
                  | (rw [if_pos (by omega)]; done)
                  | (rw [if_neg (by omega), if_pos (by omega)]; done)
                  | (rw [if_neg (by omega), if_neg (by omega)]; done)
                  | (exfalso; omega)
                clear ey
                subst hy
                rw [if_pos (show t1.1 5 = 43 ∨ t1.1 5 = 45 ∨ t1.1 5 = 42 by omega)] at eX
                refine go_iast dX8_readSteps_168 rfl (by omega) (by omega) ?_
                refine go_nmM (fun Mc eMc => ?_)
                have RC0 : RR b 1 Mc t1 := by rw [eMc]; exact RR_row R1 (Or.inl rfl) (by rw [K1.1]; exact Int.le_refl _)
                have kC : Kr [16, 17, 18, 19, 20, 21, 26] [7, 11, 12] M Mc := by rw [eMc]; exact (f1.up (by decide) (by decide)).wa (by decide)
                have lC : Lw M Mc := by rw [eMc]; exact L1.wa (by omega)
                have sC : Mc (30, 0, 7) (15 + s.2 11 0) = byC (t1.1 5) := by rw [eMc, wr_eq]
                clear eMc
                refine go_aload_n dX8_readSteps_169 rfl rfl ?_
                refine v8_175 dX8_readSteps_170 rfl ⟨rfl, rfl⟩ ⟨rfl, rfl⟩ (ct_X8_goesOn RC0.2.2.1 RC0.bd.1 RC0.bd.2.1 RC0.bd.2.2.1) (fun M4 N4 hq4 => ?_)
                obtain ⟨g41, g42, g43, g44, g45, rfl⟩ := hq4
                have R4 := RC0.ad g45 g41 g42 g43 g44
                have R4 : RR b 1 M4 (adR b (upI t1.1 12 (byC (t1.1 5))), t1.2) := R4.cg rfl rfl rfl rfl rfl
                refine go_aload_n dX8_readSteps_173 rfl rfl ?_
                refine go_iconst dX8_readSteps_174 (R32_lit rfl) ?_
                refine v8_221 dX8_readSteps_175 rfl ⟨rfl, rfl⟩ ⟨rfl, rfl⟩ (ct_X8_readOperand hE R4 (show t1.2 11 0 < 15 from by rw [K1.1]; exact h15) (by decide) (by decide)) (fun r5 M5 N5 hr5 hq5 => ?_)
                obtain ⟨o5, f5, L5, rfl⟩ := hq5
                have k5 := (kC.tr (g45.up (by decide) (by decide))).tr (f5.up (by decide) (by decide))
                have l5 := (lC.tr (g45.lw (by decide) (by decide) (by decide) (by decide) (by decide) (by decide))).tr L5
                have z5 : r5 = 0 ∨ r5 = 1 := by
                  by_cases q : r5 = 0
                  · exact Or.inl q
                  · obtain ⟨t5, e5, R5, K5⟩ := OT_op1 R4.2.2.2.2.2.2.1 o5 q
                    have := o5.1
                    rw [e5] at this
                    exact Or.inr this
                refine go_retz dX8_readSteps_178 (by first | exact Or.inl rfl | exact Or.inr rfl | omega) ?_
                by_cases q : r5 = 0
                · exact ⟨⟨Or.inl ⟨q, OT_eq (hX.symm.trans eX) (OT_0 o5 q)⟩, k5, l5⟩, rfl⟩
                · obtain ⟨t5, e5, R5, K5⟩ := OT_op1 R4.2.2.2.2.2.2.1 o5 q
                  have hb := byC_bd (c := t1.1 5)
                  have e12 : t5.1 12 = byC (t1.1 5) := K5.2.2.1
                  refine ⟨⟨Or.inr ⟨by omega, t5, (hX.symm.trans eX).trans e5, ?_, by omega, by omega, K5.1.trans K1.1, K5.2.1.trans K1.2.1, K5.2.2.2.trans K1.2.2.2, ?_⟩, k5, l5⟩, rfl⟩
                  · rw [if_neg (by omega)]; exact R5
                  · rw [f5.a 7 (by decide), g45.a 7 (by decide), sC, e12]
            · refine go_iconst dX8_readSteps_150 (R32_lit rfl) ?_
              refine go_goto (tgt := 168) dX8_readSteps_151 rfl ?_
              refine go_nmi (fun y ey => ?_)
              have hy : y = byC (t1.1 5) := by
                rw [ey]
                unfold byC
                first
                | (rw [if_pos (by omega)]; done)
                | (rw [if_neg (by omega), if_pos (by omega)]; done)
                | (rw [if_neg (by omega), if_neg (by omega)]; done)
                | (exfalso; omega)
              clear ey
              subst hy
              rw [if_pos (show t1.1 5 = 43 ∨ t1.1 5 = 45 ∨ t1.1 5 = 42 by omega)] at eX
              refine go_iast dX8_readSteps_168 rfl (by omega) (by omega) ?_
              refine go_nmM (fun Mc eMc => ?_)
              have RC0 : RR b 1 Mc t1 := by rw [eMc]; exact RR_row R1 (Or.inl rfl) (by rw [K1.1]; exact Int.le_refl _)
              have kC : Kr [16, 17, 18, 19, 20, 21, 26] [7, 11, 12] M Mc := by rw [eMc]; exact (f1.up (by decide) (by decide)).wa (by decide)
              have lC : Lw M Mc := by rw [eMc]; exact L1.wa (by omega)
              have sC : Mc (30, 0, 7) (15 + s.2 11 0) = byC (t1.1 5) := by rw [eMc, wr_eq]
              clear eMc
              refine go_aload_n dX8_readSteps_169 rfl rfl ?_
              refine v8_175 dX8_readSteps_170 rfl ⟨rfl, rfl⟩ ⟨rfl, rfl⟩ (ct_X8_goesOn RC0.2.2.1 RC0.bd.1 RC0.bd.2.1 RC0.bd.2.2.1) (fun M4 N4 hq4 => ?_)
              obtain ⟨g41, g42, g43, g44, g45, rfl⟩ := hq4
              have R4 := RC0.ad g45 g41 g42 g43 g44
              have R4 : RR b 1 M4 (adR b (upI t1.1 12 (byC (t1.1 5))), t1.2) := R4.cg rfl rfl rfl rfl rfl
              refine go_aload_n dX8_readSteps_173 rfl rfl ?_
              refine go_iconst dX8_readSteps_174 (R32_lit rfl) ?_
              refine v8_221 dX8_readSteps_175 rfl ⟨rfl, rfl⟩ ⟨rfl, rfl⟩ (ct_X8_readOperand hE R4 (show t1.2 11 0 < 15 from by rw [K1.1]; exact h15) (by decide) (by decide)) (fun r5 M5 N5 hr5 hq5 => ?_)
              obtain ⟨o5, f5, L5, rfl⟩ := hq5
              have k5 := (kC.tr (g45.up (by decide) (by decide))).tr (f5.up (by decide) (by decide))
              have l5 := (lC.tr (g45.lw (by decide) (by decide) (by decide) (by decide) (by decide) (by decide))).tr L5
              have z5 : r5 = 0 ∨ r5 = 1 := by
                by_cases q : r5 = 0
                · exact Or.inl q
                · obtain ⟨t5, e5, R5, K5⟩ := OT_op1 R4.2.2.2.2.2.2.1 o5 q
                  have := o5.1
                  rw [e5] at this
                  exact Or.inr this
              refine go_retz dX8_readSteps_178 (by first | exact Or.inl rfl | exact Or.inr rfl | omega) ?_
              by_cases q : r5 = 0
              · exact ⟨⟨Or.inl ⟨q, OT_eq (hX.symm.trans eX) (OT_0 o5 q)⟩, k5, l5⟩, rfl⟩
              · obtain ⟨t5, e5, R5, K5⟩ := OT_op1 R4.2.2.2.2.2.2.1 o5 q
                have hb := byC_bd (c := t1.1 5)
                have e12 : t5.1 12 = byC (t1.1 5) := K5.2.2.1
                refine ⟨⟨Or.inr ⟨by omega, t5, (hX.symm.trans eX).trans e5, ?_, by omega, by omega, K5.1.trans K1.1, K5.2.1.trans K1.2.1, K5.2.2.2.trans K1.2.2.2, ?_⟩, k5, l5⟩, rfl⟩
                · rw [if_neg (by omega)]; exact R5
                · rw [f5.a 7 (by decide), g45.a 7 (by decide), sC, e12]
          · refine go_aload_n dX8_readSteps_130 rfl rfl ?_
            refine go_iconst dX8_readSteps_131 (R32_lit rfl) ?_
            refine v8_171 dX8_readSteps_132 rfl ⟨rfl, rfl⟩ ⟨rfl, rfl⟩ ct_X8_errs (fun r3 M3 N3 hr3 hq3 => ?_)
            refine go_retz dX8_readSteps_135 (by first | exact Or.inl rfl | exact Or.inr rfl | omega) ?_
            obtain ⟨y1, y2, rfl⟩ := hq3
            rw [if_neg (show ¬ (t1.1 5 = 43 ∨ t1.1 5 = 45 ∨ t1.1 5 = 42) by omega)] at eX
            refine ⟨⟨Or.inl ⟨y1, ?_⟩, (f1.up (by decide) (by decide)).tr (by rw [y2]; exact flM_K.up (by decide) (by decide)), L1.tr (by rw [y2]; exact flM_K.lw (by decide) (by decide) (by decide) (by decide) (by decide) (by decide))⟩, rfl⟩
            rw [← y1]
            exact OT_fl (M := M2) (w := 1) (hX.symm.trans eX) y1 y2 R1.1.2.1
    · refine go_iconst dX8_readSteps_101 (R32_lit rfl) ?_
      refine go_retz dX8_readSteps_102 (by first | exact Or.inl rfl | exact Or.inr rfl | omega) ?_
      exact ⟨⟨Or.inl ⟨rfl, OT_eq (hX.symm.trans eX) (OT_b0 o1 h98)⟩, f1.up (by decide) (by decide), L1⟩, rfl⟩
  · have u1 : wdR b s.1 5 = true := w1.elim (fun q => q.1) (fun q => absurd q.2 (by omega))
    have eX : X = pPk b s := hX.trans (if_pos u1)
    unfold pPk at eX
    refine go_aload_n dX8_readSteps_17 rfl rfl ?_
    refine g8_19 dX8_readSteps_18 ?_
    refine go_iload_n dX8_readSteps_21 rfl ?_
    refine go_iconst dX8_readSteps_22 (R32_lit rfl) ?_
    refine go_iast dX8_readSteps_23 rfl (by omega) (by omega) ?_
    refine go_nmM (fun Mc eMc => ?_)
    have RC0 : RR b 0 Mc s := by rw [eMc]; exact RR_row hR (Or.inl rfl) (Int.le_refl _)
    have kC : Kr [16, 17, 18, 19, 20, 21, 26] [7, 11, 12] M Mc := by rw [eMc]; exact Kr.rf.wa (by decide)
    have lC : Lw M Mc := by rw [eMc]; exact Lw.rf.wa (by omega)
    have sC : Mc (30, 0, 7) (15 + s.2 11 0) = 3 := by rw [eMc, wr_eq]
    clear eMc
    refine go_aload_n dX8_readSteps_24 rfl rfl ?_
    refine v8_175 dX8_readSteps_25 rfl ⟨rfl, rfl⟩ ⟨rfl, rfl⟩ (ct_X8_goesOn RC0.2.2.1 RC0.bd.1 RC0.bd.2.1 RC0.bd.2.2.1) (fun M1 N1 hq1 => ?_)
    obtain ⟨g11, g12, g13, g14, g15, rfl⟩ := hq1
    have R0 := RC0.ad g15 g11 g12 g13 g14
    have R0 : RR b 0 M1 (adR b (upI s.1 12 3), s.2) := R0.cg rfl rfl rfl rfl rfl
    have k0 := kC.tr (g15.up (by decide) (by decide))
    have l0 := lC.tr (g15.lw (by decide) (by decide) (by decide) (by decide) (by decide) (by decide))
    have s0 : M1 (30, 0, 7) (15 + s.2 11 0) = 3 := by rw [g15.a 7 (by decide)]; exact sC
    have K0 : KS (adR b (upI s.1 12 3), s.2) (adR b (upI s.1 12 3), s.2) := ⟨rfl, rfl, rfl, rfl⟩
    refine go_aload_n dX8_readSteps_28 rfl rfl ?_
    refine go_iconst dX8_readSteps_29 (R32_lit rfl) ?_
    refine v8_221 dX8_readSteps_30 rfl ⟨rfl, rfl⟩ ⟨rfl, rfl⟩ (ct_X8_readOperand hE R0 (show _ < 15 from by rw [K0.1]; exact h15) (by decide) (by decide)) (fun r1 M2 N2 hr1 hq2 => ?_)
    obtain ⟨o1, f1, L1, rfl⟩ := hq2
    have k1 := k0.tr (f1.up (by decide) (by decide))
    have l1 := l0.tr L1
    have s1 : M2 (30, 0, 7) (15 + s.2 11 0) = 3 := by rw [f1.a 7 (by decide)]; exact s0
    refine go_if_eq (tgt := 91) dX8_readSteps_33 rfl (fun h33 => ?_) (fun h33 => ?_)
    · refine go_iconst dX8_readSteps_91 (R32_lit rfl) ?_
      refine go_retz dX8_readSteps_92 (by first | exact Or.inl rfl | exact Or.inr rfl | omega) ?_
      first
      | (refine ⟨⟨Or.inr ⟨rfl, t7, (hX.symm.trans eX).trans e7, ?_, ?_, ?_, K7.1, K7.2.1, K7.2.2.2, s7.trans (show t7.1 12 = 3 from K7.2.2.1).symm⟩, k7, l7⟩, rfl⟩
         · rw [if_pos (show t7.1 12 = 3 from K7.2.2.1)]; exact R7
         · rw [show t7.1 12 = 3 from K7.2.2.1]; decide
         · rw [show t7.1 12 = 3 from K7.2.2.1]; decide)
      | exact ⟨⟨Or.inl ⟨rfl, OT_eq (hX.symm.trans eX) (OT_0 o7 h84)⟩, k7, l7⟩, rfl⟩
      | exact ⟨⟨Or.inl ⟨rfl, OT_eq (hX.symm.trans eX) (OT_b0 o6 h76)⟩, k6, l6⟩, rfl⟩
      | exact ⟨⟨Or.inl ⟨rfl, OT_eq (hX.symm.trans eX) (OT_b0 o5 h67)⟩, k5, l5⟩, rfl⟩
      | exact ⟨⟨Or.inl ⟨rfl, OT_eq (hX.symm.trans eX) (OT_b0 o4 h59)⟩, k4, l4⟩, rfl⟩
      | exact ⟨⟨Or.inl ⟨rfl, OT_eq (hX.symm.trans eX) (OT_b0 o3 h50)⟩, k3, l3⟩, rfl⟩
      | exact ⟨⟨Or.inl ⟨rfl, OT_eq (hX.symm.trans eX) (OT_b0 o2 h42)⟩, k2, l2⟩, rfl⟩
      | exact ⟨⟨Or.inl ⟨rfl, OT_eq (hX.symm.trans eX) (OT_b0 o1 h33)⟩, k1, l1⟩, rfl⟩
    · obtain ⟨t1, e1, R1, Q1⟩ := OT_op1 R0.2.2.2.2.2.2.1 o1 h33
      have R1 : RR b 1 M2 t1 := R1
      have K1 := K0.tr Q1
      rw [e1, bnd_p1 (by decide)] at eX
      refine go_aload_n dX8_readSteps_36 rfl rfl ?_
      refine go_bipush dX8_readSteps_37 ⟨by decide, by decide⟩ ?_
      refine v8_224 dX8_readSteps_39 rfl ⟨rfl, rfl⟩ ⟨rfl, rfl⟩ (ct_X8_takes R1) (fun r2 M3 N3 hr2 hq3 => ?_)
      obtain ⟨o2, f2, rfl⟩ := hq3
      have k2 := k1.tr (f2.up (by decide) (by decide))
      have l2 := l1.tr (f2.lw (by decide) (by decide) (by decide) (by decide) (by decide) (by decide))
      have s2 : M3 (30, 0, 7) (15 + s.2 11 0) = 3 := by rw [f2.a 7 (by decide)]; exact s1
      refine go_if_eq (tgt := 91) dX8_readSteps_42 rfl (fun h42 => ?_) (fun h42 => ?_)
      · refine go_iconst dX8_readSteps_91 (R32_lit rfl) ?_
        refine go_retz dX8_readSteps_92 (by first | exact Or.inl rfl | exact Or.inr rfl | omega) ?_
        first
        | (refine ⟨⟨Or.inr ⟨rfl, t7, (hX.symm.trans eX).trans e7, ?_, ?_, ?_, K7.1, K7.2.1, K7.2.2.2, s7.trans (show t7.1 12 = 3 from K7.2.2.1).symm⟩, k7, l7⟩, rfl⟩
           · rw [if_pos (show t7.1 12 = 3 from K7.2.2.1)]; exact R7
           · rw [show t7.1 12 = 3 from K7.2.2.1]; decide
           · rw [show t7.1 12 = 3 from K7.2.2.1]; decide)
        | exact ⟨⟨Or.inl ⟨rfl, OT_eq (hX.symm.trans eX) (OT_0 o7 h84)⟩, k7, l7⟩, rfl⟩
        | exact ⟨⟨Or.inl ⟨rfl, OT_eq (hX.symm.trans eX) (OT_b0 o6 h76)⟩, k6, l6⟩, rfl⟩
        | exact ⟨⟨Or.inl ⟨rfl, OT_eq (hX.symm.trans eX) (OT_b0 o5 h67)⟩, k5, l5⟩, rfl⟩
        | exact ⟨⟨Or.inl ⟨rfl, OT_eq (hX.symm.trans eX) (OT_b0 o4 h59)⟩, k4, l4⟩, rfl⟩
        | exact ⟨⟨Or.inl ⟨rfl, OT_eq (hX.symm.trans eX) (OT_b0 o3 h50)⟩, k3, l3⟩, rfl⟩
        | exact ⟨⟨Or.inl ⟨rfl, OT_eq (hX.symm.trans eX) (OT_b0 o2 h42)⟩, k2, l2⟩, rfl⟩
        | exact ⟨⟨Or.inl ⟨rfl, OT_eq (hX.symm.trans eX) (OT_b0 o1 h33)⟩, k1, l1⟩, rfl⟩
      · obtain ⟨t2, e2, R2, a2, b2, c2⟩ := OT_sg1 o2 h42
        have K2 := K1.tr (show KS _ t2 from ⟨by rw [a2], by rw [a2], c2, b2⟩)
        rw [e2, bnd_p1 (by decide)] at eX
        refine go_aload_n dX8_readSteps_45 rfl rfl ?_
        refine go_iconst dX8_readSteps_46 (R32_lit rfl) ?_
        refine v8_221 dX8_readSteps_47 rfl ⟨rfl, rfl⟩ ⟨rfl, rfl⟩ (ct_X8_readOperand hE R2 (show _ < 15 from by rw [K2.1]; exact h15) (by decide) (by decide)) (fun r3 M4 N4 hr3 hq4 => ?_)
        obtain ⟨o3, f3, L3, rfl⟩ := hq4
        have k3 := k2.tr (f3.up (by decide) (by decide))
        have l3 := l2.tr L3
        have s3 : M4 (30, 0, 7) (15 + s.2 11 0) = 3 := by rw [f3.a 7 (by decide)]; exact s2
        refine go_if_eq (tgt := 91) dX8_readSteps_50 rfl (fun h50 => ?_) (fun h50 => ?_)
        · refine go_iconst dX8_readSteps_91 (R32_lit rfl) ?_
          refine go_retz dX8_readSteps_92 (by first | exact Or.inl rfl | exact Or.inr rfl | omega) ?_
          first
          | (refine ⟨⟨Or.inr ⟨rfl, t7, (hX.symm.trans eX).trans e7, ?_, ?_, ?_, K7.1, K7.2.1, K7.2.2.2, s7.trans (show t7.1 12 = 3 from K7.2.2.1).symm⟩, k7, l7⟩, rfl⟩
             · rw [if_pos (show t7.1 12 = 3 from K7.2.2.1)]; exact R7
             · rw [show t7.1 12 = 3 from K7.2.2.1]; decide
             · rw [show t7.1 12 = 3 from K7.2.2.1]; decide)
          | exact ⟨⟨Or.inl ⟨rfl, OT_eq (hX.symm.trans eX) (OT_0 o7 h84)⟩, k7, l7⟩, rfl⟩
          | exact ⟨⟨Or.inl ⟨rfl, OT_eq (hX.symm.trans eX) (OT_b0 o6 h76)⟩, k6, l6⟩, rfl⟩
          | exact ⟨⟨Or.inl ⟨rfl, OT_eq (hX.symm.trans eX) (OT_b0 o5 h67)⟩, k5, l5⟩, rfl⟩
          | exact ⟨⟨Or.inl ⟨rfl, OT_eq (hX.symm.trans eX) (OT_b0 o4 h59)⟩, k4, l4⟩, rfl⟩
          | exact ⟨⟨Or.inl ⟨rfl, OT_eq (hX.symm.trans eX) (OT_b0 o3 h50)⟩, k3, l3⟩, rfl⟩
          | exact ⟨⟨Or.inl ⟨rfl, OT_eq (hX.symm.trans eX) (OT_b0 o2 h42)⟩, k2, l2⟩, rfl⟩
          | exact ⟨⟨Or.inl ⟨rfl, OT_eq (hX.symm.trans eX) (OT_b0 o1 h33)⟩, k1, l1⟩, rfl⟩
        · obtain ⟨t3, e3, R3, Q3⟩ := OT_op1 R2.2.2.2.2.2.2.1 o3 h50
          have R3 : RR b 2 M4 t3 := R3
          have K3 := K2.tr Q3
          rw [e3, bnd_p1 (by decide)] at eX
          refine go_aload_n dX8_readSteps_53 rfl rfl ?_
          refine s8_191 hE dX8_readSteps_54 ?_
          refine v8_214 dX8_readSteps_56 rfl ⟨rfl, rfl⟩ ⟨rfl, rfl⟩ (ct_X8_passes hE R3 (by decide)) (fun r4 M5 N5 hr4 hq5 => ?_)
          obtain ⟨o4, f4, rfl⟩ := hq5
          have k4 := k3.tr (f4.up (by decide) (by decide))
          have l4 := l3.tr (f4.lw (by decide) (by decide) (by decide) (by decide) (by decide) (by decide))
          have s4 : M5 (30, 0, 7) (15 + s.2 11 0) = 3 := by rw [f4.a 7 (by decide)]; exact s3
          refine go_if_eq (tgt := 91) dX8_readSteps_59 rfl (fun h59 => ?_) (fun h59 => ?_)
          · refine go_iconst dX8_readSteps_91 (R32_lit rfl) ?_
            refine go_retz dX8_readSteps_92 (by first | exact Or.inl rfl | exact Or.inr rfl | omega) ?_
            first
            | (refine ⟨⟨Or.inr ⟨rfl, t7, (hX.symm.trans eX).trans e7, ?_, ?_, ?_, K7.1, K7.2.1, K7.2.2.2, s7.trans (show t7.1 12 = 3 from K7.2.2.1).symm⟩, k7, l7⟩, rfl⟩
               · rw [if_pos (show t7.1 12 = 3 from K7.2.2.1)]; exact R7
               · rw [show t7.1 12 = 3 from K7.2.2.1]; decide
               · rw [show t7.1 12 = 3 from K7.2.2.1]; decide)
            | exact ⟨⟨Or.inl ⟨rfl, OT_eq (hX.symm.trans eX) (OT_0 o7 h84)⟩, k7, l7⟩, rfl⟩
            | exact ⟨⟨Or.inl ⟨rfl, OT_eq (hX.symm.trans eX) (OT_b0 o6 h76)⟩, k6, l6⟩, rfl⟩
            | exact ⟨⟨Or.inl ⟨rfl, OT_eq (hX.symm.trans eX) (OT_b0 o5 h67)⟩, k5, l5⟩, rfl⟩
            | exact ⟨⟨Or.inl ⟨rfl, OT_eq (hX.symm.trans eX) (OT_b0 o4 h59)⟩, k4, l4⟩, rfl⟩
            | exact ⟨⟨Or.inl ⟨rfl, OT_eq (hX.symm.trans eX) (OT_b0 o3 h50)⟩, k3, l3⟩, rfl⟩
            | exact ⟨⟨Or.inl ⟨rfl, OT_eq (hX.symm.trans eX) (OT_b0 o2 h42)⟩, k2, l2⟩, rfl⟩
            | exact ⟨⟨Or.inl ⟨rfl, OT_eq (hX.symm.trans eX) (OT_b0 o1 h33)⟩, k1, l1⟩, rfl⟩
          · obtain ⟨t4, e4, R4, a4, b4, c4⟩ := OT_w1 o4 h59
            have K4 := K3.tr (show KS _ t4 from ⟨by rw [a4], by rw [a4], c4, b4⟩)
            rw [e4, bnd_p1 (by decide)] at eX
            refine go_aload_n dX8_readSteps_62 rfl rfl ?_
            refine go_iconst dX8_readSteps_63 (R32_lit rfl) ?_
            refine v8_221 dX8_readSteps_64 rfl ⟨rfl, rfl⟩ ⟨rfl, rfl⟩ (ct_X8_readOperand hE R4 (show _ < 15 from by rw [K4.1]; exact h15) (by decide) (by decide)) (fun r5 M6 N6 hr5 hq6 => ?_)
            obtain ⟨o5, f5, L5, rfl⟩ := hq6
            have k5 := k4.tr (f5.up (by decide) (by decide))
            have l5 := l4.tr L5
            have s5 : M6 (30, 0, 7) (15 + s.2 11 0) = 3 := by rw [f5.a 7 (by decide)]; exact s4
            refine go_if_eq (tgt := 91) dX8_readSteps_67 rfl (fun h67 => ?_) (fun h67 => ?_)
            · refine go_iconst dX8_readSteps_91 (R32_lit rfl) ?_
              refine go_retz dX8_readSteps_92 (by first | exact Or.inl rfl | exact Or.inr rfl | omega) ?_
              first
              | (refine ⟨⟨Or.inr ⟨rfl, t7, (hX.symm.trans eX).trans e7, ?_, ?_, ?_, K7.1, K7.2.1, K7.2.2.2, s7.trans (show t7.1 12 = 3 from K7.2.2.1).symm⟩, k7, l7⟩, rfl⟩
                 · rw [if_pos (show t7.1 12 = 3 from K7.2.2.1)]; exact R7
                 · rw [show t7.1 12 = 3 from K7.2.2.1]; decide
                 · rw [show t7.1 12 = 3 from K7.2.2.1]; decide)
              | exact ⟨⟨Or.inl ⟨rfl, OT_eq (hX.symm.trans eX) (OT_0 o7 h84)⟩, k7, l7⟩, rfl⟩
              | exact ⟨⟨Or.inl ⟨rfl, OT_eq (hX.symm.trans eX) (OT_b0 o6 h76)⟩, k6, l6⟩, rfl⟩
              | exact ⟨⟨Or.inl ⟨rfl, OT_eq (hX.symm.trans eX) (OT_b0 o5 h67)⟩, k5, l5⟩, rfl⟩
              | exact ⟨⟨Or.inl ⟨rfl, OT_eq (hX.symm.trans eX) (OT_b0 o4 h59)⟩, k4, l4⟩, rfl⟩
              | exact ⟨⟨Or.inl ⟨rfl, OT_eq (hX.symm.trans eX) (OT_b0 o3 h50)⟩, k3, l3⟩, rfl⟩
              | exact ⟨⟨Or.inl ⟨rfl, OT_eq (hX.symm.trans eX) (OT_b0 o2 h42)⟩, k2, l2⟩, rfl⟩
              | exact ⟨⟨Or.inl ⟨rfl, OT_eq (hX.symm.trans eX) (OT_b0 o1 h33)⟩, k1, l1⟩, rfl⟩
            · obtain ⟨t5, e5, R5, Q5⟩ := OT_op1 R4.2.2.2.2.2.2.1 o5 h67
              have R5 : RR b 3 M6 t5 := R5
              have K5 := K4.tr Q5
              rw [e5, bnd_p1 (by decide)] at eX
              refine go_aload_n dX8_readSteps_70 rfl rfl ?_
              refine s8_193 hE dX8_readSteps_71 ?_
              refine v8_214 dX8_readSteps_73 rfl ⟨rfl, rfl⟩ ⟨rfl, rfl⟩ (ct_X8_passes hE R5 (by decide)) (fun r6 M7 N7 hr6 hq7 => ?_)
              obtain ⟨o6, f6, rfl⟩ := hq7
              have k6 := k5.tr (f6.up (by decide) (by decide))
              have l6 := l5.tr (f6.lw (by decide) (by decide) (by decide) (by decide) (by decide) (by decide))
              have s6 : M7 (30, 0, 7) (15 + s.2 11 0) = 3 := by rw [f6.a 7 (by decide)]; exact s5
              refine go_if_eq (tgt := 91) dX8_readSteps_76 rfl (fun h76 => ?_) (fun h76 => ?_)
              · refine go_iconst dX8_readSteps_91 (R32_lit rfl) ?_
                refine go_retz dX8_readSteps_92 (by first | exact Or.inl rfl | exact Or.inr rfl | omega) ?_
                first
                | (refine ⟨⟨Or.inr ⟨rfl, t7, (hX.symm.trans eX).trans e7, ?_, ?_, ?_, K7.1, K7.2.1, K7.2.2.2, s7.trans (show t7.1 12 = 3 from K7.2.2.1).symm⟩, k7, l7⟩, rfl⟩
                   · rw [if_pos (show t7.1 12 = 3 from K7.2.2.1)]; exact R7
                   · rw [show t7.1 12 = 3 from K7.2.2.1]; decide
                   · rw [show t7.1 12 = 3 from K7.2.2.1]; decide)
                | exact ⟨⟨Or.inl ⟨rfl, OT_eq (hX.symm.trans eX) (OT_0 o7 h84)⟩, k7, l7⟩, rfl⟩
                | exact ⟨⟨Or.inl ⟨rfl, OT_eq (hX.symm.trans eX) (OT_b0 o6 h76)⟩, k6, l6⟩, rfl⟩
                | exact ⟨⟨Or.inl ⟨rfl, OT_eq (hX.symm.trans eX) (OT_b0 o5 h67)⟩, k5, l5⟩, rfl⟩
                | exact ⟨⟨Or.inl ⟨rfl, OT_eq (hX.symm.trans eX) (OT_b0 o4 h59)⟩, k4, l4⟩, rfl⟩
                | exact ⟨⟨Or.inl ⟨rfl, OT_eq (hX.symm.trans eX) (OT_b0 o3 h50)⟩, k3, l3⟩, rfl⟩
                | exact ⟨⟨Or.inl ⟨rfl, OT_eq (hX.symm.trans eX) (OT_b0 o2 h42)⟩, k2, l2⟩, rfl⟩
                | exact ⟨⟨Or.inl ⟨rfl, OT_eq (hX.symm.trans eX) (OT_b0 o1 h33)⟩, k1, l1⟩, rfl⟩
              · obtain ⟨t6, e6, R6, a6, b6, c6⟩ := OT_w1 o6 h76
                have K6 := K5.tr (show KS _ t6 from ⟨by rw [a6], by rw [a6], c6, b6⟩)
                rw [e6, bnd_p1 (by decide)] at eX
                refine go_aload_n dX8_readSteps_79 rfl rfl ?_
                refine go_iconst dX8_readSteps_80 (R32_lit rfl) ?_
                refine v8_221 dX8_readSteps_81 rfl ⟨rfl, rfl⟩ ⟨rfl, rfl⟩ (ct_X8_readOperand hE R6 (show _ < 15 from by rw [K6.1]; exact h15) (by decide) (by decide)) (fun r7 M8 N8 hr7 hq8 => ?_)
                obtain ⟨o7, f7, L7, rfl⟩ := hq8
                have k7 := k6.tr (f7.up (by decide) (by decide))
                have l7 := l6.tr L7
                have s7 : M8 (30, 0, 7) (15 + s.2 11 0) = 3 := by rw [f7.a 7 (by decide)]; exact s6
                refine go_if_eq (tgt := 91) dX8_readSteps_84 rfl (fun h84 => ?_) (fun h84 => ?_)
                · refine go_iconst dX8_readSteps_91 (R32_lit rfl) ?_
                  refine go_retz dX8_readSteps_92 (by first | exact Or.inl rfl | exact Or.inr rfl | omega) ?_
                  first
                  | (refine ⟨⟨Or.inr ⟨rfl, t7, (hX.symm.trans eX).trans e7, ?_, ?_, ?_, K7.1, K7.2.1, K7.2.2.2, s7.trans (show t7.1 12 = 3 from K7.2.2.1).symm⟩, k7, l7⟩, rfl⟩
                     · rw [if_pos (show t7.1 12 = 3 from K7.2.2.1)]; exact R7
                     · rw [show t7.1 12 = 3 from K7.2.2.1]; decide
                     · rw [show t7.1 12 = 3 from K7.2.2.1]; decide)
                  | exact ⟨⟨Or.inl ⟨rfl, OT_eq (hX.symm.trans eX) (OT_0 o7 h84)⟩, k7, l7⟩, rfl⟩
                  | exact ⟨⟨Or.inl ⟨rfl, OT_eq (hX.symm.trans eX) (OT_b0 o6 h76)⟩, k6, l6⟩, rfl⟩
                  | exact ⟨⟨Or.inl ⟨rfl, OT_eq (hX.symm.trans eX) (OT_b0 o5 h67)⟩, k5, l5⟩, rfl⟩
                  | exact ⟨⟨Or.inl ⟨rfl, OT_eq (hX.symm.trans eX) (OT_b0 o4 h59)⟩, k4, l4⟩, rfl⟩
                  | exact ⟨⟨Or.inl ⟨rfl, OT_eq (hX.symm.trans eX) (OT_b0 o3 h50)⟩, k3, l3⟩, rfl⟩
                  | exact ⟨⟨Or.inl ⟨rfl, OT_eq (hX.symm.trans eX) (OT_b0 o2 h42)⟩, k2, l2⟩, rfl⟩
                  | exact ⟨⟨Or.inl ⟨rfl, OT_eq (hX.symm.trans eX) (OT_b0 o1 h33)⟩, k1, l1⟩, rfl⟩
                · obtain ⟨t7, e7, R7, Q7⟩ := OT_op1 R6.2.2.2.2.2.2.1 o7 h84
                  have R7 : RR b 4 M8 t7 := R7
                  have K7 := K6.tr Q7
                  refine go_iconst dX8_readSteps_87 (R32_lit rfl) ?_
                  refine go_goto (tgt := 92) dX8_readSteps_88 rfl ?_
                  refine go_retz dX8_readSteps_92 (by first | exact Or.inl rfl | exact Or.inr rfl | omega) ?_
                  first
                  | (refine ⟨⟨Or.inr ⟨rfl, t7, (hX.symm.trans eX).trans e7, ?_, ?_, ?_, K7.1, K7.2.1, K7.2.2.2, s7.trans (show t7.1 12 = 3 from K7.2.2.1).symm⟩, k7, l7⟩, rfl⟩
                     · rw [if_pos (show t7.1 12 = 3 from K7.2.2.1)]; exact R7
                     · rw [show t7.1 12 = 3 from K7.2.2.1]; decide
                     · rw [show t7.1 12 = 3 from K7.2.2.1]; decide)
                  | exact ⟨⟨Or.inl ⟨rfl, OT_eq (hX.symm.trans eX) (OT_0 o7 h84)⟩, k7, l7⟩, rfl⟩
                  | exact ⟨⟨Or.inl ⟨rfl, OT_eq (hX.symm.trans eX) (OT_b0 o6 h76)⟩, k6, l6⟩, rfl⟩
                  | exact ⟨⟨Or.inl ⟨rfl, OT_eq (hX.symm.trans eX) (OT_b0 o5 h67)⟩, k5, l5⟩, rfl⟩
                  | exact ⟨⟨Or.inl ⟨rfl, OT_eq (hX.symm.trans eX) (OT_b0 o4 h59)⟩, k4, l4⟩, rfl⟩
                  | exact ⟨⟨Or.inl ⟨rfl, OT_eq (hX.symm.trans eX) (OT_b0 o3 h50)⟩, k3, l3⟩, rfl⟩
                  | exact ⟨⟨Or.inl ⟨rfl, OT_eq (hX.symm.trans eX) (OT_b0 o2 h42)⟩, k2, l2⟩, rfl⟩
                  | exact ⟨⟨Or.inl ⟨rfl, OT_eq (hX.symm.trans eX) (OT_b0 o1 h33)⟩, k1, l1⟩, rfl⟩
