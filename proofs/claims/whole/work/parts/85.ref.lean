theorem absw_mx {x : Int} (h0 : -1000000000 ≤ x) (h1 : x ≤ 1000000000) : absw x = max x (-x) := by
  unfold absw
  split
  · rw [w64_id ⟨by omega, by omega⟩]; omega
  · omega
theorem opF_tab {S : Pg} {tab : Int → Int} {i : Int} (h : 0 ≤ S 8 i → tab (S 8 i) = S 5 (S 8 i)) : opF S tab i = opF S (S 5) i := by
  unfold opF
  split
  · rename_i q; exact h q
  · rfl
theorem opW_tab {S : Pg} {tab : Int → Int} {i : Int} (h : 0 ≤ S 8 i → tab (S 8 i) = S 6 (S 8 i)) : opW S tab i = opW S (S 6) i := by
  unfold opW
  split
  · rename_i q; exact h q
  · rfl
set_option maxRecDepth 100000 in
set_option maxHeartbeats 4000000 in
theorem ct_X8_weightOf {E : Ev} {M : Mm} {N : Nn} {S : Pg} {ba n v k : Int} (hP : PR ba n S M) (v0 : 0 ≤ v) (v1 : v < n) (n5 : n ≤ 15) (hs : S 0 v ≠ -2) (k0 : 0 ≤ k) (k1 : k < opn S v) (hw : WFo S v (4 * v + k)) (b0 : 0 ≤ ba) (b1 : ba ≤ 15) : Ct E yX8_weightOf cX8_weightOf 5 ((some .long)) (rmH 2) [vr (29, 0, 0), vi ba, vi v, vi k] M N (ql (fun r M1 N1 => r = opW S (M (30, 0, 27)) (4 * v + k) ∧ M = M1 ∧ N = N1)) := by
  refine ct_of (own := RX8) (L0 := [vr (29, 0, 0), vi ba, vi v, vi k, vn]) rfl (by decide +kernel) rfl rfl ?_
  obtain ⟨p1, p2⟩ := (hP v v0 v1).2.2.2 hs k k0 k1
  have o4 := opn_le S v
  refine go_iconst dX8_weightOf_0 (R32_lit rfl) ?_
  refine go_iload_n dX8_weightOf_1 rfl ?_
  refine go_iload_n dX8_weightOf_2 rfl ?_
  refine go_iaddc dX8_weightOf_3 ⟨by omega, by omega⟩ ?_
  refine go_imulc dX8_weightOf_4 ⟨by omega, by omega⟩ ?_
  refine go_iload_n dX8_weightOf_5 rfl ?_
  refine go_iaddc dX8_weightOf_6 ⟨by omega, by omega⟩ ?_
  refine go_nmi (fun y ey => ?_)
  have ey : y = 4 * (ba + v) + k := ey
  subst ey
  refine go_ist4 dX8_weightOf_7 rfl rfl ?_
  refine go_aload_n dX8_weightOf_9 rfl rfl ?_
  refine g8_31 dX8_weightOf_10 ?_
  refine go_iload dX8_weightOf_13 rfl ?_
  refine go_iald dX8_weightOf_15 rfl (by omega) (by omega) ?_
  rw [p1]
  refine go_bipush dX8_weightOf_16 ⟨by decide, by decide⟩ ?_
  refine go_icmp_ne (tgt := 35) dX8_weightOf_18 rfl (fun h18 => ?_) (fun h18 => ?_)
  · refine go_aload_n dX8_weightOf_35 rfl rfl ?_
    refine g8_46 dX8_weightOf_36 ?_
    refine go_aload_n dX8_weightOf_39 rfl rfl ?_
    refine g8_31 dX8_weightOf_40 ?_
    refine go_iload dX8_weightOf_43 rfl ?_
    refine go_iald dX8_weightOf_45 rfl (by omega) (by omega) ?_
    rw [p1]
    have hw1 := hw.1
    refine go_lald dX8_weightOf_46 rfl (by have := hw.2; omega) (by have := hw.2; omega) ?_
    skip
    refine go_retl dX8_weightOf_47 ?_
    first
    | (obtain ⟨z1, rfl, rfl⟩ := hq1
       have hb := hw.2 (by omega)
       refine ⟨?_, rfl, rfl⟩
       rw [z1, absw_mx (by omega) (by omega)]
       unfold opW
       rw [if_neg (by omega)])
    | (refine ⟨?_, rfl, rfl⟩
       unfold opW
       rw [if_pos (by have := hw.2; omega)])
  · refine go_aload_n dX8_weightOf_21 rfl rfl ?_
    refine g8_34 dX8_weightOf_22 ?_
    refine go_iload dX8_weightOf_25 rfl ?_
    refine go_iald dX8_weightOf_27 rfl (by omega) (by omega) ?_
    rw [(p2 (by omega)).2]
    refine go_i2l dX8_weightOf_28 ?_
    refine v8_244 dX8_weightOf_29 rfl ⟨rfl, rfl⟩ ⟨rfl, rfl⟩ ct_X8_sizeOf (fun r1 M1 N1 hr1 hq1 => ?_)
    refine go_goto (tgt := 47) dX8_weightOf_32 rfl ?_
    skip
    refine go_retl dX8_weightOf_47 ?_
    first
    | (obtain ⟨z1, rfl, rfl⟩ := hq1
       have hb := hw.2 (by omega)
       refine ⟨?_, rfl, rfl⟩
       rw [z1, absw_mx (by omega) (by omega)]
       unfold opW
       rw [if_neg (by omega)])
    | (refine ⟨?_, rfl, rfl⟩
       unfold opW
       rw [if_pos (by have := hw.2; omega)])
set_option maxRecDepth 100000 in
set_option maxHeartbeats 4000000 in
theorem lp_X8_laysWeights {E : Ev} {M : Mm} {N : Nn} {S : Pg} {ba n : Int} (hP : PR ba n S M) (n0 : 0 ≤ n) (n5 : n ≤ 15) (b0 : 0 ≤ ba) (b1 : ba ≤ 15) (hw : ∀ v, 0 ≤ v → v < n → WFr S v ∧ S 6 v = wtS S v) : ∀ (n' : Nat) (v : Int) (x4 x5 x6 x7 x8 : Vv) (M2 : Mm), (adj x4 = x4) → (adj x6 = x6) → (v + n' = n) → (0 ≤ v) → (∀ u, 0 ≤ u → u < v → M2 (30, 0, 27) u = S 6 u) → (∀ u, 0 ≤ u → u < v → S 6 u ≤ 1000000) → (Kr [] [27] M M2) → Go E RX8 cX8_laysWeights 9 ((some .boolean)) (rmH 3) 0 0 (zM E (qi (fun r M1 N1 => (((∀ v, 0 ≤ v → v < n → S 6 v ≤ 1000000) ∧ r = 1 ∧ ∀ v, 0 ≤ v → v < n → M1 (30, 0, 27) v = S 6 v) ∨ ((∃ v, 0 ≤ v ∧ v < n ∧ 1000000 < S 6 v) ∧ r = 0)) ∧ Kr [] [27] M M1 ∧ N = N1))) 2 [vr (29, 0, 0), vi ba, vi n, vi v, x4, x5, x6, x7, x8] [] M2 N := by
  intro n'
  induction n' using Nat.strongRecOn with
  | ind n' ih =>
  intro v x4 x5 x6 x7 x8 M2 ha4 ha6 hn v0 hu hm hf
  have P2 : PR ba n S M2 := hP.k (hf.a 7 (by decide)) (hf.a 8 (by decide)) (hf.a 9 (by decide)) (hf.a 10 (by decide)) (hf.a 11 (by decide)) (hf.a 12 (by decide))
  refine go_iload_n dX8_laysWeights_2 rfl ?_
  refine go_iload_n dX8_laysWeights_3 rfl ?_
  refine go_icmp_ge (tgt := 186) dX8_laysWeights_4 rfl (fun h4 => ?_) (fun h4 => ?_)
  · refine go_iconst dX8_laysWeights_186 (R32_lit rfl) ?_
    refine go_retz dX8_laysWeights_187 (by first | exact Or.inl rfl | exact Or.inr rfl | omega) ?_
    exact ⟨Or.inl ⟨fun u u0 u1 => hm u u0 (by omega), rfl, fun u u0 u1 => hu u u0 (by omega)⟩, hf, rfl⟩
  · have h4 : v < n := by omega
    obtain ⟨q1, q2, q3, q4⟩ := P2 v v0 h4
    obtain ⟨wr0, ws0⟩ := hw v v0 h4
    have bd6 : ∀ u, 0 ≤ u → u < v → 0 ≤ S 6 u := by
      intro u
      induction hu : u.toNat using Nat.strongRecOn generalizing u with
      | ind m ih2 =>
      intro u0 u1
      rw [(hw u u0 (by omega)).2]
      exact wtS_0 (hw u u0 (by omega)).1 (fun t t0 t1 => ih2 t.toNat (by omega) t rfl t0 (by omega))
    refine go_aload_n dX8_laysWeights_7 rfl rfl ?_
    refine g8_19 dX8_laysWeights_8 ?_
    refine go_iload_n dX8_laysWeights_11 rfl ?_
    refine go_iload_n dX8_laysWeights_12 rfl ?_
    refine go_iaddc dX8_laysWeights_13 ⟨by omega, by omega⟩ ?_
    refine go_iald dX8_laysWeights_14 rfl (by omega) (by omega) ?_
    rw [q1]
    refine go_ist4 dX8_laysWeights_15 rfl rfl ?_
    refine go_iload dX8_laysWeights_17 rfl ?_
    refine v8_248 dX8_laysWeights_19 rfl ⟨rfl, rfl⟩ ⟨rfl, rfl⟩ ct_X8_isInput (fun r1 M1 N1 hr1 hq1 => ?_)
    obtain ⟨z1, rfl, rfl⟩ := hq1
    have z1 := bit_iff z1
    refine go_if_eq (tgt := 77) dX8_laysWeights_22 rfl (fun h22 => ?_) (fun h22 => ?_)
    · have hns : S 0 v ≠ -2 := by omega
      obtain ⟨g1, g2, g3, g4, g5⟩ := wr0.2 hns
      have og := opn_ge S v
      have wb : ∀ k, 0 ≤ k → k < opn S v → opW S (M2 (30, 0, 27)) (4 * v + k) = opW S (S 6) (4 * v + k) ∧ 0 ≤ opW S (S 6) (4 * v + k) ∧ opW S (S 6) (4 * v + k) ≤ 1000000 := by
        intro k k0 k1
        have h5 := g5 k k0 k1
        refine ⟨opW_tab (fun z => hu _ z (h5.1 z)), ?_⟩
        unfold opW
        split
        · rename_i z
          exact ⟨bd6 _ z (h5.1 z), hm _ z (h5.1 z)⟩
        · have := h5.2 (by omega)
          omega
      have w0 := wb 0 (by omega) (by omega)
      have w1 := wb 1 (by omega) (by omega)
      rw [Int.add_zero] at w0
      have p2b := p2_bd g3 g4
      have mb := mul_bd w0.2 w1.2
      refine go_iload dX8_laysWeights_77 rfl ?_
      refine go_iconst dX8_laysWeights_79 (R32_lit rfl) ?_
      refine go_icmp_ne (tgt := 101) dX8_laysWeights_80 rfl (fun h80 => ?_) (fun h80 => ?_)
      · refine go_iload dX8_laysWeights_101 rfl ?_
        refine go_iconst dX8_laysWeights_103 (R32_lit rfl) ?_
        refine go_icmp_ne (tgt := 129) dX8_laysWeights_104 rfl (fun h104 => ?_) (fun h104 => ?_)
        · refine go_aload_n dX8_laysWeights_129 rfl rfl ?_
          refine go_iload_n dX8_laysWeights_130 rfl ?_
          refine go_iload_n dX8_laysWeights_131 rfl ?_
          refine go_iconst dX8_laysWeights_132 (R32_lit rfl) ?_
          refine v8_251 dX8_laysWeights_133 rfl ⟨rfl, rfl⟩ ⟨rfl, rfl⟩ (ct_X8_weightOf P2 v0 h4 n5 hns (by decide) (by omega) (g5 0 (by decide) (by omega)) b0 b1) (fun r2 M3 N3 hr2 hq2 => ?_)
          obtain ⟨z2, rfl, rfl⟩ := hq2
          subst z2
          rw [Int.add_zero, w0.1]
          refine go_aload_n dX8_laysWeights_136 rfl rfl ?_
          refine go_iload_n dX8_laysWeights_137 rfl ?_
          refine go_iload_n dX8_laysWeights_138 rfl ?_
          refine go_iconst dX8_laysWeights_139 (R32_lit rfl) ?_
          refine v8_251 dX8_laysWeights_140 rfl ⟨rfl, rfl⟩ ⟨rfl, rfl⟩ (ct_X8_weightOf P2 v0 h4 n5 hns (by decide) (by omega) (g5 1 (by decide) (by omega)) b0 b1) (fun r3 M4 N4 hr3 hq3 => ?_)
          obtain ⟨z3, rfl, rfl⟩ := hq3
          subst z3
          rw [w1.1]
          refine go_laddc dX8_laysWeights_143 ⟨by omega, by omega⟩ ?_
          refine go_lst5 dX8_laysWeights_144 rfl rfl ?_
          refine go_aload_n dX8_laysWeights_146 rfl rfl ?_
          refine g8_46 dX8_laysWeights_147 ?_
          refine go_iload_n dX8_laysWeights_150 rfl ?_
          refine go_lload dX8_laysWeights_151 rfl ?_
          refine go_lconst (x := 1) dX8_laysWeights_153 rfl ?_
          refine go_aload_n dX8_laysWeights_154 rfl rfl ?_
          refine g8_22 dX8_laysWeights_155 ?_
          refine go_iload_n dX8_laysWeights_158 rfl ?_
          refine go_iload_n dX8_laysWeights_159 rfl ?_
          refine go_iaddc dX8_laysWeights_160 ⟨by omega, by omega⟩ ?_
          refine go_iald dX8_laysWeights_161 rfl (by omega) (by omega) ?_
          rw [q2]
          refine go_lshl dX8_laysWeights_162 ?_
          rw [lshl_p2 g3 g4]
          refine go_laddc dX8_laysWeights_163 ⟨by omega, by omega⟩ ?_
          refine go_nml (fun y ey => ?_)
          have hy : y = S 6 v := by
            rw [ey, ws0]
            unfold wtS rwS
            rw [if_neg hns]
            first
            | (rw [if_pos (show S 0 v = 3 by omega)]; done)
            | (rw [if_neg (show ¬ S 0 v = 3 by omega), if_pos (show S 0 v = 2 by omega)]; done)
            | (rw [if_neg (show ¬ S 0 v = 3 by omega), if_neg (show ¬ S 0 v = 2 by omega)]; done)
          clear ey
          subst hy
          refine go_last dX8_laysWeights_164 rfl (by omega) (by omega) ?_
          refine go_aload_n dX8_laysWeights_165 rfl rfl ?_
          refine g8_46 dX8_laysWeights_166 ?_
          refine go_iload_n dX8_laysWeights_169 rfl ?_
          refine go_lald dX8_laysWeights_170 rfl (by omega) (by omega) ?_
          rw [wr_eq]
          refine c8_257 dX8_laysWeights_171 ?_
          refine go_lcmp_le (tgt := 180) dX8_laysWeights_174 dX8_laysWeights_175 rfl (fun h174 => ?_) (fun h174 => ?_)
          · refine go_iinc3c dX8_laysWeights_180 rfl rfl ⟨by omega, by omega⟩ ?_
            refine go_goto (tgt := 2) dX8_laysWeights_183 rfl ?_
            exact ih (n' - 1) (by omega) (v + 1) _ _ _ _ _ _ (by first | rfl | assumption) (by first | rfl | assumption) (by omega) (by omega) (fun u u0 u1 => by
              rw [upI_wr]
              unfold upI
              by_cases z : u = v
              · rw [if_pos z, z]
              · rw [if_neg z]; exact hu u u0 (by omega)) (fun u u0 u1 => by
              by_cases z : u = v
              · rw [z]; omega
              · exact hm u u0 (by omega)) (hf.wa (by decide))
          · refine go_iconst dX8_laysWeights_178 (R32_lit rfl) ?_
            refine go_retz dX8_laysWeights_179 (by first | exact Or.inl rfl | exact Or.inr rfl | omega) ?_
            exact ⟨Or.inr ⟨⟨v, v0, h4, by omega⟩, rfl⟩, hf.wa (by decide), rfl⟩
        · have o3 := opn_3 (show S 0 v = 3 by omega)
          have w2 := wb 2 (by omega) (by omega)
          have w3 := wb 3 (by omega) (by omega)
          refine c8_255 dX8_laysWeights_107 ?_
          refine go_aload_n dX8_laysWeights_110 rfl rfl ?_
          refine go_iload_n dX8_laysWeights_111 rfl ?_
          refine go_iload_n dX8_laysWeights_112 rfl ?_
          refine go_iconst dX8_laysWeights_113 (R32_lit rfl) ?_
          refine v8_251 dX8_laysWeights_114 rfl ⟨rfl, rfl⟩ ⟨rfl, rfl⟩ (ct_X8_weightOf P2 v0 h4 n5 hns (by decide) (by omega) (g5 2 (by decide) (by omega)) b0 b1) (fun r2 M3 N3 hr2 hq2 => ?_)
          obtain ⟨z2, rfl, rfl⟩ := hq2
          subst z2
          rw [w2.1]
          refine go_aload_n dX8_laysWeights_117 rfl rfl ?_
          refine go_iload_n dX8_laysWeights_118 rfl ?_
          refine go_iload_n dX8_laysWeights_119 rfl ?_
          refine go_iconst dX8_laysWeights_120 (R32_lit rfl) ?_
          refine v8_251 dX8_laysWeights_121 rfl ⟨rfl, rfl⟩ ⟨rfl, rfl⟩ (ct_X8_weightOf P2 v0 h4 n5 hns (by decide) (by omega) (g5 3 (by decide) (by omega)) b0 b1) (fun r3 M4 N4 hr3 hq3 => ?_)
          obtain ⟨z3, rfl, rfl⟩ := hq3
          subst z3
          rw [w3.1]
          refine go_laddc dX8_laysWeights_124 ⟨by omega, by omega⟩ ?_
          refine go_lmulc dX8_laysWeights_125 ⟨by omega, by omega⟩ ?_
          refine go_goto (tgt := 144) dX8_laysWeights_126 rfl ?_
          refine go_lst5 dX8_laysWeights_144 rfl rfl ?_
          refine go_aload_n dX8_laysWeights_146 rfl rfl ?_
          refine g8_46 dX8_laysWeights_147 ?_
          refine go_iload_n dX8_laysWeights_150 rfl ?_
          refine go_lload dX8_laysWeights_151 rfl ?_
          refine go_lconst (x := 1) dX8_laysWeights_153 rfl ?_
          refine go_aload_n dX8_laysWeights_154 rfl rfl ?_
          refine g8_22 dX8_laysWeights_155 ?_
          refine go_iload_n dX8_laysWeights_158 rfl ?_
          refine go_iload_n dX8_laysWeights_159 rfl ?_
          refine go_iaddc dX8_laysWeights_160 ⟨by omega, by omega⟩ ?_
          refine go_iald dX8_laysWeights_161 rfl (by omega) (by omega) ?_
          rw [q2]
          refine go_lshl dX8_laysWeights_162 ?_
          rw [lshl_p2 g3 g4]
          refine go_laddc dX8_laysWeights_163 ⟨by omega, by omega⟩ ?_
          refine go_nml (fun y ey => ?_)
          have hy : y = S 6 v := by
            rw [ey, ws0]
            unfold wtS rwS
            rw [if_neg hns]
            first
            | (rw [if_pos (show S 0 v = 3 by omega)]; done)
            | (rw [if_neg (show ¬ S 0 v = 3 by omega), if_pos (show S 0 v = 2 by omega)]; done)
            | (rw [if_neg (show ¬ S 0 v = 3 by omega), if_neg (show ¬ S 0 v = 2 by omega)]; done)
          clear ey
          subst hy
          refine go_last dX8_laysWeights_164 rfl (by omega) (by omega) ?_
          refine go_aload_n dX8_laysWeights_165 rfl rfl ?_
          refine g8_46 dX8_laysWeights_166 ?_
          refine go_iload_n dX8_laysWeights_169 rfl ?_
          refine go_lald dX8_laysWeights_170 rfl (by omega) (by omega) ?_
          rw [wr_eq]
          refine c8_257 dX8_laysWeights_171 ?_
          refine go_lcmp_le (tgt := 180) dX8_laysWeights_174 dX8_laysWeights_175 rfl (fun h174 => ?_) (fun h174 => ?_)
          · refine go_iinc3c dX8_laysWeights_180 rfl rfl ⟨by omega, by omega⟩ ?_
            refine go_goto (tgt := 2) dX8_laysWeights_183 rfl ?_
            exact ih (n' - 1) (by omega) (v + 1) _ _ _ _ _ _ (by first | rfl | assumption) (by first | rfl | assumption) (by omega) (by omega) (fun u u0 u1 => by
              rw [upI_wr]
              unfold upI
              by_cases z : u = v
              · rw [if_pos z, z]
              · rw [if_neg z]; exact hu u u0 (by omega)) (fun u u0 u1 => by
              by_cases z : u = v
              · rw [z]; omega
              · exact hm u u0 (by omega)) (hf.wa (by decide))
          · refine go_iconst dX8_laysWeights_178 (R32_lit rfl) ?_
            refine go_retz dX8_laysWeights_179 (by first | exact Or.inl rfl | exact Or.inr rfl | omega) ?_
            exact ⟨Or.inr ⟨⟨v, v0, h4, by omega⟩, rfl⟩, hf.wa (by decide), rfl⟩
      · refine go_aload_n dX8_laysWeights_83 rfl rfl ?_
        refine go_iload_n dX8_laysWeights_84 rfl ?_
        refine go_iload_n dX8_laysWeights_85 rfl ?_
        refine go_iconst dX8_laysWeights_86 (R32_lit rfl) ?_
        refine v8_251 dX8_laysWeights_87 rfl ⟨rfl, rfl⟩ ⟨rfl, rfl⟩ (ct_X8_weightOf P2 v0 h4 n5 hns (by decide) (by omega) (g5 0 (by decide) (by omega)) b0 b1) (fun r2 M3 N3 hr2 hq2 => ?_)
        obtain ⟨z2, rfl, rfl⟩ := hq2
        subst z2
        rw [Int.add_zero, w0.1]
        refine go_aload_n dX8_laysWeights_90 rfl rfl ?_
        refine go_iload_n dX8_laysWeights_91 rfl ?_
        refine go_iload_n dX8_laysWeights_92 rfl ?_
        refine go_iconst dX8_laysWeights_93 (R32_lit rfl) ?_
        refine v8_251 dX8_laysWeights_94 rfl ⟨rfl, rfl⟩ ⟨rfl, rfl⟩ (ct_X8_weightOf P2 v0 h4 n5 hns (by decide) (by omega) (g5 1 (by decide) (by omega)) b0 b1) (fun r3 M4 N4 hr3 hq3 => ?_)
        obtain ⟨z3, rfl, rfl⟩ := hq3
        subst z3
        rw [w1.1]
        refine go_lmulc dX8_laysWeights_97 ⟨by omega, by omega⟩ ?_
        refine go_goto (tgt := 144) dX8_laysWeights_98 rfl ?_
        refine go_lst5 dX8_laysWeights_144 rfl rfl ?_
        refine go_aload_n dX8_laysWeights_146 rfl rfl ?_
        refine g8_46 dX8_laysWeights_147 ?_
        refine go_iload_n dX8_laysWeights_150 rfl ?_
        refine go_lload dX8_laysWeights_151 rfl ?_
        refine go_lconst (x := 1) dX8_laysWeights_153 rfl ?_
        refine go_aload_n dX8_laysWeights_154 rfl rfl ?_
        refine g8_22 dX8_laysWeights_155 ?_
        refine go_iload_n dX8_laysWeights_158 rfl ?_
        refine go_iload_n dX8_laysWeights_159 rfl ?_
        refine go_iaddc dX8_laysWeights_160 ⟨by omega, by omega⟩ ?_
        refine go_iald dX8_laysWeights_161 rfl (by omega) (by omega) ?_
        rw [q2]
        refine go_lshl dX8_laysWeights_162 ?_
        rw [lshl_p2 g3 g4]
        refine go_laddc dX8_laysWeights_163 ⟨by omega, by omega⟩ ?_
        refine go_nml (fun y ey => ?_)
        have hy : y = S 6 v := by
          rw [ey, ws0]
          unfold wtS rwS
          rw [if_neg hns]
          first
          | (rw [if_pos (show S 0 v = 3 by omega)]; done)
          | (rw [if_neg (show ¬ S 0 v = 3 by omega), if_pos (show S 0 v = 2 by omega)]; done)
          | (rw [if_neg (show ¬ S 0 v = 3 by omega), if_neg (show ¬ S 0 v = 2 by omega)]; done)
        clear ey
        subst hy
        refine go_last dX8_laysWeights_164 rfl (by omega) (by omega) ?_
        refine go_aload_n dX8_laysWeights_165 rfl rfl ?_
        refine g8_46 dX8_laysWeights_166 ?_
        refine go_iload_n dX8_laysWeights_169 rfl ?_
        refine go_lald dX8_laysWeights_170 rfl (by omega) (by omega) ?_
        rw [wr_eq]
        refine c8_257 dX8_laysWeights_171 ?_
        refine go_lcmp_le (tgt := 180) dX8_laysWeights_174 dX8_laysWeights_175 rfl (fun h174 => ?_) (fun h174 => ?_)
        · refine go_iinc3c dX8_laysWeights_180 rfl rfl ⟨by omega, by omega⟩ ?_
          refine go_goto (tgt := 2) dX8_laysWeights_183 rfl ?_
          exact ih (n' - 1) (by omega) (v + 1) _ _ _ _ _ _ (by first | rfl | assumption) (by first | rfl | assumption) (by omega) (by omega) (fun u u0 u1 => by
            rw [upI_wr]
            unfold upI
            by_cases z : u = v
            · rw [if_pos z, z]
            · rw [if_neg z]; exact hu u u0 (by omega)) (fun u u0 u1 => by
            by_cases z : u = v
            · rw [z]; omega
            · exact hm u u0 (by omega)) (hf.wa (by decide))
        · refine go_iconst dX8_laysWeights_178 (R32_lit rfl) ?_
          refine go_retz dX8_laysWeights_179 (by first | exact Or.inl rfl | exact Or.inr rfl | omega) ?_
          exact ⟨Or.inr ⟨⟨v, v0, h4, by omega⟩, rfl⟩, hf.wa (by decide), rfl⟩
    · have hin : S 0 v = -2 := by omega
      have rg := wr0.1 hin
      refine go_aload_n dX8_laysWeights_25 rfl rfl ?_
      refine g8_25 dX8_laysWeights_26 ?_
      refine go_iload_n dX8_laysWeights_29 rfl ?_
      refine go_iload_n dX8_laysWeights_30 rfl ?_
      refine go_iaddc dX8_laysWeights_31 ⟨by omega, by omega⟩ ?_
      refine go_iald dX8_laysWeights_32 rfl (by omega) (by omega) ?_
      rw [(q3 hin).1]
      refine go_i2l dX8_laysWeights_33 ?_
      refine v8_244 dX8_laysWeights_34 rfl ⟨rfl, rfl⟩ ⟨rfl, rfl⟩ ct_X8_sizeOf (fun r2 M3 N3 hr2 hq2 => ?_)
      obtain ⟨z2, rfl, rfl⟩ := hq2
      rw [absw_mx (by omega) (by omega)] at z2
      refine go_nml (fun y1 ey1 => ?_)
      have ey1 : y1 = max (S 2 v) (-(S 2 v)) := ey1.trans z2
      clear z2
      refine go_lst5 dX8_laysWeights_37 rfl rfl ?_
      refine go_aload_n dX8_laysWeights_39 rfl rfl ?_
      refine g8_28 dX8_laysWeights_40 ?_
      refine go_iload_n dX8_laysWeights_43 rfl ?_
      refine go_iload_n dX8_laysWeights_44 rfl ?_
      refine go_iaddc dX8_laysWeights_45 ⟨by omega, by omega⟩ ?_
      refine go_iald dX8_laysWeights_46 rfl (by omega) (by omega) ?_
      rw [(q3 hin).2]
      refine go_i2l dX8_laysWeights_47 ?_
      refine v8_244 dX8_laysWeights_48 rfl ⟨rfl, rfl⟩ ⟨rfl, rfl⟩ ct_X8_sizeOf (fun r3 M4 N4 hr3 hq3 => ?_)
      obtain ⟨z3, rfl, rfl⟩ := hq3
      rw [absw_mx (by omega) (by omega)] at z3
      refine go_nml (fun y2 ey2 => ?_)
      have ey2 : y2 = max (S 3 v) (-(S 3 v)) := ey2.trans z3
      clear z3
      refine go_lst7 dX8_laysWeights_51 rfl rfl ?_
      refine go_aload_n dX8_laysWeights_53 rfl rfl ?_
      refine g8_46 dX8_laysWeights_54 ?_
      refine go_iload_n dX8_laysWeights_57 rfl ?_
      refine go_lload dX8_laysWeights_58 rfl ?_
      refine go_lload dX8_laysWeights_60 rfl ?_
      refine go_lcmp_le (tgt := 71) dX8_laysWeights_62 dX8_laysWeights_63 rfl (fun h62 => ?_) (fun h62 => ?_)
      · refine go_lload dX8_laysWeights_71 rfl ?_
        refine go_nml (fun y ey => ?_)
        have hy : y = S 6 v := by
          rw [ey, ws0]
          unfold wtS
          rw [if_pos hin]
          omega
        clear ey
        subst hy
        refine go_last dX8_laysWeights_73 rfl (by omega) (by omega) ?_
        refine go_goto (tgt := 165) dX8_laysWeights_74 rfl ?_
        refine go_aload_n dX8_laysWeights_165 rfl rfl ?_
        refine g8_46 dX8_laysWeights_166 ?_
        refine go_iload_n dX8_laysWeights_169 rfl ?_
        refine go_lald dX8_laysWeights_170 rfl (by omega) (by omega) ?_
        rw [wr_eq]
        refine c8_257 dX8_laysWeights_171 ?_
        refine go_lcmp_le (tgt := 180) dX8_laysWeights_174 dX8_laysWeights_175 rfl (fun h174 => ?_) (fun h174 => ?_)
        · refine go_iinc3c dX8_laysWeights_180 rfl rfl ⟨by omega, by omega⟩ ?_
          refine go_goto (tgt := 2) dX8_laysWeights_183 rfl ?_
          exact ih (n' - 1) (by omega) (v + 1) _ _ _ _ _ _ (by first | rfl | assumption) (by first | rfl | assumption) (by omega) (by omega) (fun u u0 u1 => by
            rw [upI_wr]
            unfold upI
            by_cases z : u = v
            · rw [if_pos z, z]
            · rw [if_neg z]; exact hu u u0 (by omega)) (fun u u0 u1 => by
            by_cases z : u = v
            · rw [z]; omega
            · exact hm u u0 (by omega)) (hf.wa (by decide))
        · refine go_iconst dX8_laysWeights_178 (R32_lit rfl) ?_
          refine go_retz dX8_laysWeights_179 (by first | exact Or.inl rfl | exact Or.inr rfl | omega) ?_
          exact ⟨Or.inr ⟨⟨v, v0, h4, by omega⟩, rfl⟩, hf.wa (by decide), rfl⟩
      · refine go_lload dX8_laysWeights_66 rfl ?_
        refine go_goto (tgt := 73) dX8_laysWeights_68 rfl ?_
        refine go_nml (fun y ey => ?_)
        have hy : y = S 6 v := by
          rw [ey, ws0]
          unfold wtS
          rw [if_pos hin]
          omega
        clear ey
        subst hy
        refine go_last dX8_laysWeights_73 rfl (by omega) (by omega) ?_
        refine go_goto (tgt := 165) dX8_laysWeights_74 rfl ?_
        refine go_aload_n dX8_laysWeights_165 rfl rfl ?_
        refine g8_46 dX8_laysWeights_166 ?_
        refine go_iload_n dX8_laysWeights_169 rfl ?_
        refine go_lald dX8_laysWeights_170 rfl (by omega) (by omega) ?_
        rw [wr_eq]
        refine c8_257 dX8_laysWeights_171 ?_
        refine go_lcmp_le (tgt := 180) dX8_laysWeights_174 dX8_laysWeights_175 rfl (fun h174 => ?_) (fun h174 => ?_)
        · refine go_iinc3c dX8_laysWeights_180 rfl rfl ⟨by omega, by omega⟩ ?_
          refine go_goto (tgt := 2) dX8_laysWeights_183 rfl ?_
          exact ih (n' - 1) (by omega) (v + 1) _ _ _ _ _ _ (by first | rfl | assumption) (by first | rfl | assumption) (by omega) (by omega) (fun u u0 u1 => by
            rw [upI_wr]
            unfold upI
            by_cases z : u = v
            · rw [if_pos z, z]
            · rw [if_neg z]; exact hu u u0 (by omega)) (fun u u0 u1 => by
            by_cases z : u = v
            · rw [z]; omega
            · exact hm u u0 (by omega)) (hf.wa (by decide))
        · refine go_iconst dX8_laysWeights_178 (R32_lit rfl) ?_
          refine go_retz dX8_laysWeights_179 (by first | exact Or.inl rfl | exact Or.inr rfl | omega) ?_
          exact ⟨Or.inr ⟨⟨v, v0, h4, by omega⟩, rfl⟩, hf.wa (by decide), rfl⟩
set_option maxRecDepth 100000 in
set_option maxHeartbeats 4000000 in
theorem ct_X8_laysWeights {E : Ev} {M : Mm} {N : Nn} {S : Pg} {ba n : Int} (hP : PR ba n S M) (n0 : 0 ≤ n) (n5 : n ≤ 15) (b0 : 0 ≤ ba) (b1 : ba ≤ 15) (hw : ∀ v, 0 ≤ v → v < n → WFr S v ∧ S 6 v = wtS S v) : Ct E yX8_laysWeights cX8_laysWeights 9 ((some .boolean)) (rmH 3) [vr (29, 0, 0), vi ba, vi n] M N (qi (fun r M1 N1 => (((∀ v, 0 ≤ v → v < n → S 6 v ≤ 1000000) ∧ r = 1 ∧ ∀ v, 0 ≤ v → v < n → M1 (30, 0, 27) v = S 6 v) ∨ ((∃ v, 0 ≤ v ∧ v < n ∧ 1000000 < S 6 v) ∧ r = 0)) ∧ Kr [] [27] M M1 ∧ N = N1)) := by
  refine ct_of (own := RX8) (L0 := [vr (29, 0, 0), vi ba, vi n, vn, vn, vn, vn, vn, vn]) rfl (by decide +kernel) rfl rfl ?_
  refine go_iconst dX8_laysWeights_0 (R32_lit rfl) ?_
  refine go_ist3 dX8_laysWeights_1 rfl rfl ?_
  exact lp_X8_laysWeights hP n0 n5 b0 b1 hw n.toNat 0 vn vn vn vn vn M rfl rfl (by omega) (by omega) (fun u u0 u1 => absurd u1 (by omega)) (fun u u0 u1 => absurd u1 (by omega)) Kr.rf
set_option maxRecDepth 100000 in
set_option maxHeartbeats 4000000 in
theorem lp_X8_fineOf {E : Ev} {M : Mm} {N : Nn} {S : Pg} {v k : Int} {w3 : Int} (ho : S 8 (4 * v + k) < 0) : ∀ (n : Nat) (x i : Int), (i + n = 8) → (0 ≤ i) → (i ≤ 8) → (-1000 ≤ x) → (x ≤ 1000) → (i + two8 n x = two8 8 (S 9 (4 * v + k))) → Go E RX8 cX8_fineOf 6 ((some .int)) (rmH 1) 0 0 (zM E (qi (fun r M1 N1 => r = opF S (M (30, 0, 28)) (4 * v + k) ∧ M = M1 ∧ N = N1))) 40 [vr (29, 0, 0), vi v, vi k, vi w3, vi x, vi i] [] M N := by
  intro n
  induction n using Nat.strongRecOn with
  | ind n ih =>
  intro x i hn i0 i1 x0 x1 hx
  refine go_iload dX8_fineOf_40 rfl ?_
  refine go_bipush dX8_fineOf_42 ⟨by decide, by decide⟩ ?_
  refine go_icmp_ge (tgt := 66) dX8_fineOf_44 rfl (fun h44 => ?_) (fun h44 => ?_)
  · refine go_iload dX8_fineOf_66 rfl ?_
    refine go_reti dX8_fineOf_68 ?_
    refine ⟨?_, rfl, rfl⟩
    unfold opF
    rw [if_neg (by omega), ← hx]
    first
    | (rw [show n = 0 by omega]; show i = i + 0; omega)
    | (rw [show n = (n - 1) + 1 by omega]
       show i = i + (if x.tmod 2 = 0 then 1 + two8 (n - 1) (x.tdiv 2) else 0)
       rw [if_neg h51]; omega)
  · refine go_iload dX8_fineOf_47 rfl ?_
    refine go_iconst dX8_fineOf_49 (R32_lit rfl) ?_
    refine go_irem dX8_fineOf_50 (by decide) ?_
    refine go_if_ne (tgt := 66) dX8_fineOf_51 rfl (fun h51 => ?_) (fun h51 => ?_)
    · refine go_iload dX8_fineOf_66 rfl ?_
      refine go_reti dX8_fineOf_68 ?_
      refine ⟨?_, rfl, rfl⟩
      unfold opF
      rw [if_neg (by omega), ← hx]
      first
      | (rw [show n = 0 by omega]; show i = i + 0; omega)
      | (rw [show n = (n - 1) + 1 by omega]
         show i = i + (if x.tmod 2 = 0 then 1 + two8 (n - 1) (x.tdiv 2) else 0)
         rw [if_neg h51]; omega)
    · refine go_iload dX8_fineOf_54 rfl ?_
      refine go_iconst dX8_fineOf_56 (R32_lit rfl) ?_
      refine go_idivc dX8_fineOf_57 (by decide) (by have := tdiv2_bd x0 x1; exact ⟨by omega, by omega⟩) ?_
      refine go_ist4 dX8_fineOf_58 rfl rfl ?_
      refine go_iinc5c dX8_fineOf_60 rfl rfl ⟨by omega, by omega⟩ ?_
      refine go_goto (tgt := 40) dX8_fineOf_63 rfl ?_
      have hd := tdiv2_bd x0 x1
      exact ih (n - 1) (by omega) (x.tdiv 2) (i + 1) (by omega) (by omega) (by omega) hd.1 hd.2 (by
        rw [← hx, show n = (n - 1) + 1 by omega]
        show _ = i + (if x.tmod 2 = 0 then 1 + two8 (n - 1) (x.tdiv 2) else 0)
        rw [if_pos h51, Nat.add_sub_cancel]
        omega)
set_option maxRecDepth 100000 in
set_option maxHeartbeats 4000000 in
theorem ct_X8_fineOf {E : Ev} {M : Mm} {N : Nn} {S : Pg} {n v k : Int} (hP : PR 0 n S M) (v0 : 0 ≤ v) (v1 : v < n) (n5 : n ≤ 15) (hs : S 0 v ≠ -2) (k0 : 0 ≤ k) (k1 : k < opn S v) (hw : WFo S v (4 * v + k)) : Ct E yX8_fineOf cX8_fineOf 6 ((some .int)) (rmH 1) [vr (29, 0, 0), vi v, vi k] M N (qi (fun r M1 N1 => r = opF S (M (30, 0, 28)) (4 * v + k) ∧ M = M1 ∧ N = N1)) := by
  refine ct_of (own := RX8) (L0 := [vr (29, 0, 0), vi v, vi k, vn, vn, vn]) rfl (by decide +kernel) rfl rfl ?_
  obtain ⟨p1, p2⟩ := (hP v v0 v1).2.2.2 hs k k0 k1
  rw [Int.zero_add] at p1 p2
  have o4 := opn_le S v
  refine go_iconst dX8_fineOf_0 (R32_lit rfl) ?_
  refine go_iload_n dX8_fineOf_1 rfl ?_
  refine go_imulc dX8_fineOf_2 ⟨by omega, by omega⟩ ?_
  refine go_iload_n dX8_fineOf_3 rfl ?_
  refine go_iaddc dX8_fineOf_4 ⟨by omega, by omega⟩ ?_
  refine go_nmi (fun y ey => ?_)
  have ey : y = 4 * v + k := ey
  subst ey
  refine go_ist3 dX8_fineOf_5 rfl rfl ?_
  refine go_aload_n dX8_fineOf_6 rfl rfl ?_
  refine g8_31 dX8_fineOf_7 ?_
  refine go_iload_n dX8_fineOf_10 rfl ?_
  refine go_iald dX8_fineOf_11 rfl (by omega) (by omega) ?_
  rw [p1]
  refine go_bipush dX8_fineOf_12 ⟨by decide, by decide⟩ ?_
  refine go_icmp_eq (tgt := 29) dX8_fineOf_14 rfl (fun h14 => ?_) (fun h14 => ?_)
  · refine go_aload_n dX8_fineOf_29 rfl rfl ?_
    refine g8_34 dX8_fineOf_30 ?_
    refine go_iload_n dX8_fineOf_33 rfl ?_
    refine go_iald dX8_fineOf_34 rfl (by omega) (by omega) ?_
    rw [(p2 (by omega)).2]
    have hw2 := hw.2 (by omega)
    refine go_ist4 dX8_fineOf_35 rfl rfl ?_
    refine go_iconst dX8_fineOf_37 (R32_lit rfl) ?_
    refine go_ist5 dX8_fineOf_38 rfl rfl ?_
    exact lp_X8_fineOf (by omega) 8 _ 0 (by omega) (by omega) (by omega) hw2.2.1 hw2.2.2 (by omega)
  · refine go_aload_n dX8_fineOf_17 rfl rfl ?_
    refine g8_50 dX8_fineOf_18 ?_
    refine go_aload_n dX8_fineOf_21 rfl rfl ?_
    refine g8_31 dX8_fineOf_22 ?_
    refine go_iload_n dX8_fineOf_25 rfl ?_
    refine go_iald dX8_fineOf_26 rfl (by omega) (by omega) ?_
    rw [p1]
    have hw1 := hw.1
    have hw2 := hw.2
    refine go_iald dX8_fineOf_27 rfl (by omega) (by omega) ?_
    refine go_reti dX8_fineOf_28 ?_
    refine ⟨?_, rfl, rfl⟩
    unfold opF
    rw [if_pos (by omega)]
set_option maxRecDepth 100000 in
set_option maxHeartbeats 4000000 in
theorem lp_X8_laysFine {E : Ev} {M : Mm} {N : Nn} {S : Pg} (hQ : QR S M) (hw : ∀ v, 0 ≤ v → v < S 11 0 → WFr S v ∧ S 5 v = fiS S v) (h5 : ∀ v, 0 ≤ v → v < S 11 0 → 0 ≤ S 5 v ∧ S 5 v ≤ 8) : ∀ (n : Nat) (v : Int) (x2 x3 x4 : Vv) (M2 : Mm), (adj x2 = x2) → (adj x3 = x3) → (v + n = S 11 0) → (0 ≤ v) → (∀ u, 0 ≤ u → u < v → M2 (30, 0, 28) u = S 5 u ∧ (S 0 u ≠ -2 → M2 (30, 0, 29) u = rfS S (S 5) u)) → (Kr [] [28, 29] M M2) → Go E RX8 cX8_laysFine 5 (none) (rmH 2) 0 0 (zM E (qv (fun M1 N1 => (∀ v, 0 ≤ v → v < S 11 0 → M1 (30, 0, 28) v = S 5 v ∧ (S 0 v ≠ -2 → M1 (30, 0, 29) v = rfS S (S 5) v)) ∧ Kr [] [28, 29] M M1 ∧ N = N1))) 2 [vr (29, 0, 0), vi v, x2, x3, x4] [] M2 N := by
  intro n
  induction n using Nat.strongRecOn with
  | ind n ih =>
  intro v x2 x3 x4 M2 ha2 ha3 hn v0 hu hf
  have P2 : PR 0 (S 11 0) S M2 := hQ.2.2.2.2.k (hf.a 7 (by decide)) (hf.a 8 (by decide)) (hf.a 9 (by decide)) (hf.a 10 (by decide)) (hf.a 11 (by decide)) (hf.a 12 (by decide))
  have c6 : M2 (29, 0, 0) 6 = S 11 0 := by rw [hf.s 6 (by decide)]; exact hQ.1
  have c5 := hQ.2.2.1
  refine go_iload_n dX8_laysFine_2 rfl ?_
  refine go_aload_n dX8_laysFine_3 rfl rfl ?_
  refine g8_259 dX8_laysFine_4 ?_
  rw [c6]
  refine go_icmp_ge (tgt := 148) dX8_laysFine_7 rfl (fun h7 => ?_) (fun h7 => ?_)
  · refine go_retv dX8_laysFine_148 ?_
    exact ⟨fun u u0 u1 => hu u u0 (by omega), hf, rfl⟩
  · have h7 : v < S 11 0 := by omega
    obtain ⟨q1, q2, q3, q4⟩ := P2 v v0 h7
    rw [Int.zero_add] at q1 q2
    obtain ⟨wr0, ws0⟩ := hw v v0 h7
    refine go_aload_n dX8_laysFine_10 rfl rfl ?_
    refine g8_19 dX8_laysFine_11 ?_
    refine go_iload_n dX8_laysFine_14 rfl ?_
    refine go_iald dX8_laysFine_15 rfl (by omega) (by omega) ?_
    rw [q1]
    refine v8_248 dX8_laysFine_16 rfl ⟨rfl, rfl⟩ ⟨rfl, rfl⟩ ct_X8_isInput (fun r1 M1 N1 hr1 hq1 => ?_)
    obtain ⟨z1, rfl, rfl⟩ := hq1
    have z1 := bit_iff z1
    refine go_if_eq (tgt := 39) dX8_laysFine_19 rfl (fun h19 => ?_) (fun h19 => ?_)
    · have hns : S 0 v ≠ -2 := by omega
      obtain ⟨g1, g2, g3, g4, g5⟩ := wr0.2 hns
      have og := opn_ge S v
      have ft : ∀ k, 0 ≤ k → k < opn S v → opF S (M2 (30, 0, 28)) (4 * v + k) = opF S (S 5) (4 * v + k) ∧ 0 ≤ opF S (S 5) (4 * v + k) ∧ opF S (S 5) (4 * v + k) ≤ 8 := by
        intro k k0 k1
        have g := g5 k k0 k1
        exact ⟨opF_tab (fun z => (hu _ z (g.1 z)).1), opF_0 g (fun u u0 u1 => h5 u u0 (by omega))⟩
      refine go_aload_n dX8_laysFine_39 rfl rfl ?_
      refine g8_19 dX8_laysFine_40 ?_
      refine go_iload_n dX8_laysFine_43 rfl ?_
      refine go_iald dX8_laysFine_44 rfl (by omega) (by omega) ?_
      rw [q1]
      refine go_iconst dX8_laysFine_45 (R32_lit rfl) ?_
      refine go_icmp_ne (tgt := 53) dX8_laysFine_46 rfl (fun h46 => ?_) (fun h46 => ?_)
      · refine go_iconst dX8_laysFine_53 (R32_lit rfl) ?_
        refine go_ist2 dX8_laysFine_54 rfl rfl ?_
        refine go_aload_n dX8_laysFine_55 rfl rfl ?_
        refine go_iload_n dX8_laysFine_56 rfl ?_
        refine go_iload_n dX8_laysFine_57 rfl ?_
        refine v8_262 dX8_laysFine_58 rfl ⟨rfl, rfl⟩ ⟨rfl, rfl⟩ (ct_X8_fineOf (n := S 11 0) P2 v0 h7 c5 hns (by omega) (by omega) (g5 _ (by omega) (by omega))) (fun r2 M3 N3 hr2 hq2 => ?_)
        obtain ⟨z2, rfl, rfl⟩ := hq2
        rw [(ft _ (by omega) (by omega)).1] at z2
        try rw [Int.add_zero] at z2
        have b2 : 0 ≤ r2 ∧ r2 ≤ 8 := by
          rw [z2]
          first
          | exact (ft 2 (by omega) (by omega)).2
          | (have q := (ft 0 (by omega) (by omega)).2; rw [Int.add_zero] at q; exact q)
        refine go_ist3 dX8_laysFine_61 rfl rfl ?_
        refine go_aload_n dX8_laysFine_62 rfl rfl ?_
        refine go_iload_n dX8_laysFine_63 rfl ?_
        refine go_iload_n dX8_laysFine_64 rfl ?_
        refine go_iconst dX8_laysFine_65 (R32_lit rfl) ?_
        refine go_iaddc dX8_laysFine_66 ⟨by omega, by omega⟩ ?_
        refine v8_262 dX8_laysFine_67 rfl ⟨rfl, rfl⟩ ⟨rfl, rfl⟩ (ct_X8_fineOf (n := S 11 0) P2 v0 h7 c5 hns (by omega) (by omega) (g5 _ (by omega) (by omega))) (fun r3 M4 N4 hr3 hq3 => ?_)
        obtain ⟨z3, rfl, rfl⟩ := hq3
        rw [(ft _ (by omega) (by omega)).1] at z3
        first | rw [show (0 : Int) + 1 = 1 from rfl] at z3 | rw [show (2 : Int) + 1 = 3 from rfl] at z3
        have b3 : 0 ≤ r3 ∧ r3 ≤ 8 := by
          rw [z3]
          exact (ft _ (by omega) (by omega)).2
        refine go_ist4 dX8_laysFine_70 rfl rfl ?_
        refine go_aload_n dX8_laysFine_72 rfl rfl ?_
        refine g8_53 dX8_laysFine_73 ?_
        refine go_iload_n dX8_laysFine_76 rfl ?_
        refine go_aload_n dX8_laysFine_77 rfl rfl ?_
        refine g8_19 dX8_laysFine_78 ?_
        refine go_iload_n dX8_laysFine_81 rfl ?_
        refine go_iald dX8_laysFine_82 rfl (by omega) (by omega) ?_
        rw [q1]
        refine go_iconst dX8_laysFine_83 (R32_lit rfl) ?_
        refine go_icmp_ne (tgt := 99) dX8_laysFine_84 rfl (fun h84 => ?_) (fun h84 => ?_)
        · refine go_iload_n dX8_laysFine_99 rfl ?_
          refine go_iload dX8_laysFine_100 rfl ?_
          refine v8_266 dX8_laysFine_102 rfl ⟨rfl, rfl⟩ ⟨rfl, rfl⟩ ct_X8_lesser (fun r4 M5 N5 hr4 hq4 => ?_)
          obtain ⟨z4, rfl, rfl⟩ := hq4
          refine go_nmi (fun y ey => ?_)
          have hy : y = rfS S (S 5) v := by
            rw [ey, z4]
            unfold rfS
            first
            | (rw [if_pos h46, z2, z3]; done)
            | (rw [if_neg h46, if_pos h84, ← z2, ← z3]; omega)
            | (rw [if_neg h46, if_neg h84, z2, z3]; done)
            | (exfalso; omega)
          clear ey
          refine go_iast dX8_laysFine_105 rfl (by omega) (by omega) ?_
          refine go_aload_n dX8_laysFine_106 rfl rfl ?_
          refine g8_50 dX8_laysFine_107 ?_
          refine go_iload_n dX8_laysFine_110 rfl ?_
          refine go_aload_n dX8_laysFine_111 rfl rfl ?_
          refine g8_53 dX8_laysFine_112 ?_
          refine go_iload_n dX8_laysFine_115 rfl ?_
          refine go_iald dX8_laysFine_116 rfl (by omega) (by omega) ?_
          rw [wr_eq]
          refine go_aload_n dX8_laysFine_117 rfl rfl ?_
          refine g8_22 dX8_laysFine_118 ?_
          refine go_iload_n dX8_laysFine_121 rfl ?_
          refine go_iald dX8_laysFine_122 rfl (by omega) (by omega) ?_
          rw [wr_nf (nm_ne3 (by decide)), q2]
          refine go_icmp_le (tgt := 135) dX8_laysFine_123 rfl (fun h123 => ?_) (fun h123 => ?_)
          · refine go_aload_n dX8_laysFine_135 rfl rfl ?_
            refine g8_22 dX8_laysFine_136 ?_
            refine go_iload_n dX8_laysFine_139 rfl ?_
            refine go_iald dX8_laysFine_140 rfl (by omega) (by omega) ?_
            first | rw [wr_nf (nm_ne3 (by decide)), q2] | skip
            refine go_iast dX8_laysFine_141 rfl (by omega) (by omega) ?_
            refine go_iinc1c dX8_laysFine_142 rfl rfl ⟨by omega, by omega⟩ ?_
            refine go_goto (tgt := 2) dX8_laysFine_145 rfl ?_
            refine ih (n - 1) (by omega) (v + 1) _ _ _ _ (by first | rfl | assumption) (by first | rfl | assumption) (by omega) (by omega) (fun u u0 u1 => ?_) ((hf.wa (by decide)).wa (by decide))
            rw [wr_nf (nm_ne3 (show 29 ≠ 28 by decide)), upI_wr, upI_wr, wr_nf (nm_ne3 (show 28 ≠ 29 by decide))]
            unfold upI
            by_cases z : u = v
            · rw [if_pos z, if_pos z, z]
              first
              | exact ⟨by rw [ws0]; unfold fiS; rw [if_pos hin], fun q => absurd hin q⟩
              | exact ⟨by rw [ws0]; unfold fiS; rw [if_neg hns]; omega, fun _ => hy⟩
            · rw [if_neg z, if_neg z]; exact hu u u0 (by omega)
          · refine go_aload_n dX8_laysFine_126 rfl rfl ?_
            refine g8_53 dX8_laysFine_127 ?_
            refine go_iload_n dX8_laysFine_130 rfl ?_
            refine go_iald dX8_laysFine_131 rfl (by omega) (by omega) ?_
            rw [wr_eq]
            refine go_goto (tgt := 141) dX8_laysFine_132 rfl ?_
            first | rw [wr_nf (nm_ne3 (by decide)), q2] | skip
            refine go_iast dX8_laysFine_141 rfl (by omega) (by omega) ?_
            refine go_iinc1c dX8_laysFine_142 rfl rfl ⟨by omega, by omega⟩ ?_
            refine go_goto (tgt := 2) dX8_laysFine_145 rfl ?_
            refine ih (n - 1) (by omega) (v + 1) _ _ _ _ (by first | rfl | assumption) (by first | rfl | assumption) (by omega) (by omega) (fun u u0 u1 => ?_) ((hf.wa (by decide)).wa (by decide))
            rw [wr_nf (nm_ne3 (show 29 ≠ 28 by decide)), upI_wr, upI_wr, wr_nf (nm_ne3 (show 28 ≠ 29 by decide))]
            unfold upI
            by_cases z : u = v
            · rw [if_pos z, if_pos z, z]
              first
              | exact ⟨by rw [ws0]; unfold fiS; rw [if_pos hin], fun q => absurd hin q⟩
              | exact ⟨by rw [ws0]; unfold fiS; rw [if_neg hns]; omega, fun _ => hy⟩
            · rw [if_neg z, if_neg z]; exact hu u u0 (by omega)
        · refine go_bipush dX8_laysFine_87 ⟨by decide, by decide⟩ ?_
          refine go_iload_n dX8_laysFine_89 rfl ?_
          refine go_iload dX8_laysFine_90 rfl ?_
          refine go_iaddc dX8_laysFine_92 ⟨by omega, by omega⟩ ?_
          refine v8_266 dX8_laysFine_93 rfl ⟨rfl, rfl⟩ ⟨rfl, rfl⟩ ct_X8_lesser (fun r4 M5 N5 hr4 hq4 => ?_)
          refine go_goto (tgt := 105) dX8_laysFine_96 rfl ?_
          obtain ⟨z4, rfl, rfl⟩ := hq4
          refine go_nmi (fun y ey => ?_)
          have hy : y = rfS S (S 5) v := by
            rw [ey, z4]
            unfold rfS
            first
            | (rw [if_pos h46, z2, z3]; done)
            | (rw [if_neg h46, if_pos h84, ← z2, ← z3]; omega)
            | (rw [if_neg h46, if_neg h84, z2, z3]; done)
            | (exfalso; omega)
          clear ey
          refine go_iast dX8_laysFine_105 rfl (by omega) (by omega) ?_
          refine go_aload_n dX8_laysFine_106 rfl rfl ?_
          refine g8_50 dX8_laysFine_107 ?_
          refine go_iload_n dX8_laysFine_110 rfl ?_
          refine go_aload_n dX8_laysFine_111 rfl rfl ?_
          refine g8_53 dX8_laysFine_112 ?_
          refine go_iload_n dX8_laysFine_115 rfl ?_
          refine go_iald dX8_laysFine_116 rfl (by omega) (by omega) ?_
          rw [wr_eq]
          refine go_aload_n dX8_laysFine_117 rfl rfl ?_
          refine g8_22 dX8_laysFine_118 ?_
          refine go_iload_n dX8_laysFine_121 rfl ?_
          refine go_iald dX8_laysFine_122 rfl (by omega) (by omega) ?_
          rw [wr_nf (nm_ne3 (by decide)), q2]
          refine go_icmp_le (tgt := 135) dX8_laysFine_123 rfl (fun h123 => ?_) (fun h123 => ?_)
          · refine go_aload_n dX8_laysFine_135 rfl rfl ?_
            refine g8_22 dX8_laysFine_136 ?_
            refine go_iload_n dX8_laysFine_139 rfl ?_
            refine go_iald dX8_laysFine_140 rfl (by omega) (by omega) ?_
            first | rw [wr_nf (nm_ne3 (by decide)), q2] | skip
            refine go_iast dX8_laysFine_141 rfl (by omega) (by omega) ?_
            refine go_iinc1c dX8_laysFine_142 rfl rfl ⟨by omega, by omega⟩ ?_
            refine go_goto (tgt := 2) dX8_laysFine_145 rfl ?_
            refine ih (n - 1) (by omega) (v + 1) _ _ _ _ (by first | rfl | assumption) (by first | rfl | assumption) (by omega) (by omega) (fun u u0 u1 => ?_) ((hf.wa (by decide)).wa (by decide))
            rw [wr_nf (nm_ne3 (show 29 ≠ 28 by decide)), upI_wr, upI_wr, wr_nf (nm_ne3 (show 28 ≠ 29 by decide))]
            unfold upI
            by_cases z : u = v
            · rw [if_pos z, if_pos z, z]
              first
              | exact ⟨by rw [ws0]; unfold fiS; rw [if_pos hin], fun q => absurd hin q⟩
              | exact ⟨by rw [ws0]; unfold fiS; rw [if_neg hns]; omega, fun _ => hy⟩
            · rw [if_neg z, if_neg z]; exact hu u u0 (by omega)
          · refine go_aload_n dX8_laysFine_126 rfl rfl ?_
            refine g8_53 dX8_laysFine_127 ?_
            refine go_iload_n dX8_laysFine_130 rfl ?_
            refine go_iald dX8_laysFine_131 rfl (by omega) (by omega) ?_
            rw [wr_eq]
            refine go_goto (tgt := 141) dX8_laysFine_132 rfl ?_
            first | rw [wr_nf (nm_ne3 (by decide)), q2] | skip
            refine go_iast dX8_laysFine_141 rfl (by omega) (by omega) ?_
            refine go_iinc1c dX8_laysFine_142 rfl rfl ⟨by omega, by omega⟩ ?_
            refine go_goto (tgt := 2) dX8_laysFine_145 rfl ?_
            refine ih (n - 1) (by omega) (v + 1) _ _ _ _ (by first | rfl | assumption) (by first | rfl | assumption) (by omega) (by omega) (fun u u0 u1 => ?_) ((hf.wa (by decide)).wa (by decide))
            rw [wr_nf (nm_ne3 (show 29 ≠ 28 by decide)), upI_wr, upI_wr, wr_nf (nm_ne3 (show 28 ≠ 29 by decide))]
            unfold upI
            by_cases z : u = v
            · rw [if_pos z, if_pos z, z]
              first
              | exact ⟨by rw [ws0]; unfold fiS; rw [if_pos hin], fun q => absurd hin q⟩
              | exact ⟨by rw [ws0]; unfold fiS; rw [if_neg hns]; omega, fun _ => hy⟩
            · rw [if_neg z, if_neg z]; exact hu u u0 (by omega)
      · have o3 := opn_3 h46
        refine go_iconst dX8_laysFine_49 (R32_lit rfl) ?_
        refine go_goto (tgt := 54) dX8_laysFine_50 rfl ?_
        refine go_ist2 dX8_laysFine_54 rfl rfl ?_
        refine go_aload_n dX8_laysFine_55 rfl rfl ?_
        refine go_iload_n dX8_laysFine_56 rfl ?_
        refine go_iload_n dX8_laysFine_57 rfl ?_
        refine v8_262 dX8_laysFine_58 rfl ⟨rfl, rfl⟩ ⟨rfl, rfl⟩ (ct_X8_fineOf (n := S 11 0) P2 v0 h7 c5 hns (by omega) (by omega) (g5 _ (by omega) (by omega))) (fun r2 M3 N3 hr2 hq2 => ?_)
        obtain ⟨z2, rfl, rfl⟩ := hq2
        rw [(ft _ (by omega) (by omega)).1] at z2
        try rw [Int.add_zero] at z2
        have b2 : 0 ≤ r2 ∧ r2 ≤ 8 := by
          rw [z2]
          first
          | exact (ft 2 (by omega) (by omega)).2
          | (have q := (ft 0 (by omega) (by omega)).2; rw [Int.add_zero] at q; exact q)
        refine go_ist3 dX8_laysFine_61 rfl rfl ?_
        refine go_aload_n dX8_laysFine_62 rfl rfl ?_
        refine go_iload_n dX8_laysFine_63 rfl ?_
        refine go_iload_n dX8_laysFine_64 rfl ?_
        refine go_iconst dX8_laysFine_65 (R32_lit rfl) ?_
        refine go_iaddc dX8_laysFine_66 ⟨by omega, by omega⟩ ?_
        refine v8_262 dX8_laysFine_67 rfl ⟨rfl, rfl⟩ ⟨rfl, rfl⟩ (ct_X8_fineOf (n := S 11 0) P2 v0 h7 c5 hns (by omega) (by omega) (g5 _ (by omega) (by omega))) (fun r3 M4 N4 hr3 hq3 => ?_)
        obtain ⟨z3, rfl, rfl⟩ := hq3
        rw [(ft _ (by omega) (by omega)).1] at z3
        first | rw [show (0 : Int) + 1 = 1 from rfl] at z3 | rw [show (2 : Int) + 1 = 3 from rfl] at z3
        have b3 : 0 ≤ r3 ∧ r3 ≤ 8 := by
          rw [z3]
          exact (ft _ (by omega) (by omega)).2
        refine go_ist4 dX8_laysFine_70 rfl rfl ?_
        refine go_aload_n dX8_laysFine_72 rfl rfl ?_
        refine g8_53 dX8_laysFine_73 ?_
        refine go_iload_n dX8_laysFine_76 rfl ?_
        refine go_aload_n dX8_laysFine_77 rfl rfl ?_
        refine g8_19 dX8_laysFine_78 ?_
        refine go_iload_n dX8_laysFine_81 rfl ?_
        refine go_iald dX8_laysFine_82 rfl (by omega) (by omega) ?_
        rw [q1]
        refine go_iconst dX8_laysFine_83 (R32_lit rfl) ?_
        refine go_icmp_ne (tgt := 99) dX8_laysFine_84 rfl (fun h84 => ?_) (fun h84 => ?_)
        · refine go_iload_n dX8_laysFine_99 rfl ?_
          refine go_iload dX8_laysFine_100 rfl ?_
          refine v8_266 dX8_laysFine_102 rfl ⟨rfl, rfl⟩ ⟨rfl, rfl⟩ ct_X8_lesser (fun r4 M5 N5 hr4 hq4 => ?_)
          obtain ⟨z4, rfl, rfl⟩ := hq4
          refine go_nmi (fun y ey => ?_)
          have hy : y = rfS S (S 5) v := by
            rw [ey, z4]
            unfold rfS
            first
            | (rw [if_pos h46, z2, z3]; done)
            | (rw [if_neg h46, if_pos h84, ← z2, ← z3]; omega)
            | (rw [if_neg h46, if_neg h84, z2, z3]; done)
            | (exfalso; omega)
          clear ey
          refine go_iast dX8_laysFine_105 rfl (by omega) (by omega) ?_
          refine go_aload_n dX8_laysFine_106 rfl rfl ?_
          refine g8_50 dX8_laysFine_107 ?_
          refine go_iload_n dX8_laysFine_110 rfl ?_
          refine go_aload_n dX8_laysFine_111 rfl rfl ?_
          refine g8_53 dX8_laysFine_112 ?_
          refine go_iload_n dX8_laysFine_115 rfl ?_
          refine go_iald dX8_laysFine_116 rfl (by omega) (by omega) ?_
          rw [wr_eq]
          refine go_aload_n dX8_laysFine_117 rfl rfl ?_
          refine g8_22 dX8_laysFine_118 ?_
          refine go_iload_n dX8_laysFine_121 rfl ?_
          refine go_iald dX8_laysFine_122 rfl (by omega) (by omega) ?_
          rw [wr_nf (nm_ne3 (by decide)), q2]
          refine go_icmp_le (tgt := 135) dX8_laysFine_123 rfl (fun h123 => ?_) (fun h123 => ?_)
          · refine go_aload_n dX8_laysFine_135 rfl rfl ?_
            refine g8_22 dX8_laysFine_136 ?_
            refine go_iload_n dX8_laysFine_139 rfl ?_
            refine go_iald dX8_laysFine_140 rfl (by omega) (by omega) ?_
            first | rw [wr_nf (nm_ne3 (by decide)), q2] | skip
            refine go_iast dX8_laysFine_141 rfl (by omega) (by omega) ?_
            refine go_iinc1c dX8_laysFine_142 rfl rfl ⟨by omega, by omega⟩ ?_
            refine go_goto (tgt := 2) dX8_laysFine_145 rfl ?_
            refine ih (n - 1) (by omega) (v + 1) _ _ _ _ (by first | rfl | assumption) (by first | rfl | assumption) (by omega) (by omega) (fun u u0 u1 => ?_) ((hf.wa (by decide)).wa (by decide))
            rw [wr_nf (nm_ne3 (show 29 ≠ 28 by decide)), upI_wr, upI_wr, wr_nf (nm_ne3 (show 28 ≠ 29 by decide))]
            unfold upI
            by_cases z : u = v
            · rw [if_pos z, if_pos z, z]
              first
              | exact ⟨by rw [ws0]; unfold fiS; rw [if_pos hin], fun q => absurd hin q⟩
              | exact ⟨by rw [ws0]; unfold fiS; rw [if_neg hns]; omega, fun _ => hy⟩
            · rw [if_neg z, if_neg z]; exact hu u u0 (by omega)
          · refine go_aload_n dX8_laysFine_126 rfl rfl ?_
            refine g8_53 dX8_laysFine_127 ?_
            refine go_iload_n dX8_laysFine_130 rfl ?_
            refine go_iald dX8_laysFine_131 rfl (by omega) (by omega) ?_
            rw [wr_eq]
            refine go_goto (tgt := 141) dX8_laysFine_132 rfl ?_
            first | rw [wr_nf (nm_ne3 (by decide)), q2] | skip
            refine go_iast dX8_laysFine_141 rfl (by omega) (by omega) ?_
            refine go_iinc1c dX8_laysFine_142 rfl rfl ⟨by omega, by omega⟩ ?_
            refine go_goto (tgt := 2) dX8_laysFine_145 rfl ?_
            refine ih (n - 1) (by omega) (v + 1) _ _ _ _ (by first | rfl | assumption) (by first | rfl | assumption) (by omega) (by omega) (fun u u0 u1 => ?_) ((hf.wa (by decide)).wa (by decide))
            rw [wr_nf (nm_ne3 (show 29 ≠ 28 by decide)), upI_wr, upI_wr, wr_nf (nm_ne3 (show 28 ≠ 29 by decide))]
            unfold upI
            by_cases z : u = v
            · rw [if_pos z, if_pos z, z]
              first
              | exact ⟨by rw [ws0]; unfold fiS; rw [if_pos hin], fun q => absurd hin q⟩
              | exact ⟨by rw [ws0]; unfold fiS; rw [if_neg hns]; omega, fun _ => hy⟩
            · rw [if_neg z, if_neg z]; exact hu u u0 (by omega)
        · refine go_bipush dX8_laysFine_87 ⟨by decide, by decide⟩ ?_
          refine go_iload_n dX8_laysFine_89 rfl ?_
          refine go_iload dX8_laysFine_90 rfl ?_
          refine go_iaddc dX8_laysFine_92 ⟨by omega, by omega⟩ ?_
          refine v8_266 dX8_laysFine_93 rfl ⟨rfl, rfl⟩ ⟨rfl, rfl⟩ ct_X8_lesser (fun r4 M5 N5 hr4 hq4 => ?_)
          refine go_goto (tgt := 105) dX8_laysFine_96 rfl ?_
          obtain ⟨z4, rfl, rfl⟩ := hq4
          refine go_nmi (fun y ey => ?_)
          have hy : y = rfS S (S 5) v := by
            rw [ey, z4]
            unfold rfS
            first
            | (rw [if_pos h46, z2, z3]; done)
            | (rw [if_neg h46, if_pos h84, ← z2, ← z3]; omega)
            | (rw [if_neg h46, if_neg h84, z2, z3]; done)
            | (exfalso; omega)
          clear ey
          refine go_iast dX8_laysFine_105 rfl (by omega) (by omega) ?_
          refine go_aload_n dX8_laysFine_106 rfl rfl ?_
          refine g8_50 dX8_laysFine_107 ?_
          refine go_iload_n dX8_laysFine_110 rfl ?_
          refine go_aload_n dX8_laysFine_111 rfl rfl ?_
          refine g8_53 dX8_laysFine_112 ?_
          refine go_iload_n dX8_laysFine_115 rfl ?_
          refine go_iald dX8_laysFine_116 rfl (by omega) (by omega) ?_
          rw [wr_eq]
          refine go_aload_n dX8_laysFine_117 rfl rfl ?_
          refine g8_22 dX8_laysFine_118 ?_
          refine go_iload_n dX8_laysFine_121 rfl ?_
          refine go_iald dX8_laysFine_122 rfl (by omega) (by omega) ?_
          rw [wr_nf (nm_ne3 (by decide)), q2]
          refine go_icmp_le (tgt := 135) dX8_laysFine_123 rfl (fun h123 => ?_) (fun h123 => ?_)
          · refine go_aload_n dX8_laysFine_135 rfl rfl ?_
            refine g8_22 dX8_laysFine_136 ?_
            refine go_iload_n dX8_laysFine_139 rfl ?_
            refine go_iald dX8_laysFine_140 rfl (by omega) (by omega) ?_
            first | rw [wr_nf (nm_ne3 (by decide)), q2] | skip
            refine go_iast dX8_laysFine_141 rfl (by omega) (by omega) ?_
            refine go_iinc1c dX8_laysFine_142 rfl rfl ⟨by omega, by omega⟩ ?_
            refine go_goto (tgt := 2) dX8_laysFine_145 rfl ?_
            refine ih (n - 1) (by omega) (v + 1) _ _ _ _ (by first | rfl | assumption) (by first | rfl | assumption) (by omega) (by omega) (fun u u0 u1 => ?_) ((hf.wa (by decide)).wa (by decide))
            rw [wr_nf (nm_ne3 (show 29 ≠ 28 by decide)), upI_wr, upI_wr, wr_nf (nm_ne3 (show 28 ≠ 29 by decide))]
            unfold upI
            by_cases z : u = v
            · rw [if_pos z, if_pos z, z]
              first
              | exact ⟨by rw [ws0]; unfold fiS; rw [if_pos hin], fun q => absurd hin q⟩
              | exact ⟨by rw [ws0]; unfold fiS; rw [if_neg hns]; omega, fun _ => hy⟩
            · rw [if_neg z, if_neg z]; exact hu u u0 (by omega)
          · refine go_aload_n dX8_laysFine_126 rfl rfl ?_
            refine g8_53 dX8_laysFine_127 ?_
            refine go_iload_n dX8_laysFine_130 rfl ?_
            refine go_iald dX8_laysFine_131 rfl (by omega) (by omega) ?_
            rw [wr_eq]
            refine go_goto (tgt := 141) dX8_laysFine_132 rfl ?_
            first | rw [wr_nf (nm_ne3 (by decide)), q2] | skip
            refine go_iast dX8_laysFine_141 rfl (by omega) (by omega) ?_
            refine go_iinc1c dX8_laysFine_142 rfl rfl ⟨by omega, by omega⟩ ?_
            refine go_goto (tgt := 2) dX8_laysFine_145 rfl ?_
            refine ih (n - 1) (by omega) (v + 1) _ _ _ _ (by first | rfl | assumption) (by first | rfl | assumption) (by omega) (by omega) (fun u u0 u1 => ?_) ((hf.wa (by decide)).wa (by decide))
            rw [wr_nf (nm_ne3 (show 29 ≠ 28 by decide)), upI_wr, upI_wr, wr_nf (nm_ne3 (show 28 ≠ 29 by decide))]
            unfold upI
            by_cases z : u = v
            · rw [if_pos z, if_pos z, z]
              first
              | exact ⟨by rw [ws0]; unfold fiS; rw [if_pos hin], fun q => absurd hin q⟩
              | exact ⟨by rw [ws0]; unfold fiS; rw [if_neg hns]; omega, fun _ => hy⟩
            · rw [if_neg z, if_neg z]; exact hu u u0 (by omega)
    · have hin : S 0 v = -2 := by omega
      refine go_aload_n dX8_laysFine_22 rfl rfl ?_
      refine g8_53 dX8_laysFine_23 ?_
      refine go_iload_n dX8_laysFine_26 rfl ?_
      refine go_iconst dX8_laysFine_27 (R32_lit rfl) ?_
      refine go_iast dX8_laysFine_28 rfl (by omega) (by omega) ?_
      refine go_aload_n dX8_laysFine_29 rfl rfl ?_
      refine g8_50 dX8_laysFine_30 ?_
      refine go_iload_n dX8_laysFine_33 rfl ?_
      refine go_iconst dX8_laysFine_34 (R32_lit rfl) ?_
      refine go_iast dX8_laysFine_35 rfl (by omega) (by omega) ?_
      refine go_goto (tgt := 142) dX8_laysFine_36 rfl ?_
      refine go_iinc1c dX8_laysFine_142 rfl rfl ⟨by omega, by omega⟩ ?_
      refine go_goto (tgt := 2) dX8_laysFine_145 rfl ?_
      refine ih (n - 1) (by omega) (v + 1) _ _ _ _ (by first | rfl | assumption) (by first | rfl | assumption) (by omega) (by omega) (fun u u0 u1 => ?_) ((hf.wa (by decide)).wa (by decide))
      rw [wr_nf (nm_ne3 (show 29 ≠ 28 by decide)), upI_wr, upI_wr, wr_nf (nm_ne3 (show 28 ≠ 29 by decide))]
      unfold upI
      by_cases z : u = v
      · rw [if_pos z, if_pos z, z]
        first
        | exact ⟨by rw [ws0]; unfold fiS; rw [if_pos hin], fun q => absurd hin q⟩
        | exact ⟨by rw [ws0]; unfold fiS; rw [if_neg hns]; omega, fun _ => hy⟩
      · rw [if_neg z, if_neg z]; exact hu u u0 (by omega)
set_option maxRecDepth 100000 in
set_option maxHeartbeats 4000000 in
theorem ct_X8_laysFine {E : Ev} {M : Mm} {N : Nn} {S : Pg} (hQ : QR S M) (hw : ∀ v, 0 ≤ v → v < S 11 0 → WFr S v ∧ S 5 v = fiS S v) (h5 : ∀ v, 0 ≤ v → v < S 11 0 → 0 ≤ S 5 v ∧ S 5 v ≤ 8) : Ct E yX8_laysFine cX8_laysFine 5 (none) (rmH 2) [vr (29, 0, 0)] M N (qv (fun M1 N1 => (∀ v, 0 ≤ v → v < S 11 0 → M1 (30, 0, 28) v = S 5 v ∧ (S 0 v ≠ -2 → M1 (30, 0, 29) v = rfS S (S 5) v)) ∧ Kr [] [28, 29] M M1 ∧ N = N1)) := by
  refine ct_of (own := RX8) (L0 := [vr (29, 0, 0), vn, vn, vn, vn]) rfl (by decide +kernel) rfl rfl ?_
  refine go_iconst dX8_laysFine_0 (R32_lit rfl) ?_
  refine go_ist1 dX8_laysFine_1 rfl rfl ?_
  have c0 := hQ.2.1
  exact lp_X8_laysFine hQ hw h5 (S 11 0).toNat 0 vn vn vn M rfl rfl (by omega) (by omega) (fun u u0 u1 => absurd u1 (by omega)) Kr.rf
