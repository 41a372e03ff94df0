/-- what stands before the rounding -/
def LSx (S : Pg) (ψ : Int → FV) (ν : Nu) (v : Int) (M M1 : Mm) (ψ1 : Int → FV) : Prop := FQ M1 ψ1 (stN S (tN ψ) ν v) ∧ ψ1 v = stV S (tN ψ) ν v ∧ ψ1 (15 + v) = stD S (tN ψ) ν v ∧ (∀ j, 0 ≤ j → j < 30 → j ≠ v → j ≠ 15 + v → ψ1 j = ψ j) ∧ ((S 0 v = 3 → M1 (30, 0, 40) v = stM S (tN ψ) v) ∧ ∀ j, j ≠ v → M1 (30, 0, 40) j = M (30, 0, 40) j) ∧ M1 (29, 0, 0) 37 = v ∧ Kr [34, 37, 42] [33, 35, 36, 40, 41] M M1
def NEp (S : Pg) (ψ : Int → FV) (v : Int) : Prop := S 0 v = 3 → 1 ≤ (pkV (tsT S (tN ψ) v) (vA S (tN ψ) v 2) (vA S (tN ψ) v 3)).length ∧ 1 ≤ (pkD (tsT S (tN ψ) v) (tsU S (tN ψ) v) (vA S (tN ψ) v 2) (vA S (tN ψ) v 3) (dA S (tN ψ) v 2) (dA S (tN ψ) v 3)).length
set_option maxRecDepth 100000 in
set_option maxHeartbeats 4000000 in
theorem ls_tail {E : Ev} {M M3 : Mm} {N : Nn} {ψ ψ3 : Int → FV} {ν : Nu} {S : Pg} {v : Int} {x2 x3 : Vv} (v0 : 0 ≤ v) (v1 : v < 15) (g5 : S 4 v ≤ 8) (hn : ν.1 + 5 ≤ 63) (hR : M (30, 0, 29) v = rfS S (S 5) v) (h8 : M (30, 0, 8) v = S 4 v) (r0 : 0 ≤ rfS S (S 5) v) (L3 : LSx S ψ ν v M M3 ψ3) : Go E RX8 cX8_laysStep 4 (none) (rmH 6) 0 0 (zM E (qv (fun M1 N1 => ∃ ψ1, FQ M1 ψ1 (bnu (stN S (tN ψ) ν v) (rnC S (S 5) v) v 3) ∧ ψ1 v = (stV S (tN ψ) ν v) ∧ ψ1 (15 + v) = bfo (stN S (tN ψ) ν v) (stD S (tN ψ) ν v) (rnC S (S 5) v) ∧ (∀ j, 0 ≤ j → j < 30 → j ≠ v → j ≠ 15 + v → ψ1 j = ψ j) ∧ ((S 0 v = 3 → M1 (30, 0, 40) v = stM S (tN ψ) v) ∧ ∀ j, j ≠ v → M1 (30, 0, 40) j = M (30, 0, 40) j) ∧ Kr [34, 37, 42] [33, 35, 36, 40, 41] M M1 ∧ N = N1))) 103 [vr (29, 0, 0), vi v, x2, x3] [] M3 N := by
  obtain ⟨G1, G2, G3, G4, G5, G6, G7⟩ := L3
  refine go_aload_n dX8_laysStep_103 rfl rfl ?_
  refine g8_53 dX8_laysStep_104 ?_
  refine go_iload_n dX8_laysStep_107 rfl ?_
  refine go_iald dX8_laysStep_108 rfl (by omega) (by omega) ?_
  rw [G7.a 29 (by decide), hR]
  refine go_aload_n dX8_laysStep_109 rfl rfl ?_
  refine g8_22 dX8_laysStep_110 ?_
  refine go_iload_n dX8_laysStep_113 rfl ?_
  refine go_iald dX8_laysStep_114 rfl (by omega) (by omega) ?_
  rw [G7.a 8 (by decide), h8]
  refine go_icmp_ge (tgt := 137) dX8_laysStep_115 rfl (fun h115 => ?_) (fun h115 => ?_)
  · refine go_retv dX8_laysStep_137 ?_
    all_goals first
    | (have rc : rnC S (S 5) v = 0 := by unfold rnC; rw [if_neg (by omega)]
       refine ⟨ψ3, ?_, G2, ?_, G4, G5, G7, rfl⟩
       · rw [rc]; unfold bnu; rw [if_pos rfl]; exact G1
       · rw [rc]; unfold bfo; rw [if_pos rfl]; exact G3)
    | (obtain ⟨q6, f6, rfl⟩ := hq6
       rw [G3, G6] at q6
       refine ⟨upF ψ3 (15 + v) (fno (stD S (tN ψ) ν v) (stN S (tN ψ) ν v).1 (p2 (S 4 v - 1))), ?_, ?_, ?_, ?_, ?_, G7.tr (f6.up (by decide) (by decide)), rfl⟩
       · rw [rc]; unfold bnu; rw [if_neg (by omega)]; exact q6
       · rw [upF_ne (by omega)]; exact G2
       · rw [upF_eq, rc]; unfold bfo; rw [if_neg (by omega)]
       · intro j j0 j1 j2 j3
         rw [upF_ne j3]; exact G4 j j0 j1 j2 j3
       · rw [f6.a 40 (by decide)]; exact G5)
  · have rc : rnC S (S 5) v = p2 (S 4 v - 1) := by unfold rnC; rw [if_pos (by omega)]
    have p2b := p2_bd (k := S 4 v - 1) (by omega) (by omega)
    refine go_aload_n dX8_laysStep_118 rfl rfl ?_
    refine go_bipush dX8_laysStep_119 ⟨by decide, by decide⟩ ?_
    refine go_iload_n dX8_laysStep_121 rfl ?_
    refine go_iaddc dX8_laysStep_122 ⟨by omega, by omega⟩ ?_
    refine go_lconst (x := 1) dX8_laysStep_123 rfl ?_
    refine go_aload_n dX8_laysStep_124 rfl rfl ?_
    refine g8_22 dX8_laysStep_125 ?_
    refine go_iload_n dX8_laysStep_128 rfl ?_
    refine go_iald dX8_laysStep_129 rfl (by omega) (by omega) ?_
    rw [G7.a 8 (by decide), h8]
    refine go_iconst dX8_laysStep_130 (R32_lit rfl) ?_
    refine go_isubc dX8_laysStep_131 ⟨by omega, by omega⟩ ?_
    refine go_lshl dX8_laysStep_132 ?_
    rw [lshl_p2 (by omega) (by omega)]
    refine go_iconst dX8_laysStep_133 (R32_lit rfl) ?_
    refine v8_368 dX8_laysStep_134 rfl ⟨rfl, rfl⟩ ⟨rfl, rfl⟩ (ct_X8_brings G1 (by omega) (by omega) (by have := stN_le (S := S) (φ := tN ψ) (ν := ν) (v := v); omega)) (fun M6 N6 hq6 => ?_)
    refine go_retv dX8_laysStep_137 ?_
    all_goals first
    | (have rc : rnC S (S 5) v = 0 := by unfold rnC; rw [if_neg (by omega)]
       refine ⟨ψ3, ?_, G2, ?_, G4, G5, G7, rfl⟩
       · rw [rc]; unfold bnu; rw [if_pos rfl]; exact G1
       · rw [rc]; unfold bfo; rw [if_pos rfl]; exact G3)
    | (obtain ⟨q6, f6, rfl⟩ := hq6
       rw [G3, G6] at q6
       refine ⟨upF ψ3 (15 + v) (fno (stD S (tN ψ) ν v) (stN S (tN ψ) ν v).1 (p2 (S 4 v - 1))), ?_, ?_, ?_, ?_, ?_, G7.tr (f6.up (by decide) (by decide)), rfl⟩
       · rw [rc]; unfold bnu; rw [if_neg (by omega)]; exact q6
       · rw [upF_ne (by omega)]; exact G2
       · rw [upF_eq, rc]; unfold bfo; rw [if_neg (by omega)]
       · intro j j0 j1 j2 j3
         rw [upF_ne j3]; exact G4 j j0 j1 j2 j3
       · rw [f6.a 40 (by decide)]; exact G5)
theorem k2a40 {M Ma M1 M2 : Mm} {K : List Int} (fa : Kr K [] M Ma) (f1 : Kr [] [33] Ma M1) (f2 : Kr [] [33] M1 M2) : M2 (30, 0, 40) = M (30, 0, 40) := by rw [f2.a 40 (by decide), f1.a 40 (by decide), fa.a 40 (by decide)]
set_option maxRecDepth 100000 in
set_option maxHeartbeats 4000000 in
theorem ct_X8_laysStep {E : Ev} {M : Mm} {N : Nn} {ψ : Int → FV} {ν : Nu} {S : Pg} {n v : Int} (hF : FQ M ψ ν) (hP : PR 0 n S M) (v0 : 0 ≤ v) (v1 : v < n) (n5 : n ≤ 15) (hs : S 0 v ≠ -2) (w : WFr S v) (hn : ν.1 + 5 ≤ 63) (hR : M (30, 0, 29) v = rfS S (S 5) v) (h8 : M (30, 0, 8) v = S 4 v) (r0 : 0 ≤ rfS S (S 5) v) (hNE : NEp S ψ v) : Ct E yX8_laysStep cX8_laysStep 4 (none) (rmH 6) [vr (29, 0, 0), vi v] M N (qv (fun M1 N1 => ∃ ψ1, FQ M1 ψ1 (bnu (stN S (tN ψ) ν v) (rnC S (S 5) v) v 3) ∧ ψ1 v = (stV S (tN ψ) ν v) ∧ ψ1 (15 + v) = bfo (stN S (tN ψ) ν v) (stD S (tN ψ) ν v) (rnC S (S 5) v) ∧ (∀ j, 0 ≤ j → j < 30 → j ≠ v → j ≠ 15 + v → ψ1 j = ψ j) ∧ ((S 0 v = 3 → M1 (30, 0, 40) v = stM S (tN ψ) v) ∧ ∀ j, j ≠ v → M1 (30, 0, 40) j = M (30, 0, 40) j) ∧ Kr [34, 37, 42] [33, 35, 36, 40, 41] M M1 ∧ N = N1)) := by
  refine ct_of (own := RX8) (L0 := [vr (29, 0, 0), vi v, vn, vn]) rfl (by decide +kernel) rfl rfl ?_
  have ww := (w.2 hs).2.2.2.2
  have og := opn_ge S v
  have gs := w.2 hs
  refine go_aload_n dX8_laysStep_0 rfl rfl ?_
  refine go_iload_n dX8_laysStep_1 rfl ?_
  refine p8_365 dX8_laysStep_2 ?_
  refine go_nmM (fun Ma eMa => ?_)
  have fa : Kr [37] [] M Ma := by rw [eMa]; exact Kr.rf.ws (by decide)
  have la : Ma (29, 0, 0) 37 = v := by rw [eMa, wr_eq]
  clear eMa
  have Fa := hF.k fa (by decide) (by decide) (by decide) (by decide)
  have Pa : PR 0 n S Ma := hP.k (fa.a 7 (by decide)) (fa.a 8 (by decide)) (fa.a 9 (by decide)) (fa.a 10 (by decide)) (fa.a 11 (by decide)) (fa.a 12 (by decide))
  refine go_aload_n dX8_laysStep_5 rfl rfl ?_
  refine go_iload_n dX8_laysStep_6 rfl ?_
  refine go_iconst dX8_laysStep_7 (R32_lit rfl) ?_
  refine go_bipush dX8_laysStep_8 ⟨by decide, by decide⟩ ?_
  refine go_bipush dX8_laysStep_10 ⟨by decide, by decide⟩ ?_
  refine v8_396 dX8_laysStep_12 rfl ⟨rfl, rfl⟩ ⟨rfl, rfl⟩ (ct_X8_laysOperand Fa Pa v0 v1 n5 hs w (by decide) (by omega) (by decide) (by decide) (by decide) (by decide) (by decide)) (fun M1 N1 hq1 => ?_)
  obtain ⟨q1, f1, rfl⟩ := hq1
  obtain ⟨ψ1, hψ1⟩ : ∃ p, p = upF (upF ψ 30 (vA S (tN ψ) v 0)) 31 (dA S (tN ψ) v 0) := ⟨_, rfl⟩
  rw [← hψ1] at q1
  have P1 : PR 0 n S M1 := Pa.k (f1.a 7 (by decide)) (f1.a 8 (by decide)) (f1.a 9 (by decide)) (f1.a 10 (by decide)) (f1.a 11 (by decide)) (f1.a 12 (by decide))
  have lo1 := vA_lo (ψ := ψ) (ψ' := ψ1) (ww 1 (by decide) (by omega)) (by omega) (fun j j0 j1 => by rw [hψ1, upF_ne (by omega), upF_ne (by omega)])
  refine go_aload_n dX8_laysStep_15 rfl rfl ?_
  refine go_iload_n dX8_laysStep_16 rfl ?_
  refine go_iconst dX8_laysStep_17 (R32_lit rfl) ?_
  refine go_bipush dX8_laysStep_18 ⟨by decide, by decide⟩ ?_
  refine go_bipush dX8_laysStep_20 ⟨by decide, by decide⟩ ?_
  refine v8_396 dX8_laysStep_22 rfl ⟨rfl, rfl⟩ ⟨rfl, rfl⟩ (ct_X8_laysOperand q1 P1 v0 v1 n5 hs w (by decide) (by omega) (by decide) (by decide) (by decide) (by decide) (by decide)) (fun M2 N2 hq2 => ?_)
  obtain ⟨q2, f2, rfl⟩ := hq2
  rw [lo1.1, lo1.2] at q2
  obtain ⟨ψ2, hψ2⟩ : ∃ p, p = upF (upF ψ1 32 (vA S (tN ψ) v 1)) 33 (dA S (tN ψ) v 1) := ⟨_, rfl⟩
  rw [← hψ2] at q2
  have b30 : ψ2 30 = (vA S (tN ψ) v 0) := by rw [hψ2, upF_ne (by decide), upF_ne (by decide), hψ1, upF_ne (by decide), upF_eq]
  have b31 : ψ2 31 = (dA S (tN ψ) v 0) := by rw [hψ2, upF_ne (by decide), upF_ne (by decide), hψ1, upF_eq]
  have b32 : ψ2 32 = (vA S (tN ψ) v 1) := by rw [hψ2, upF_ne (by decide), upF_eq]
  have b33 : ψ2 33 = (dA S (tN ψ) v 1) := by rw [hψ2, upF_eq]
  have lo2 : ∀ j, 0 ≤ j → j < 30 → ψ2 j = ψ j := fun j j0 j1 => by rw [hψ2, upF_ne (by omega), upF_ne (by omega), hψ1, upF_ne (by omega), upF_ne (by omega)]
  have P2 : PR 0 n S M2 := P1.k (f2.a 7 (by decide)) (f2.a 8 (by decide)) (f2.a 9 (by decide)) (f2.a 10 (by decide)) (f2.a 11 (by decide)) (f2.a 12 (by decide))
  have l2 : M2 (29, 0, 0) 37 = v := by rw [f2.s 37 (by decide), f1.s 37 (by decide)]; exact la
  have k2 : Kr [34, 37, 42] [33, 35, 36, 40, 41] M M2 := ((fa.up (by decide) (by decide)).tr (f1.up (by decide) (by decide))).tr (f2.up (by decide) (by decide))
  obtain ⟨s1, s2, -, -⟩ := P2 v v0 v1
  rw [Int.zero_add] at s1 s2
  have m40 : M2 (30, 0, 40) = M (30, 0, 40) := k2a40 fa f1 f2
  refine go_aload_n dX8_laysStep_25 rfl rfl ?_
  refine g8_19 dX8_laysStep_26 ?_
  refine go_iload_n dX8_laysStep_29 rfl ?_
  refine go_iald dX8_laysStep_30 rfl (by omega) (by omega) ?_
  rw [s1]
  refine go_iconst dX8_laysStep_31 (R32_lit rfl) ?_
  refine go_icmp_ne (tgt := 43) dX8_laysStep_32 rfl (fun h32 => ?_) (fun h32 => ?_)
  · refine go_aload_n dX8_laysStep_43 rfl rfl ?_
    refine g8_19 dX8_laysStep_44 ?_
    refine go_iload_n dX8_laysStep_47 rfl ?_
    refine go_iald dX8_laysStep_48 rfl (by omega) (by omega) ?_
    rw [s1]
    refine go_iconst dX8_laysStep_49 (R32_lit rfl) ?_
    refine go_icmp_ne (tgt := 61) dX8_laysStep_50 rfl (fun h50 => ?_) (fun h50 => ?_)
    · refine go_aload_n dX8_laysStep_61 rfl rfl ?_
      refine g8_19 dX8_laysStep_62 ?_
      refine go_iload_n dX8_laysStep_65 rfl ?_
      refine go_iald dX8_laysStep_66 rfl (by omega) (by omega) ?_
      rw [s1]
      have jn77 : ∀ x : Int, x = (sgn S v) → Go E RX8 cX8_laysStep 4 (none) (rmH 6) 0 0 (zM E (qv (fun M1 N1 => ∃ ψ1, FQ M1 ψ1 (bnu (stN S (tN ψ) ν v) (rnC S (S 5) v) v 3) ∧ ψ1 v = (stV S (tN ψ) ν v) ∧ ψ1 (15 + v) = bfo (stN S (tN ψ) ν v) (stD S (tN ψ) ν v) (rnC S (S 5) v) ∧ (∀ j, 0 ≤ j → j < 30 → j ≠ v → j ≠ 15 + v → ψ1 j = ψ j) ∧ ((S 0 v = 3 → M1 (30, 0, 40) v = stM S (tN ψ) v) ∧ ∀ j, j ≠ v → M1 (30, 0, 40) j = M (30, 0, 40) j) ∧ Kr [34, 37, 42] [33, 35, 36, 40, 41] M M1 ∧ N = N1))) 77 [vr (29, 0, 0), vi v, vn, vn] [vl x] M2 N := by
        intro x ex
        obtain ⟨sg, esg0⟩ : ∃ sg, sg = x := ⟨_, rfl⟩
        rw [← esg0]
        have esg : sg = sgn S v := esg0.trans ex
        refine go_lst2 dX8_laysStep_77 rfl rfl ?_
        refine go_aload_n dX8_laysStep_78 rfl rfl ?_
        refine go_iconst dX8_laysStep_79 (R32_lit rfl) ?_
        refine go_iload_n dX8_laysStep_80 rfl ?_
        skip
        refine go_iaddc dX8_laysStep_81 ⟨by omega, by omega⟩ ?_
        rw [Int.zero_add]
        refine go_bipush dX8_laysStep_82 ⟨by decide, by decide⟩ ?_
        refine go_bipush dX8_laysStep_84 ⟨by decide, by decide⟩ ?_
        refine go_lload_n dX8_laysStep_86 rfl ?_
        refine v8_392 dX8_laysStep_87 rfl ⟨rfl, rfl⟩ ⟨rfl, rfl⟩ (ct_X8_sums q2 (by omega) (by omega) (by decide) (by decide) (by decide) (by decide)) (fun M4 N4 hq4 => ?_)
        obtain ⟨q3, f3, rfl⟩ := hq4
        rw [b30, b32] at q3
        obtain ⟨ψ4, hψ4⟩ : ∃ p, p = upF ψ2 v (fad (vA S (tN ψ) v 0) sg (vA S (tN ψ) v 1)) := ⟨_, rfl⟩
        rw [← hψ4] at q3
        have c31 : ψ4 31 = (dA S (tN ψ) v 0) := by rw [hψ4, upF_ne (by omega)]; exact b31
        have c33 : ψ4 33 = (dA S (tN ψ) v 1) := by rw [hψ4, upF_ne (by omega)]; exact b33
        refine go_aload_n dX8_laysStep_90 rfl rfl ?_
        refine go_bipush dX8_laysStep_91 ⟨by decide, by decide⟩ ?_
        refine go_iload_n dX8_laysStep_93 rfl ?_
        refine go_iaddc dX8_laysStep_94 ⟨by omega, by omega⟩ ?_
        refine go_bipush dX8_laysStep_95 ⟨by decide, by decide⟩ ?_
        refine go_bipush dX8_laysStep_97 ⟨by decide, by decide⟩ ?_
        refine go_lload_n dX8_laysStep_99 rfl ?_
        refine v8_392 dX8_laysStep_100 rfl ⟨rfl, rfl⟩ ⟨rfl, rfl⟩ (ct_X8_sums q3 (by omega) (by omega) (by decide) (by decide) (by decide) (by decide)) (fun M5 N5 hq5 => ?_)
        first
        | (obtain ⟨q5, f5, rfl⟩ := hq5
           rw [c31, c33] at q5
           obtain ⟨ψ3, hψ3⟩ : ∃ p, p = upF ψ4 (15 + v) (fad (dA S (tN ψ) v 0) sg (dA S (tN ψ) v 1)) := ⟨_, rfl⟩
           rw [← hψ3] at q5
           have L3 : LSx S ψ ν v M M5 ψ3 := by
             rw [esg] at hψ3 hψ4
             refine ⟨?_, ?_, ?_, fun j j0 j1 j2 j3 => ?_, ⟨fun q => absurd q h50, fun j hj => by rw [f5.a 40 (by decide), f3.a 40 (by decide), m40]⟩, by rw [f5.s 37 (by decide), f3.s 37 (by decide)]; exact l2, (k2.tr (f3.up (by decide) (by decide))).tr (f5.up (by decide) (by decide))⟩
             · unfold stN; rw [if_neg h50, if_neg h32]; exact q5
             · unfold stV; rw [if_neg h50, if_neg h32, hψ3, upF_ne (by omega), hψ4, upF_eq]
             · unfold stD; rw [if_neg h50, if_neg h32, hψ3, upF_eq]
             · rw [hψ3, upF_ne j3, hψ4, upF_ne j2]; exact lo2 j j0 j1
           exact ls_tail v0 (by omega) (by omega) hn hR h8 r0 L3)
        | exact ls_tail v0 (by omega) (by omega) hn hR h8 r0 L3
      refine go_if_ne (tgt := 74) dX8_laysStep_67 rfl (fun h67 => ?_) (fun h67 => ?_)
      · refine c8_400 dX8_laysStep_74 ?_
        exact jn77 _ (by unfold sgn; first | rw [if_pos (by omega)] | rw [if_neg (by omega)])
      · refine go_lconst (x := 1) dX8_laysStep_70 rfl ?_
        refine go_goto (tgt := 77) dX8_laysStep_71 rfl ?_
        exact jn77 _ (by unfold sgn; first | rw [if_pos (by omega)] | rw [if_neg (by omega)])
    · refine go_aload_n dX8_laysStep_53 rfl rfl ?_
      refine go_iload_n dX8_laysStep_54 rfl ?_
      refine v8_419 dX8_laysStep_55 rfl ⟨rfl, rfl⟩ ⟨rfl, rfl⟩ (ct_X8_laysPick q2 P2 v0 v1 n5 hs w h50 b30 b31 b32 b33 (by omega) (by rw [(vA_lo (ψ := ψ) (ψ' := ψ2) (ww 2 (by decide) (by rw [opn_3 h50]; decide)) (by omega) lo2).1, (vA_lo (ψ := ψ) (ψ' := ψ2) (ww 3 (by decide) (by rw [opn_3 h50]; decide)) (by omega) lo2).1]; exact (hNE h50).1) (by rw [(vA_lo (ψ := ψ) (ψ' := ψ2) (ww 2 (by decide) (by rw [opn_3 h50]; decide)) (by omega) lo2).1, (vA_lo (ψ := ψ) (ψ' := ψ2) (ww 3 (by decide) (by rw [opn_3 h50]; decide)) (by omega) lo2).1, (vA_lo (ψ := ψ) (ψ' := ψ2) (ww 2 (by decide) (by rw [opn_3 h50]; decide)) (by omega) lo2).2, (vA_lo (ψ := ψ) (ψ' := ψ2) (ww 3 (by decide) (by rw [opn_3 h50]; decide)) (by omega) lo2).2]; exact (hNE h50).2)) (fun M3 N3 hq3 => ?_)
      obtain ⟨ψ3, q3, e1, e2, e3, e4, f3, rfl⟩ := hq3
      have tt := vA_lo (ψ := ψ) (ψ' := ψ2) (ww 2 (by decide) (by rw [opn_3 h50]; decide)) (by omega) lo2
      have tu := vA_lo (ψ := ψ) (ψ' := ψ2) (ww 3 (by decide) (by rw [opn_3 h50]; decide)) (by omega) lo2
      rw [l2, tt.1, tt.2, tu.1, tu.2] at q3 e2
      rw [tt.1, tu.1] at e1
      have L3 : LSx S ψ ν v M M3 ψ3 := by
        refine ⟨?_, ?_, ?_, fun j j0 j1 j2 j3 => (e3 j j0 j1 j2 j3).trans (lo2 j j0 j1), ⟨fun q => ?_, fun j hj => ?_⟩, by rw [f3.s 37 (by decide)]; exact l2, k2.tr (f3.up (by decide) (by decide))⟩
        · unfold stN; rw [if_pos h50]; exact q3
        · unfold stV; rw [if_pos h50]; exact e1
        · unfold stD; rw [if_pos h50]; exact e2
        · rw [e4]; unfold upI stM; rw [if_pos rfl, if_pos h50]; rfl
        · rw [e4, m40]; unfold upI; rw [if_neg hj]
      clear q3 e1 e2 e3 e4
      refine go_goto (tgt := 103) dX8_laysStep_58 rfl ?_
      first
      | (obtain ⟨q5, f5, rfl⟩ := hq5
         rw [c31, c33] at q5
         obtain ⟨ψ3, hψ3⟩ : ∃ p, p = upF ψ4 (15 + v) (fad (dA S (tN ψ) v 0) sg (dA S (tN ψ) v 1)) := ⟨_, rfl⟩
         rw [← hψ3] at q5
         have L3 : LSx S ψ ν v M M5 ψ3 := by
           rw [esg] at hψ3 hψ4
           refine ⟨?_, ?_, ?_, fun j j0 j1 j2 j3 => ?_, ⟨fun q => absurd q h50, fun j hj => by rw [f5.a 40 (by decide), f3.a 40 (by decide), m40]⟩, by rw [f5.s 37 (by decide), f3.s 37 (by decide)]; exact l2, (k2.tr (f3.up (by decide) (by decide))).tr (f5.up (by decide) (by decide))⟩
           · unfold stN; rw [if_neg h50, if_neg h32]; exact q5
           · unfold stV; rw [if_neg h50, if_neg h32, hψ3, upF_ne (by omega), hψ4, upF_eq]
           · unfold stD; rw [if_neg h50, if_neg h32, hψ3, upF_eq]
           · rw [hψ3, upF_ne j3, hψ4, upF_ne j2]; exact lo2 j j0 j1
         exact ls_tail v0 (by omega) (by omega) hn hR h8 r0 L3)
      | exact ls_tail v0 (by omega) (by omega) hn hR h8 r0 L3
  · refine go_aload_n dX8_laysStep_35 rfl rfl ?_
    refine go_iload_n dX8_laysStep_36 rfl ?_
    refine v8_416 dX8_laysStep_37 rfl ⟨rfl, rfl⟩ ⟨rfl, rfl⟩ (ct_X8_laysTimes q2 v0 (by omega) (by omega) b30 b31 b32 b33) (fun M3 N3 hq3 => ?_)
    obtain ⟨ψ3, q3, e1, e2, e3, f3, rfl⟩ := hq3
    have L3 : LSx S ψ ν v M M3 ψ3 := by
      rw [l2] at q3 e2
      refine ⟨?_, ?_, ?_, fun j j0 j1 j2 j3 => (e3 j j0 j1 j2 j3).trans (lo2 j j0 j1), ⟨fun q => absurd q (by omega), fun j hj => by rw [f3.a 40 (by decide), m40]⟩, by rw [f3.s 37 (by decide)]; exact l2, k2.tr (f3.up (by decide) (by decide))⟩
      · unfold stN; rw [if_neg (by omega), if_pos h32]; exact q3
      · unfold stV; rw [if_neg (by omega), if_pos h32]; exact e1
      · unfold stD; rw [if_neg (by omega), if_pos h32]; exact e2
    clear q3 e1 e2 e3
    refine go_goto (tgt := 103) dX8_laysStep_40 rfl ?_
    first
    | (obtain ⟨q5, f5, rfl⟩ := hq5
       rw [c31, c33] at q5
       obtain ⟨ψ3, hψ3⟩ : ∃ p, p = upF ψ4 (15 + v) (fad (dA S (tN ψ) v 0) sg (dA S (tN ψ) v 1)) := ⟨_, rfl⟩
       rw [← hψ3] at q5
       have L3 : LSx S ψ ν v M M5 ψ3 := by
         rw [esg] at hψ3 hψ4
         refine ⟨?_, ?_, ?_, fun j j0 j1 j2 j3 => ?_, ⟨fun q => absurd q h50, fun j hj => by rw [f5.a 40 (by decide), f3.a 40 (by decide), m40]⟩, by rw [f5.s 37 (by decide), f3.s 37 (by decide)]; exact l2, (k2.tr (f3.up (by decide) (by decide))).tr (f5.up (by decide) (by decide))⟩
         · unfold stN; rw [if_neg h50, if_neg h32]; exact q5
         · unfold stV; rw [if_neg h50, if_neg h32, hψ3, upF_ne (by omega), hψ4, upF_eq]
         · unfold stD; rw [if_neg h50, if_neg h32, hψ3, upF_eq]
         · rw [hψ3, upF_ne j3, hψ4, upF_ne j2]; exact lo2 j j0 j1
       exact ls_tail v0 (by omega) (by omega) hn hR h8 r0 L3)
    | exact ls_tail v0 (by omega) (by omega) hn hR h8 r0 L3
