set_option maxRecDepth 100000 in
set_option maxHeartbeats 4000000 in
theorem ct_X8_about {E : Ev} {M : Mm} {N : Nn} {S : Pg} {W : Int → Bool} {w : Int} (hQ : QR S M) (hW : WF S ∨ S 11 0 = 0) (hB : ∀ v, 0 ≤ v → v < S 11 0 → W v = true) (hNE : ∀ v : Nat, (v : Int) < S 11 0 → NEq S (sK S W v).1 v) : Ct E yX8_about cX8_about 2 ((some .int)) (rmH 9) [vr (29, 0, 0), vi w] M N (qi (fun r M1 N1 => ((S 11 0 ≠ 0 ∧ 0 ≤ w ∧ w ≤ 4) ∧ r = (if w = 0 then S 11 0 else if w = 1 then S 12 0 else if w = 2 then S 11 0 - S 12 0 else if w = 3 then (sK S W (S 11 0).toNat).2.1.1 else w32 (min (ptI S (S 12 0).toNat) 999999999)) ∧ F8 (rfM M 0) M1 ∨ ¬ (S 11 0 ≠ 0 ∧ 0 ≤ w ∧ w ≤ 4) ∧ r = -1 ∧ F8 (rfM M 1) M1) ∧ N = N1)) := by
  refine ct_of (own := RX8) (L0 := [vr (29, 0, 0), vi w]) rfl (by decide +kernel) rfl rfl ?_
  have c6 := hQ.1
  have c5 := hQ.2.2.1
  have c0 := hQ.2.1
  have it := hQ.2.2.2.1
  refine go_aload_n dX8_about_0 rfl rfl ?_
  refine go_aload_n dX8_about_1 rfl rfl ?_
  refine g8_281 dX8_about_2 ?_
  refine go_if_eq (tgt := 24) dX8_about_5 rfl (fun h5 => ?_) (fun h5 => ?_)
  · refine go_iconst dX8_about_24 (R32_lit rfl) ?_
    refine v8_292 dX8_about_25 rfl ⟨rfl, rfl⟩ ⟨rfl, rfl⟩ ct_X8_unless (fun r2 M2 N2 hr2 hq2 => ?_)
    obtain ⟨z2, rfl, rfl⟩ := hq2
    have z2 := bit_iff z2
    refine v8_269 dX8_about_28 rfl ⟨rfl, rfl⟩ ⟨rfl, rfl⟩ ct_X8_isRefused (fun r3 M3 N3 hr3 hq3 => ?_)
    obtain ⟨z3, rfl, rfl⟩ := hq3
    have z3 := bit_iff z3
    refine go_if_eq (tgt := 36) dX8_about_31 rfl (fun h31 => ?_) (fun h31 => ?_)
    · have hok : S 11 0 ≠ 0 ∧ 0 ≤ w ∧ w ≤ 4 := by omega
      have hW2 : WF S := by
        rcases hW with h | h
        · exact h
        · omega
      rw [show r2 = 0 by omega]
      have Q0 := rfM_Q (k := 0) hQ
      refine go_iload_n dX8_about_36 rfl ?_
      by_cases w0 : w = 0
      · refine go_tableIn (tgt := 68) dX8_about_37 (by omega) (by omega) (by rw [w0]; rfl) rfl ?_
        refine go_aload_n dX8_about_68 rfl rfl ?_
        refine g8_259 dX8_about_69 ?_
        rw [Q0.1]
        refine go_reti dX8_about_72 ?_
        refine ⟨Or.inl ⟨hok, ?_, F8.rf⟩, rfl⟩
        rw [if_pos (show w = 0 by omega)]
      by_cases w1 : w = 1
      · refine go_tableIn (tgt := 73) dX8_about_37 (by omega) (by omega) (by rw [w1]; rfl) rfl ?_
        refine go_aload_n dX8_about_73 rfl rfl ?_
        refine v8_296 dX8_about_74 rfl ⟨rfl, rfl⟩ ⟨rfl, rfl⟩ (ct_X8_inputs Q0 hW2) (fun r5 M5 N5 hr5 hq5 => ?_)
        obtain ⟨z5, rfl, rfl⟩ := hq5
        subst z5
        refine go_reti dX8_about_77 ?_
        refine ⟨Or.inl ⟨hok, ?_, F8.rf⟩, rfl⟩
        rw [if_neg (show ¬ w = 0 by omega), if_pos (show w = 1 by omega)]
      by_cases w2 : w = 2
      · refine go_tableIn (tgt := 78) dX8_about_37 (by omega) (by omega) (by rw [w2]; rfl) rfl ?_
        refine go_aload_n dX8_about_78 rfl rfl ?_
        refine g8_259 dX8_about_79 ?_
        rw [Q0.1]
        refine go_aload_n dX8_about_82 rfl rfl ?_
        refine v8_296 dX8_about_83 rfl ⟨rfl, rfl⟩ ⟨rfl, rfl⟩ (ct_X8_inputs Q0 hW2) (fun r6 M6 N6 hr6 hq6 => ?_)
        obtain ⟨z6, rfl, rfl⟩ := hq6
        subst z6
        have g1 := hW2.2.2.1
        have g2 := hW2.2.2.2.1
        refine go_isubc dX8_about_86 ⟨by omega, by omega⟩ ?_
        refine go_reti dX8_about_87 ?_
        refine ⟨Or.inl ⟨hok, ?_, F8.rf⟩, rfl⟩
        rw [if_neg (show ¬ w = 0 by omega), if_neg (show ¬ w = 1 by omega), if_pos (show w = 2 by omega)]
      by_cases w3 : w = 3
      · refine go_tableIn (tgt := 88) dX8_about_37 (by omega) (by omega) (by rw [w3]; rfl) rfl ?_
        refine go_aload_n dX8_about_88 rfl rfl ?_
        refine v8_299 dX8_about_89 rfl ⟨rfl, rfl⟩ ⟨rfl, rfl⟩ (ct_X8_laysForms Q0 hW2 hB hNE) (fun M7 N7 hq7 => ?_)
        obtain ⟨ψ, q1, q2, q3, q4, rfl⟩ := hq7
        have F8k := F8.of q4 (by decide) (by decide)
        refine go_aload_n dX8_about_92 rfl rfl ?_
        refine g8_302 dX8_about_93 ?_
        rw [q1.2.1.1]
        refine go_reti dX8_about_96 ?_
        refine ⟨Or.inl ⟨hok, ?_, F8k⟩, rfl⟩
        rw [if_neg (show ¬ w = 0 by omega), if_neg (show ¬ w = 1 by omega), if_neg (show ¬ w = 2 by omega), if_pos (show w = 3 by omega)]
      refine go_tableOut (tgt := 97) dX8_about_37 (by omega) rfl ?_
      refine go_aload_n dX8_about_97 rfl rfl ?_
      refine v8_305 dX8_about_98 rfl ⟨rfl, rfl⟩ ⟨rfl, rfl⟩ (ct_X8_points Q0 hW2) (fun r8 M8 N8 hr8 hq8 => ?_)
      obtain ⟨z8, rfl, rfl⟩ := hq8
      subst z8
      refine go_l2i dX8_about_101 ?_
      refine go_reti dX8_about_102 ?_
      refine ⟨Or.inl ⟨hok, ?_, F8.rf⟩, rfl⟩
      rw [if_neg (show ¬ w = 0 by omega), if_neg (show ¬ w = 1 by omega), if_neg (show ¬ w = 2 by omega), if_neg (show ¬ w = 3 by omega)]
    · refine go_iconst dX8_about_34 (R32_lit rfl) ?_
      refine go_reti dX8_about_35 ?_
      exact ⟨Or.inr ⟨by omega, rfl, by rw [show r2 = 1 by omega]; exact F8.rf⟩, rfl⟩
  · refine go_iload_n dX8_about_8 rfl ?_
    refine go_i2l dX8_about_9 ?_
    refine go_lconst (x := 0) dX8_about_10 rfl ?_
    refine c8_290 dX8_about_11 ?_
    refine v8_140 dX8_about_14 rfl ⟨rfl, rfl⟩ ⟨rfl, rfl⟩ ct_X8_in (fun r1 M1 N1 hr1 hq1 => ?_)
    obtain ⟨z1, rfl, rfl⟩ := hq1
    have z1 := bit_iff z1
    refine go_if_eq (tgt := 24) dX8_about_17 rfl (fun h17 => ?_) (fun h17 => ?_)
    · refine go_iconst dX8_about_24 (R32_lit rfl) ?_
      refine v8_292 dX8_about_25 rfl ⟨rfl, rfl⟩ ⟨rfl, rfl⟩ ct_X8_unless (fun r2 M2 N2 hr2 hq2 => ?_)
      obtain ⟨z2, rfl, rfl⟩ := hq2
      have z2 := bit_iff z2
      refine v8_269 dX8_about_28 rfl ⟨rfl, rfl⟩ ⟨rfl, rfl⟩ ct_X8_isRefused (fun r3 M3 N3 hr3 hq3 => ?_)
      obtain ⟨z3, rfl, rfl⟩ := hq3
      have z3 := bit_iff z3
      refine go_if_eq (tgt := 36) dX8_about_31 rfl (fun h31 => ?_) (fun h31 => ?_)
      · have hok : S 11 0 ≠ 0 ∧ 0 ≤ w ∧ w ≤ 4 := by omega
        have hW2 : WF S := by
          rcases hW with h | h
          · exact h
          · omega
        rw [show r2 = 0 by omega]
        have Q0 := rfM_Q (k := 0) hQ
        refine go_iload_n dX8_about_36 rfl ?_
        by_cases w0 : w = 0
        · refine go_tableIn (tgt := 68) dX8_about_37 (by omega) (by omega) (by rw [w0]; rfl) rfl ?_
          refine go_aload_n dX8_about_68 rfl rfl ?_
          refine g8_259 dX8_about_69 ?_
          rw [Q0.1]
          refine go_reti dX8_about_72 ?_
          refine ⟨Or.inl ⟨hok, ?_, F8.rf⟩, rfl⟩
          rw [if_pos (show w = 0 by omega)]
        by_cases w1 : w = 1
        · refine go_tableIn (tgt := 73) dX8_about_37 (by omega) (by omega) (by rw [w1]; rfl) rfl ?_
          refine go_aload_n dX8_about_73 rfl rfl ?_
          refine v8_296 dX8_about_74 rfl ⟨rfl, rfl⟩ ⟨rfl, rfl⟩ (ct_X8_inputs Q0 hW2) (fun r5 M5 N5 hr5 hq5 => ?_)
          obtain ⟨z5, rfl, rfl⟩ := hq5
          subst z5
          refine go_reti dX8_about_77 ?_
          refine ⟨Or.inl ⟨hok, ?_, F8.rf⟩, rfl⟩
          rw [if_neg (show ¬ w = 0 by omega), if_pos (show w = 1 by omega)]
        by_cases w2 : w = 2
        · refine go_tableIn (tgt := 78) dX8_about_37 (by omega) (by omega) (by rw [w2]; rfl) rfl ?_
          refine go_aload_n dX8_about_78 rfl rfl ?_
          refine g8_259 dX8_about_79 ?_
          rw [Q0.1]
          refine go_aload_n dX8_about_82 rfl rfl ?_
          refine v8_296 dX8_about_83 rfl ⟨rfl, rfl⟩ ⟨rfl, rfl⟩ (ct_X8_inputs Q0 hW2) (fun r6 M6 N6 hr6 hq6 => ?_)
          obtain ⟨z6, rfl, rfl⟩ := hq6
          subst z6
          have g1 := hW2.2.2.1
          have g2 := hW2.2.2.2.1
          refine go_isubc dX8_about_86 ⟨by omega, by omega⟩ ?_
          refine go_reti dX8_about_87 ?_
          refine ⟨Or.inl ⟨hok, ?_, F8.rf⟩, rfl⟩
          rw [if_neg (show ¬ w = 0 by omega), if_neg (show ¬ w = 1 by omega), if_pos (show w = 2 by omega)]
        by_cases w3 : w = 3
        · refine go_tableIn (tgt := 88) dX8_about_37 (by omega) (by omega) (by rw [w3]; rfl) rfl ?_
          refine go_aload_n dX8_about_88 rfl rfl ?_
          refine v8_299 dX8_about_89 rfl ⟨rfl, rfl⟩ ⟨rfl, rfl⟩ (ct_X8_laysForms Q0 hW2 hB hNE) (fun M7 N7 hq7 => ?_)
          obtain ⟨ψ, q1, q2, q3, q4, rfl⟩ := hq7
          have F8k := F8.of q4 (by decide) (by decide)
          refine go_aload_n dX8_about_92 rfl rfl ?_
          refine g8_302 dX8_about_93 ?_
          rw [q1.2.1.1]
          refine go_reti dX8_about_96 ?_
          refine ⟨Or.inl ⟨hok, ?_, F8k⟩, rfl⟩
          rw [if_neg (show ¬ w = 0 by omega), if_neg (show ¬ w = 1 by omega), if_neg (show ¬ w = 2 by omega), if_pos (show w = 3 by omega)]
        refine go_tableOut (tgt := 97) dX8_about_37 (by omega) rfl ?_
        refine go_aload_n dX8_about_97 rfl rfl ?_
        refine v8_305 dX8_about_98 rfl ⟨rfl, rfl⟩ ⟨rfl, rfl⟩ (ct_X8_points Q0 hW2) (fun r8 M8 N8 hr8 hq8 => ?_)
        obtain ⟨z8, rfl, rfl⟩ := hq8
        subst z8
        refine go_l2i dX8_about_101 ?_
        refine go_reti dX8_about_102 ?_
        refine ⟨Or.inl ⟨hok, ?_, F8.rf⟩, rfl⟩
        rw [if_neg (show ¬ w = 0 by omega), if_neg (show ¬ w = 1 by omega), if_neg (show ¬ w = 2 by omega), if_neg (show ¬ w = 3 by omega)]
      · refine go_iconst dX8_about_34 (R32_lit rfl) ?_
        refine go_reti dX8_about_35 ?_
        exact ⟨Or.inr ⟨by omega, rfl, by rw [show r2 = 1 by omega]; exact F8.rf⟩, rfl⟩
    · refine go_iconst dX8_about_20 (R32_lit rfl) ?_
      refine go_goto (tgt := 25) dX8_about_21 rfl ?_
      refine v8_292 dX8_about_25 rfl ⟨rfl, rfl⟩ ⟨rfl, rfl⟩ ct_X8_unless (fun r2 M2 N2 hr2 hq2 => ?_)
      obtain ⟨z2, rfl, rfl⟩ := hq2
      have z2 := bit_iff z2
      refine v8_269 dX8_about_28 rfl ⟨rfl, rfl⟩ ⟨rfl, rfl⟩ ct_X8_isRefused (fun r3 M3 N3 hr3 hq3 => ?_)
      obtain ⟨z3, rfl, rfl⟩ := hq3
      have z3 := bit_iff z3
      refine go_if_eq (tgt := 36) dX8_about_31 rfl (fun h31 => ?_) (fun h31 => ?_)
      · have hok : S 11 0 ≠ 0 ∧ 0 ≤ w ∧ w ≤ 4 := by omega
        have hW2 : WF S := by
          rcases hW with h | h
          · exact h
          · omega
        rw [show r2 = 0 by omega]
        have Q0 := rfM_Q (k := 0) hQ
        refine go_iload_n dX8_about_36 rfl ?_
        by_cases w0 : w = 0
        · refine go_tableIn (tgt := 68) dX8_about_37 (by omega) (by omega) (by rw [w0]; rfl) rfl ?_
          refine go_aload_n dX8_about_68 rfl rfl ?_
          refine g8_259 dX8_about_69 ?_
          rw [Q0.1]
          refine go_reti dX8_about_72 ?_
          refine ⟨Or.inl ⟨hok, ?_, F8.rf⟩, rfl⟩
          rw [if_pos (show w = 0 by omega)]
        by_cases w1 : w = 1
        · refine go_tableIn (tgt := 73) dX8_about_37 (by omega) (by omega) (by rw [w1]; rfl) rfl ?_
          refine go_aload_n dX8_about_73 rfl rfl ?_
          refine v8_296 dX8_about_74 rfl ⟨rfl, rfl⟩ ⟨rfl, rfl⟩ (ct_X8_inputs Q0 hW2) (fun r5 M5 N5 hr5 hq5 => ?_)
          obtain ⟨z5, rfl, rfl⟩ := hq5
          subst z5
          refine go_reti dX8_about_77 ?_
          refine ⟨Or.inl ⟨hok, ?_, F8.rf⟩, rfl⟩
          rw [if_neg (show ¬ w = 0 by omega), if_pos (show w = 1 by omega)]
        by_cases w2 : w = 2
        · refine go_tableIn (tgt := 78) dX8_about_37 (by omega) (by omega) (by rw [w2]; rfl) rfl ?_
          refine go_aload_n dX8_about_78 rfl rfl ?_
          refine g8_259 dX8_about_79 ?_
          rw [Q0.1]
          refine go_aload_n dX8_about_82 rfl rfl ?_
          refine v8_296 dX8_about_83 rfl ⟨rfl, rfl⟩ ⟨rfl, rfl⟩ (ct_X8_inputs Q0 hW2) (fun r6 M6 N6 hr6 hq6 => ?_)
          obtain ⟨z6, rfl, rfl⟩ := hq6
          subst z6
          have g1 := hW2.2.2.1
          have g2 := hW2.2.2.2.1
          refine go_isubc dX8_about_86 ⟨by omega, by omega⟩ ?_
          refine go_reti dX8_about_87 ?_
          refine ⟨Or.inl ⟨hok, ?_, F8.rf⟩, rfl⟩
          rw [if_neg (show ¬ w = 0 by omega), if_neg (show ¬ w = 1 by omega), if_pos (show w = 2 by omega)]
        by_cases w3 : w = 3
        · refine go_tableIn (tgt := 88) dX8_about_37 (by omega) (by omega) (by rw [w3]; rfl) rfl ?_
          refine go_aload_n dX8_about_88 rfl rfl ?_
          refine v8_299 dX8_about_89 rfl ⟨rfl, rfl⟩ ⟨rfl, rfl⟩ (ct_X8_laysForms Q0 hW2 hB hNE) (fun M7 N7 hq7 => ?_)
          obtain ⟨ψ, q1, q2, q3, q4, rfl⟩ := hq7
          have F8k := F8.of q4 (by decide) (by decide)
          refine go_aload_n dX8_about_92 rfl rfl ?_
          refine g8_302 dX8_about_93 ?_
          rw [q1.2.1.1]
          refine go_reti dX8_about_96 ?_
          refine ⟨Or.inl ⟨hok, ?_, F8k⟩, rfl⟩
          rw [if_neg (show ¬ w = 0 by omega), if_neg (show ¬ w = 1 by omega), if_neg (show ¬ w = 2 by omega), if_pos (show w = 3 by omega)]
        refine go_tableOut (tgt := 97) dX8_about_37 (by omega) rfl ?_
        refine go_aload_n dX8_about_97 rfl rfl ?_
        refine v8_305 dX8_about_98 rfl ⟨rfl, rfl⟩ ⟨rfl, rfl⟩ (ct_X8_points Q0 hW2) (fun r8 M8 N8 hr8 hq8 => ?_)
        obtain ⟨z8, rfl, rfl⟩ := hq8
        subst z8
        refine go_l2i dX8_about_101 ?_
        refine go_reti dX8_about_102 ?_
        refine ⟨Or.inl ⟨hok, ?_, F8.rf⟩, rfl⟩
        rw [if_neg (show ¬ w = 0 by omega), if_neg (show ¬ w = 1 by omega), if_neg (show ¬ w = 2 by omega), if_neg (show ¬ w = 3 by omega)]
      · refine go_iconst dX8_about_34 (R32_lit rfl) ?_
        refine go_reti dX8_about_35 ?_
        exact ⟨Or.inr ⟨by omega, rfl, by rw [show r2 = 1 by omega]; exact F8.rf⟩, rfl⟩
