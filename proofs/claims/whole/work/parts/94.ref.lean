/-- inputs by their places in the row -/
theorem in_ix {S : Pg} (h : WF S) : ∀ v : Nat, (v : Int) ≤ S 11 0 → 0 ≤ cnS S v ∧ cnS S v ≤ v ∧ (v : Int) - cnS S v ≤ S 12 0 ∧ (∀ i, 0 ≤ i → i < (v : Int) - cnS S v → S 10 i < v) ∧ ∀ i, (v : Int) - cnS S v ≤ i → i < S 12 0 → (v : Int) ≤ S 10 i
  | 0, _ => ⟨Int.le_refl 0, Int.le_refl 0, by show (0 : Int) - 0 ≤ _; have := h.2.2.1; omega, fun i i0 i1 => absurd i1 (by show ¬ i < (0 : Int) - 0; omega), fun i i0 i1 => (h.2.2.2.2.2.2.2.1 i (by have : (0 : Int) - 0 ≤ i := i0; omega) i1).1⟩
  | v + 1, hv => by
    obtain ⟨c1, c2, c3, c4, c5⟩ := in_ix h v (by omega)
    obtain ⟨w1, w2, w3⟩ := h.2.2.2.2.2.2.2
    have e : cnS S (v + 1) = if S 0 v ≠ -2 then cnS S v + 1 else cnS S v := rfl
    rw [e]
    by_cases q : S 0 v = -2
    · rw [if_neg (fun z => z q)]
      obtain ⟨j, j0, j1, j2⟩ := w2 v (by omega) (by omega) q
      have j3 : (v : Int) - cnS S v ≤ j := by
        by_cases z : (v : Int) - cnS S v ≤ j
        · exact z
        · have := c4 j j0 (by omega); omega
      have j4 : j = (v : Int) - cnS S v := by
        by_cases z : j = (v : Int) - cnS S v
        · exact z
        · have a := w3 ((v : Int) - cnS S v) j (by omega) (by omega) j1
          have c := c5 ((v : Int) - cnS S v) (by omega) (by omega)
          omega
      refine ⟨c1, by omega, by omega, fun i i0 i1 => ?_, fun i i0 i1 => ?_⟩
      · by_cases z : i = j
        · rw [z]; omega
        · have := c4 i i0 (by omega); omega
      · have := w3 j i j0 (by omega) i1
        omega
    · rw [if_pos q]
      refine ⟨by omega, by omega, by omega, fun i i0 i1 => ?_, fun i i0 i1 => ?_⟩
      · have := c4 i i0 (by omega); omega
      · have a := c5 i (by omega) i1
        have c := (w1 i (by omega) i1).2.2
        by_cases z : S 10 i = v
        · rw [z] at c; exact absurd c q
        · omega
theorem in_at {S : Pg} (h : WF S) {v : Int} (v0 : 0 ≤ v) (v1 : v < S 11 0) (q : S 0 v = -2) : 0 ≤ v - cnS S v.toNat ∧ v - cnS S v.toNat < S 12 0 ∧ S 10 (v - cnS S v.toNat) = v := by
  obtain ⟨c1, c2, c3, c4, c5⟩ := in_ix h v.toNat (by omega)
  rw [Int.toNat_of_nonneg v0] at *
  obtain ⟨w1, w2, w3⟩ := h.2.2.2.2.2.2.2
  obtain ⟨j, j0, j1, j2⟩ := w2 v v0 v1 q
  have j3 : v - cnS S v.toNat ≤ j := by
    by_cases z : v - cnS S v.toNat ≤ j
    · exact z
    · have := c4 j j0 (by omega); omega
  have j4 : j = v - cnS S v.toNat := by
    by_cases z : j = v - cnS S v.toNat
    · exact z
    · have a := w3 (v - cnS S v.toNat) j (by omega) (by omega) j1
      have c := c5 (v - cnS S v.toNat) (by omega) (by omega)
      omega
  rw [← j4]
  exact ⟨j0, j1, j2⟩
theorem WF.iw {S : Pg} (h : WF S) : IW S := by
  refine ⟨h.2.2.1, h.2.2.2.1, fun i i0 i1 => ?_⟩
  obtain ⟨b1, b2, b3⟩ := h.2.2.2.2.2.2.2.1 i i0 i1
  obtain ⟨c1, c2, c3⟩ := (h.2.2.2.2.2.2.1 (S 10 i) b1 b2).1.1 b3
  exact ⟨b1, b2, h.2.1, c1, c2, c3⟩
/-- points by the variables -/
def ptV (S : Pg) (v : Nat) : Int := ptI S ((v : Int) - cnS S v).toNat
theorem ptV_s {S : Pg} (h : WF S) {v : Nat} (v1 : (v : Int) < S 11 0) : ptV S (v + 1) = if S 0 v = -2 then ptV S v * (S 3 v - S 2 v + 1) else ptV S v := by
  obtain ⟨c1, c2, c3, -⟩ := in_ix h v (by omega)
  unfold ptV
  have e : cnS S (v + 1) = if S 0 v ≠ -2 then cnS S v + 1 else cnS S v := rfl
  rw [e]
  by_cases q : S 0 v = -2
  · rw [if_neg (fun z => z q), if_pos q, show (((v + 1 : Nat) : Int) - cnS S v).toNat = ((v : Int) - cnS S v).toNat + 1 by omega]
    obtain ⟨i1, i2, i3⟩ := in_at h (v := v) (by omega) v1 q
    rw [Int.toNat_natCast] at i1 i2 i3
    have f : ∀ k : Nat, ptI S (k + 1) = ptI S k * (S 3 (S 10 k) - S 2 (S 10 k) + 1) := fun _ => rfl
    rw [f, Int.toNat_of_nonneg i1, i3]
  · rw [if_pos q, if_neg q, show ((v + 1 : Nat) : Int) - (cnS S v + 1) = (v : Int) - cnS S v by omega]
set_option maxRecDepth 100000 in
set_option maxHeartbeats 4000000 in
theorem lp_X8_inputs {E : Ev} {M : Mm} {N : Nn} {S : Pg} (hQ : QR S M) (hW : WF S) : ∀ (n : Nat) (v x : Int), (v + n = S 11 0) → (0 ≤ v) → (x = v - cnS S v.toNat) → Go E RX8 cX8_inputs 3 ((some .int)) (rmH 2) 0 0 (zM E (qi (fun r M1 N1 => r = S 12 0 ∧ M = M1 ∧ N = N1))) 4 [vr (29, 0, 0), vi x, vi v] [] M N := by
  intro n
  induction n using Nat.strongRecOn with
  | ind n ih =>
  intro v x hn v0 hx
  have c6 := hQ.1
  have c5 := hQ.2.2.1
  have c0 := hQ.2.1
  refine go_iload_n dX8_inputs_4 rfl ?_
  refine go_aload_n dX8_inputs_5 rfl rfl ?_
  refine g8_259 dX8_inputs_6 ?_
  rw [c6]
  refine go_icmp_ge (tgt := 38) dX8_inputs_9 rfl (fun h9 => ?_) (fun h9 => ?_)
  · refine go_iload_n dX8_inputs_38 rfl ?_
    refine go_reti dX8_inputs_39 ?_
    refine ⟨?_, rfl, rfl⟩
    have := hW.2.2.2.2.1
    rw [show (S 11 0).toNat = v.toNat by omega] at this
    omega
  · have c7 : v < S 11 0 := by omega
    have ix := in_ix hW v.toNat (by omega)
    have es : cnS S (v + 1).toNat = if S 0 v ≠ -2 then cnS S v.toNat + 1 else cnS S v.toNat := by rw [show (v + 1).toNat = v.toNat + 1 by omega]; show (if S 0 (v.toNat : Int) ≠ -2 then _ else _) = _; rw [Int.toNat_of_nonneg v0]
    refine go_iload_n dX8_inputs_12 rfl ?_
    refine go_aload_n dX8_inputs_13 rfl rfl ?_
    refine g8_19 dX8_inputs_14 ?_
    refine go_iload_n dX8_inputs_17 rfl ?_
    refine go_iald dX8_inputs_18 rfl (by omega) (by omega) ?_
    rw [hQ.srt v0 c7]
    refine v8_248 dX8_inputs_19 rfl ⟨rfl, rfl⟩ ⟨rfl, rfl⟩ ct_X8_isInput (fun r1 M1 N1 hr1 hq1 => ?_)
    obtain ⟨z1, rfl, rfl⟩ := hq1
    have z1 := bit_iff z1
    refine go_if_eq (tgt := 29) dX8_inputs_22 rfl (fun h22 => ?_) (fun h22 => ?_)
    · refine go_iconst dX8_inputs_29 (R32_lit rfl) ?_
      refine go_iaddc dX8_inputs_30 ⟨by omega, by omega⟩ ?_
      refine go_ist1 dX8_inputs_31 rfl rfl ?_
      refine go_iinc2c dX8_inputs_32 rfl rfl ⟨by omega, by omega⟩ ?_
      refine go_goto (tgt := 4) dX8_inputs_35 rfl ?_
      exact ih (n - 1) (by omega) (v + 1) _ (by omega) (by omega) (by
        rw [es]
        first
        | (rw [if_neg (by omega)]; omega)
        | (rw [if_pos (by omega)]; omega))
    · refine go_iconst dX8_inputs_25 (R32_lit rfl) ?_
      refine go_goto (tgt := 30) dX8_inputs_26 rfl ?_
      refine go_iaddc dX8_inputs_30 ⟨by omega, by omega⟩ ?_
      refine go_ist1 dX8_inputs_31 rfl rfl ?_
      refine go_iinc2c dX8_inputs_32 rfl rfl ⟨by omega, by omega⟩ ?_
      refine go_goto (tgt := 4) dX8_inputs_35 rfl ?_
      exact ih (n - 1) (by omega) (v + 1) _ (by omega) (by omega) (by
        rw [es]
        first
        | (rw [if_neg (by omega)]; omega)
        | (rw [if_pos (by omega)]; omega))
set_option maxRecDepth 100000 in
set_option maxHeartbeats 4000000 in
theorem ct_X8_inputs {E : Ev} {M : Mm} {N : Nn} {S : Pg} (hQ : QR S M) (hW : WF S) : Ct E yX8_inputs cX8_inputs 3 ((some .int)) (rmH 2) [vr (29, 0, 0)] M N (qi (fun r M1 N1 => r = S 12 0 ∧ M = M1 ∧ N = N1)) := by
  refine ct_of (own := RX8) (L0 := [vr (29, 0, 0), vn, vn]) rfl (by decide +kernel) rfl rfl ?_
  refine go_iconst dX8_inputs_0 (R32_lit rfl) ?_
  refine go_ist1 dX8_inputs_1 rfl rfl ?_
  refine go_iconst dX8_inputs_2 (R32_lit rfl) ?_
  refine go_ist2 dX8_inputs_3 rfl rfl ?_
  have c0 := hQ.2.1
  exact lp_X8_inputs hQ hW (S 11 0).toNat 0 0 (by omega) (by omega) rfl
set_option maxRecDepth 100000 in
set_option maxHeartbeats 4000000 in
theorem lp_X8_points {E : Ev} {M : Mm} {N : Nn} {S : Pg} (hQ : QR S M) (hW : WF S) : ∀ (n : Nat) (v x : Int), (v + n = S 11 0) → (0 ≤ v) → (x = ptV S v.toNat) → Go E RX8 cX8_points 4 ((some .long)) (rmH 2) 0 0 (zM E (ql (fun r M1 N1 => r = min (ptI S (S 12 0).toNat) 999999999 ∧ M = M1 ∧ N = N1))) 4 [vr (29, 0, 0), vl x, vn, vi v] [] M N := by
  intro n
  induction n using Nat.strongRecOn with
  | ind n ih =>
  intro v x hn v0 hx
  have c6 := hQ.1
  have c5 := hQ.2.2.1
  have c0 := hQ.2.1
  refine go_iload_n dX8_points_4 rfl ?_
  refine go_aload_n dX8_points_5 rfl rfl ?_
  refine g8_259 dX8_points_6 ?_
  rw [c6]
  refine go_icmp_ge (tgt := 53) dX8_points_9 rfl (fun h9 => ?_) (fun h9 => ?_)
  · refine go_lload_n dX8_points_53 rfl ?_
    refine c8_288 dX8_points_54 ?_
    refine go_lcmp_ge (tgt := 65) dX8_points_57 dX8_points_58 rfl (fun h57 => ?_) (fun h57 => ?_)
    · refine c8_288 dX8_points_65 ?_
      refine go_retl dX8_points_68 ?_
      have ev : v = S 11 0 := by omega
      have hx2 : x = ptI S (S 12 0).toNat := by
        rw [hx, ev]
        unfold ptV
        have := hW.2.2.2.2.1
        rw [Int.toNat_of_nonneg c0, this, show S 11 0 - (S 11 0 - S 12 0) = S 12 0 by omega]
      refine ⟨?_, rfl, rfl⟩
      rw [← hx2]
      omega
    · refine go_lload_n dX8_points_61 rfl ?_
      refine go_goto (tgt := 68) dX8_points_62 rfl ?_
      refine go_retl dX8_points_68 ?_
      have ev : v = S 11 0 := by omega
      have hx2 : x = ptI S (S 12 0).toNat := by
        rw [hx, ev]
        unfold ptV
        have := hW.2.2.2.2.1
        rw [Int.toNat_of_nonneg c0, this, show S 11 0 - (S 11 0 - S 12 0) = S 12 0 by omega]
      refine ⟨?_, rfl, rfl⟩
      rw [← hx2]
      omega
  · have c7 : v < S 11 0 := by omega
    have es := ptV_s hW (v := v.toNat) (by omega)
    rw [Int.toNat_of_nonneg v0] at es
    obtain ⟨q1, q2, q3, q4⟩ := hQ.2.2.2.2 v v0 c7
    rw [Int.zero_add] at q3
    have ix := in_ix hW (v.toNat + 1) (by omega)
    have pb := ptI_bd3 hW.iw (((v.toNat + 1 : Nat) : Int) - cnS S (v.toNat + 1)).toNat (by omega)
    have pb : 1 ≤ ptV S (v.toNat + 1) ∧ ptV S (v.toNat + 1) ≤ 8012006001 := pb
    refine go_lload_n dX8_points_12 rfl ?_
    refine go_aload_n dX8_points_13 rfl rfl ?_
    refine g8_19 dX8_points_14 ?_
    refine go_iload_n dX8_points_17 rfl ?_
    refine go_iald dX8_points_18 rfl (by omega) (by omega) ?_
    rw [hQ.srt v0 c7]
    refine v8_248 dX8_points_19 rfl ⟨rfl, rfl⟩ ⟨rfl, rfl⟩ ct_X8_isInput (fun r1 M1 N1 hr1 hq1 => ?_)
    obtain ⟨z1, rfl, rfl⟩ := hq1
    have z1 := bit_iff z1
    refine go_if_eq (tgt := 44) dX8_points_22 rfl (fun h22 => ?_) (fun h22 => ?_)
    · refine go_lconst (x := 1) dX8_points_44 rfl ?_
      refine go_lmul dX8_points_45 ?_
      refine go_nml (fun y ey => ?_)
      have hy : y = ptV S (v.toNat + 1) := by
        rw [ey, hx, es]
        rw [es] at pb
        first
        | (rw [if_pos hin] at pb ⊢; exact w64_id ⟨by omega, by omega⟩)
        | (rw [if_neg (by omega)] at pb ⊢; rw [Int.mul_one]; exact w64_id ⟨by omega, by omega⟩)
      clear ey
      refine go_lst1 dX8_points_46 rfl rfl ?_
      refine go_iinc3c dX8_points_47 rfl rfl ⟨by omega, by omega⟩ ?_
      refine go_goto (tgt := 4) dX8_points_50 rfl ?_
      exact ih (n - 1) (by omega) (v + 1) _ (by omega) (by omega) (by rw [show (v + 1).toNat = v.toNat + 1 by omega]; exact hy)
    · have hin : S 0 v = -2 := by omega
      have q3 := q3 hin
      have rg := (hW.2.2.2.2.2.2.1 v v0 c7).1.1 hin
      refine go_aload_n dX8_points_25 rfl rfl ?_
      refine g8_28 dX8_points_26 ?_
      refine go_iload_n dX8_points_29 rfl ?_
      refine go_iald dX8_points_30 rfl (by omega) (by omega) ?_
      rw [q3.2]
      refine go_aload_n dX8_points_31 rfl rfl ?_
      refine g8_25 dX8_points_32 ?_
      refine go_iload_n dX8_points_35 rfl ?_
      refine go_iald dX8_points_36 rfl (by omega) (by omega) ?_
      rw [q3.1]
      refine go_isubc dX8_points_37 ⟨by omega, by omega⟩ ?_
      refine go_i2l dX8_points_38 ?_
      refine go_lconst (x := 1) dX8_points_39 rfl ?_
      refine go_laddc dX8_points_40 ⟨by omega, by omega⟩ ?_
      refine go_goto (tgt := 45) dX8_points_41 rfl ?_
      refine go_lmul dX8_points_45 ?_
      refine go_nml (fun y ey => ?_)
      have hy : y = ptV S (v.toNat + 1) := by
        rw [ey, hx, es]
        rw [es] at pb
        first
        | (rw [if_pos hin] at pb ⊢; exact w64_id ⟨by omega, by omega⟩)
        | (rw [if_neg (by omega)] at pb ⊢; rw [Int.mul_one]; exact w64_id ⟨by omega, by omega⟩)
      clear ey
      refine go_lst1 dX8_points_46 rfl rfl ?_
      refine go_iinc3c dX8_points_47 rfl rfl ⟨by omega, by omega⟩ ?_
      refine go_goto (tgt := 4) dX8_points_50 rfl ?_
      exact ih (n - 1) (by omega) (v + 1) _ (by omega) (by omega) (by rw [show (v + 1).toNat = v.toNat + 1 by omega]; exact hy)
set_option maxRecDepth 100000 in
set_option maxHeartbeats 4000000 in
theorem ct_X8_points {E : Ev} {M : Mm} {N : Nn} {S : Pg} (hQ : QR S M) (hW : WF S) : Ct E yX8_points cX8_points 4 ((some .long)) (rmH 2) [vr (29, 0, 0)] M N (ql (fun r M1 N1 => r = min (ptI S (S 12 0).toNat) 999999999 ∧ M = M1 ∧ N = N1)) := by
  refine ct_of (own := RX8) (L0 := [vr (29, 0, 0), vn, vn, vn]) rfl (by decide +kernel) rfl rfl ?_
  refine go_lconst (x := 1) dX8_points_0 rfl ?_
  refine go_lst1 dX8_points_1 rfl rfl ?_
  refine go_iconst dX8_points_2 (R32_lit rfl) ?_
  refine go_ist3 dX8_points_3 rfl rfl ?_
  have c0 := hQ.2.1
  exact lp_X8_points hQ hW (S 11 0).toNat 0 1 (by omega) (by omega) rfl
set_option maxRecDepth 100000 in
set_option maxHeartbeats 4000000 in
theorem ct_X8_variable {E : Ev} {M : Mm} {N : Nn} {S : Pg} {v w : Int} (hQ : QR S M) (hW : WF S) : Ct E yX8_variable cX8_variable 3 ((some .long)) (rmH 5) [vr (29, 0, 0), vi v, vi w] M N (ql (fun r M1 N1 => ((0 ≤ v ∧ v < S 11 0 ∧ 0 ≤ w ∧ w ≤ 6) ∧ r = (if w = 0 then (if S 0 v = -2 then 1 else 0) else if w = 1 then (if S 0 v = -2 then S 2 v else 0) else if w = 2 then (if S 0 v = -2 then S 3 v else 0) else if w = 3 then S 0 v else if w = 4 then (if S 0 v = -2 then -2 else S 4 v) else if w = 5 then S 5 v else S 6 v) ∧ F8 (rfM M 0) M1 ∨ ¬ (0 ≤ v ∧ v < S 11 0 ∧ 0 ≤ w ∧ w ≤ 6) ∧ r = -9223372036854775808 ∧ M1 = rfM M 1) ∧ N = N1)) := by
  refine ct_of (own := RX8) (L0 := [vr (29, 0, 0), vi v, vi w]) rfl (by decide +kernel) rfl rfl ?_
  have c6 := hQ.1
  have c5 := hQ.2.2.1
  have c0 := hQ.2.1
  refine go_aload_n dX8_variable_0 rfl rfl ?_
  refine go_aload_n dX8_variable_1 rfl rfl ?_
  refine go_iload_n dX8_variable_2 rfl ?_
  refine v8_285 dX8_variable_3 rfl ⟨rfl, rfl⟩ ⟨rfl, rfl⟩ (ct_X8_isVariable hQ) (fun r1 M1 N1 hr1 hq1 => ?_)
  obtain ⟨z1, rfl, rfl⟩ := hq1
  have z1 := bit_iff z1
  refine go_if_eq (tgt := 25) dX8_variable_6 rfl (fun h6 => ?_) (fun h6 => ?_)
  · refine go_iconst dX8_variable_25 (R32_lit rfl) ?_
    refine v8_292 dX8_variable_26 rfl ⟨rfl, rfl⟩ ⟨rfl, rfl⟩ ct_X8_unless (fun r3 M3 N3 hr3 hq3 => ?_)
    obtain ⟨z3, rfl, rfl⟩ := hq3
    have z3 := bit_iff z3
    refine v8_269 dX8_variable_29 rfl ⟨rfl, rfl⟩ ⟨rfl, rfl⟩ ct_X8_isRefused (fun r4 M4 N4 hr4 hq4 => ?_)
    obtain ⟨z4, rfl, rfl⟩ := hq4
    have z4 := bit_iff z4
    refine go_if_eq (tgt := 39) dX8_variable_32 rfl (fun h32 => ?_) (fun h32 => ?_)
    · rw [show r3 = 0 by omega]
      have hok : 0 ≤ v ∧ v < S 11 0 ∧ 0 ≤ w ∧ w ≤ 6 := by omega
      have Q0 := rfM_Q (k := 0) hQ
      obtain ⟨q1, q2, q3, q4⟩ := Q0.2.2.2.2 v (by omega) (by omega)
      rw [Int.zero_add] at q1 q2 q3
      refine go_iload_n dX8_variable_39 rfl ?_
      by_cases w0 : w = 0
      · refine go_tableIn (tgt := 80) dX8_variable_40 (by omega) (by omega) (by rw [w0]; rfl) rfl ?_
        refine go_aload_n dX8_variable_80 rfl rfl ?_
        refine g8_19 dX8_variable_81 ?_
        refine go_iload_n dX8_variable_84 rfl ?_
        refine go_iald dX8_variable_85 rfl (by omega) (by omega) ?_
        rw [q1]
        refine v8_248 dX8_variable_86 rfl ⟨rfl, rfl⟩ ⟨rfl, rfl⟩ ct_X8_isInput (fun r5 M5 N5 hr5 hq5 => ?_)
        obtain ⟨z5, rfl, rfl⟩ := hq5
        have z5 := bit_iff z5
        refine go_if_eq (tgt := 96) dX8_variable_89 rfl (fun h89 => ?_) (fun h89 => ?_)
        · refine go_lconst (x := 0) dX8_variable_96 rfl ?_
          refine go_retl dX8_variable_97 ?_
          refine ⟨Or.inl ⟨hok, ?_, F8.rf⟩, rfl⟩
          rw [if_pos (by omega)]
          first | (rw [if_pos (by omega)]; done) | (rw [if_neg (by omega)]; done)
        · refine go_lconst (x := 1) dX8_variable_92 rfl ?_
          refine go_goto (tgt := 97) dX8_variable_93 rfl ?_
          refine go_retl dX8_variable_97 ?_
          refine ⟨Or.inl ⟨hok, ?_, F8.rf⟩, rfl⟩
          rw [if_pos (by omega)]
          first | (rw [if_pos (by omega)]; done) | (rw [if_neg (by omega)]; done)
      by_cases w1 : w = 1
      · refine go_tableIn (tgt := 98) dX8_variable_40 (by omega) (by omega) (by rw [w1]; rfl) rfl ?_
        refine go_aload_n dX8_variable_98 rfl rfl ?_
        refine g8_19 dX8_variable_99 ?_
        refine go_iload_n dX8_variable_102 rfl ?_
        refine go_iald dX8_variable_103 rfl (by omega) (by omega) ?_
        rw [q1]
        refine v8_248 dX8_variable_104 rfl ⟨rfl, rfl⟩ ⟨rfl, rfl⟩ ct_X8_isInput (fun r5 M5 N5 hr5 hq5 => ?_)
        obtain ⟨z5, rfl, rfl⟩ := hq5
        have z5 := bit_iff z5
        refine go_if_eq (tgt := 120) dX8_variable_107 rfl (fun h107 => ?_) (fun h107 => ?_)
        · refine go_lconst (x := 0) dX8_variable_120 rfl ?_
          refine go_retl dX8_variable_121 ?_
          refine ⟨Or.inl ⟨hok, ?_, F8.rf⟩, rfl⟩
          rw [if_neg (by omega), if_pos (by omega)]
          first | (rw [if_pos (by omega)]; done) | (rw [if_neg (by omega)]; done)
        · refine go_aload_n dX8_variable_110 rfl rfl ?_
          refine g8_25 dX8_variable_111 ?_
          refine go_iload_n dX8_variable_114 rfl ?_
          refine go_iald dX8_variable_115 rfl (by omega) (by omega) ?_
          rw [(q3 (by omega)).1]
          refine go_i2l dX8_variable_116 ?_
          refine go_goto (tgt := 121) dX8_variable_117 rfl ?_
          refine go_retl dX8_variable_121 ?_
          refine ⟨Or.inl ⟨hok, ?_, F8.rf⟩, rfl⟩
          rw [if_neg (by omega), if_pos (by omega)]
          first | (rw [if_pos (by omega)]; done) | (rw [if_neg (by omega)]; done)
      by_cases w2 : w = 2
      · refine go_tableIn (tgt := 122) dX8_variable_40 (by omega) (by omega) (by rw [w2]; rfl) rfl ?_
        refine go_aload_n dX8_variable_122 rfl rfl ?_
        refine g8_19 dX8_variable_123 ?_
        refine go_iload_n dX8_variable_126 rfl ?_
        refine go_iald dX8_variable_127 rfl (by omega) (by omega) ?_
        rw [q1]
        refine v8_248 dX8_variable_128 rfl ⟨rfl, rfl⟩ ⟨rfl, rfl⟩ ct_X8_isInput (fun r5 M5 N5 hr5 hq5 => ?_)
        obtain ⟨z5, rfl, rfl⟩ := hq5
        have z5 := bit_iff z5
        refine go_if_eq (tgt := 144) dX8_variable_131 rfl (fun h131 => ?_) (fun h131 => ?_)
        · refine go_lconst (x := 0) dX8_variable_144 rfl ?_
          refine go_retl dX8_variable_145 ?_
          refine ⟨Or.inl ⟨hok, ?_, F8.rf⟩, rfl⟩
          rw [if_neg (by omega), if_neg (by omega), if_pos (by omega)]
          first | (rw [if_pos (by omega)]; done) | (rw [if_neg (by omega)]; done)
        · refine go_aload_n dX8_variable_134 rfl rfl ?_
          refine g8_28 dX8_variable_135 ?_
          refine go_iload_n dX8_variable_138 rfl ?_
          refine go_iald dX8_variable_139 rfl (by omega) (by omega) ?_
          rw [(q3 (by omega)).2]
          refine go_i2l dX8_variable_140 ?_
          refine go_goto (tgt := 145) dX8_variable_141 rfl ?_
          refine go_retl dX8_variable_145 ?_
          refine ⟨Or.inl ⟨hok, ?_, F8.rf⟩, rfl⟩
          rw [if_neg (by omega), if_neg (by omega), if_pos (by omega)]
          first | (rw [if_pos (by omega)]; done) | (rw [if_neg (by omega)]; done)
      by_cases w3 : w = 3
      · refine go_tableIn (tgt := 146) dX8_variable_40 (by omega) (by omega) (by rw [w3]; rfl) rfl ?_
        refine go_aload_n dX8_variable_146 rfl rfl ?_
        refine g8_19 dX8_variable_147 ?_
        refine go_iload_n dX8_variable_150 rfl ?_
        refine go_iald dX8_variable_151 rfl (by omega) (by omega) ?_
        rw [q1]
        refine go_i2l dX8_variable_152 ?_
        refine go_retl dX8_variable_153 ?_
        refine ⟨Or.inl ⟨hok, ?_, F8.rf⟩, rfl⟩
        rw [if_neg (by omega), if_neg (by omega), if_neg (by omega), if_pos (by omega)]
      by_cases w4 : w = 4
      · refine go_tableIn (tgt := 154) dX8_variable_40 (by omega) (by omega) (by rw [w4]; rfl) rfl ?_
        refine go_aload_n dX8_variable_154 rfl rfl ?_
        refine g8_19 dX8_variable_155 ?_
        refine go_iload_n dX8_variable_158 rfl ?_
        refine go_iald dX8_variable_159 rfl (by omega) (by omega) ?_
        rw [q1]
        refine v8_248 dX8_variable_160 rfl ⟨rfl, rfl⟩ ⟨rfl, rfl⟩ ct_X8_isInput (fun r5 M5 N5 hr5 hq5 => ?_)
        obtain ⟨z5, rfl, rfl⟩ := hq5
        have z5 := bit_iff z5
        refine go_if_eq (tgt := 172) dX8_variable_163 rfl (fun h163 => ?_) (fun h163 => ?_)
        · refine go_aload_n dX8_variable_172 rfl rfl ?_
          refine g8_22 dX8_variable_173 ?_
          refine go_iload_n dX8_variable_176 rfl ?_
          refine go_iald dX8_variable_177 rfl (by omega) (by omega) ?_
          rw [q2]
          refine go_i2l dX8_variable_178 ?_
          refine go_retl dX8_variable_179 ?_
          refine ⟨Or.inl ⟨hok, ?_, F8.rf⟩, rfl⟩
          rw [if_neg (by omega), if_neg (by omega), if_neg (by omega), if_neg (by omega), if_pos (by omega)]
          first | (rw [if_pos (by omega)]; done) | (rw [if_neg (by omega)]; done)
        · refine c8_311 dX8_variable_166 ?_
          refine go_goto (tgt := 179) dX8_variable_169 rfl ?_
          refine go_retl dX8_variable_179 ?_
          refine ⟨Or.inl ⟨hok, ?_, F8.rf⟩, rfl⟩
          rw [if_neg (by omega), if_neg (by omega), if_neg (by omega), if_neg (by omega), if_pos (by omega)]
          first | (rw [if_pos (by omega)]; done) | (rw [if_neg (by omega)]; done)
      by_cases w5 : w = 5
      · refine go_tableIn (tgt := 180) dX8_variable_40 (by omega) (by omega) (by rw [w5]; rfl) rfl ?_
        refine go_aload_n dX8_variable_180 rfl rfl ?_
        refine v8_313 dX8_variable_181 rfl ⟨rfl, rfl⟩ ⟨rfl, rfl⟩ (ct_X8_laysFine Q0 (fun u u0 u1 => ⟨(hW.2.2.2.2.2.2.1 u u0 u1).1, (hW.2.2.2.2.2.2.1 u u0 u1).2.1⟩) (fun u u0 u1 => hW.f5 u0 u1)) (fun M6 N6 hq6 => ?_)
        obtain ⟨g1, g2, rfl⟩ := hq6
        refine go_aload_n dX8_variable_184 rfl rfl ?_
        refine g8_50 dX8_variable_185 ?_
        refine go_iload_n dX8_variable_188 rfl ?_
        refine go_iald dX8_variable_189 rfl (by omega) (by omega) ?_
        rw [(g1 v (by omega) (by omega)).1]
        refine go_i2l dX8_variable_190 ?_
        refine go_retl dX8_variable_191 ?_
        refine ⟨Or.inl ⟨hok, ?_, F8.of g2 (by decide) (by decide)⟩, rfl⟩
        rw [if_neg (by omega), if_neg (by omega), if_neg (by omega), if_neg (by omega), if_neg (by omega), if_pos (by omega)]
      refine go_tableOut (tgt := 192) dX8_variable_40 (by omega) rfl ?_
      refine go_aload_n dX8_variable_192 rfl rfl ?_
      refine go_iconst dX8_variable_193 (R32_lit rfl) ?_
      refine go_aload_n dX8_variable_194 rfl rfl ?_
      refine g8_259 dX8_variable_195 ?_
      rw [Q0.1]
      refine v8_232 dX8_variable_198 rfl ⟨rfl, rfl⟩ ⟨rfl, rfl⟩ (ct_X8_laysWeights (S := S) Q0.2.2.2.2 c0 c5 (by decide) (by decide) (fun u u0 u1 => ⟨(hW.2.2.2.2.2.2.1 u u0 u1).1, (hW.2.2.2.2.2.2.1 u u0 u1).2.2.1⟩)) (fun r7 M7 N7 hr7 hq7 => ?_)
      obtain ⟨g1, g2, rfl⟩ := hq7
      have g3 : ∀ u, 0 ≤ u → u < S 11 0 → M7 (30, 0, 27) u = S 6 u := by
        rcases g1 with ⟨-, -, q⟩ | ⟨⟨u, u0, u1, u2⟩, -⟩
        · exact q
        · exact absurd (hW.w6 u0 u1).2 (by omega)
      clear g1
      first | refine go_pop_i dX8_variable_201 ?_ | refine go_pop_r dX8_variable_201 ?_
      refine go_aload_n dX8_variable_202 rfl rfl ?_
      refine g8_46 dX8_variable_203 ?_
      refine go_iload_n dX8_variable_206 rfl ?_
      refine go_lald dX8_variable_207 rfl (by omega) (by omega) ?_
      rw [g3 v (by omega) (by omega)]
      refine go_retl dX8_variable_208 ?_
      refine ⟨Or.inl ⟨hok, ?_, F8.of g2 (by decide) (by decide)⟩, rfl⟩
      rw [if_neg (by omega), if_neg (by omega), if_neg (by omega), if_neg (by omega), if_neg (by omega), if_neg (by omega)]
    · refine c8_111 dX8_variable_35 ?_
      refine go_retl dX8_variable_38 ?_
      exact ⟨Or.inr ⟨by omega, rfl, by rw [show r3 = 1 by omega]⟩, rfl⟩
  · refine go_iload_n dX8_variable_9 rfl ?_
    refine go_i2l dX8_variable_10 ?_
    refine go_lconst (x := 0) dX8_variable_11 rfl ?_
    refine c8_309 dX8_variable_12 ?_
    refine v8_140 dX8_variable_15 rfl ⟨rfl, rfl⟩ ⟨rfl, rfl⟩ ct_X8_in (fun r2 M2 N2 hr2 hq2 => ?_)
    obtain ⟨z2, rfl, rfl⟩ := hq2
    have z2 := bit_iff z2
    refine go_if_eq (tgt := 25) dX8_variable_18 rfl (fun h18 => ?_) (fun h18 => ?_)
    · refine go_iconst dX8_variable_25 (R32_lit rfl) ?_
      refine v8_292 dX8_variable_26 rfl ⟨rfl, rfl⟩ ⟨rfl, rfl⟩ ct_X8_unless (fun r3 M3 N3 hr3 hq3 => ?_)
      obtain ⟨z3, rfl, rfl⟩ := hq3
      have z3 := bit_iff z3
      refine v8_269 dX8_variable_29 rfl ⟨rfl, rfl⟩ ⟨rfl, rfl⟩ ct_X8_isRefused (fun r4 M4 N4 hr4 hq4 => ?_)
      obtain ⟨z4, rfl, rfl⟩ := hq4
      have z4 := bit_iff z4
      refine go_if_eq (tgt := 39) dX8_variable_32 rfl (fun h32 => ?_) (fun h32 => ?_)
      · rw [show r3 = 0 by omega]
        have hok : 0 ≤ v ∧ v < S 11 0 ∧ 0 ≤ w ∧ w ≤ 6 := by omega
        have Q0 := rfM_Q (k := 0) hQ
        obtain ⟨q1, q2, q3, q4⟩ := Q0.2.2.2.2 v (by omega) (by omega)
        rw [Int.zero_add] at q1 q2 q3
        refine go_iload_n dX8_variable_39 rfl ?_
        by_cases w0 : w = 0
        · refine go_tableIn (tgt := 80) dX8_variable_40 (by omega) (by omega) (by rw [w0]; rfl) rfl ?_
          refine go_aload_n dX8_variable_80 rfl rfl ?_
          refine g8_19 dX8_variable_81 ?_
          refine go_iload_n dX8_variable_84 rfl ?_
          refine go_iald dX8_variable_85 rfl (by omega) (by omega) ?_
          rw [q1]
          refine v8_248 dX8_variable_86 rfl ⟨rfl, rfl⟩ ⟨rfl, rfl⟩ ct_X8_isInput (fun r5 M5 N5 hr5 hq5 => ?_)
          obtain ⟨z5, rfl, rfl⟩ := hq5
          have z5 := bit_iff z5
          refine go_if_eq (tgt := 96) dX8_variable_89 rfl (fun h89 => ?_) (fun h89 => ?_)
          · refine go_lconst (x := 0) dX8_variable_96 rfl ?_
            refine go_retl dX8_variable_97 ?_
            refine ⟨Or.inl ⟨hok, ?_, F8.rf⟩, rfl⟩
            rw [if_pos (by omega)]
            first | (rw [if_pos (by omega)]; done) | (rw [if_neg (by omega)]; done)
          · refine go_lconst (x := 1) dX8_variable_92 rfl ?_
            refine go_goto (tgt := 97) dX8_variable_93 rfl ?_
            refine go_retl dX8_variable_97 ?_
            refine ⟨Or.inl ⟨hok, ?_, F8.rf⟩, rfl⟩
            rw [if_pos (by omega)]
            first | (rw [if_pos (by omega)]; done) | (rw [if_neg (by omega)]; done)
        by_cases w1 : w = 1
        · refine go_tableIn (tgt := 98) dX8_variable_40 (by omega) (by omega) (by rw [w1]; rfl) rfl ?_
          refine go_aload_n dX8_variable_98 rfl rfl ?_
          refine g8_19 dX8_variable_99 ?_
          refine go_iload_n dX8_variable_102 rfl ?_
          refine go_iald dX8_variable_103 rfl (by omega) (by omega) ?_
          rw [q1]
          refine v8_248 dX8_variable_104 rfl ⟨rfl, rfl⟩ ⟨rfl, rfl⟩ ct_X8_isInput (fun r5 M5 N5 hr5 hq5 => ?_)
          obtain ⟨z5, rfl, rfl⟩ := hq5
          have z5 := bit_iff z5
          refine go_if_eq (tgt := 120) dX8_variable_107 rfl (fun h107 => ?_) (fun h107 => ?_)
          · refine go_lconst (x := 0) dX8_variable_120 rfl ?_
            refine go_retl dX8_variable_121 ?_
            refine ⟨Or.inl ⟨hok, ?_, F8.rf⟩, rfl⟩
            rw [if_neg (by omega), if_pos (by omega)]
            first | (rw [if_pos (by omega)]; done) | (rw [if_neg (by omega)]; done)
          · refine go_aload_n dX8_variable_110 rfl rfl ?_
            refine g8_25 dX8_variable_111 ?_
            refine go_iload_n dX8_variable_114 rfl ?_
            refine go_iald dX8_variable_115 rfl (by omega) (by omega) ?_
            rw [(q3 (by omega)).1]
            refine go_i2l dX8_variable_116 ?_
            refine go_goto (tgt := 121) dX8_variable_117 rfl ?_
            refine go_retl dX8_variable_121 ?_
            refine ⟨Or.inl ⟨hok, ?_, F8.rf⟩, rfl⟩
            rw [if_neg (by omega), if_pos (by omega)]
            first | (rw [if_pos (by omega)]; done) | (rw [if_neg (by omega)]; done)
        by_cases w2 : w = 2
        · refine go_tableIn (tgt := 122) dX8_variable_40 (by omega) (by omega) (by rw [w2]; rfl) rfl ?_
          refine go_aload_n dX8_variable_122 rfl rfl ?_
          refine g8_19 dX8_variable_123 ?_
          refine go_iload_n dX8_variable_126 rfl ?_
          refine go_iald dX8_variable_127 rfl (by omega) (by omega) ?_
          rw [q1]
          refine v8_248 dX8_variable_128 rfl ⟨rfl, rfl⟩ ⟨rfl, rfl⟩ ct_X8_isInput (fun r5 M5 N5 hr5 hq5 => ?_)
          obtain ⟨z5, rfl, rfl⟩ := hq5
          have z5 := bit_iff z5
          refine go_if_eq (tgt := 144) dX8_variable_131 rfl (fun h131 => ?_) (fun h131 => ?_)
          · refine go_lconst (x := 0) dX8_variable_144 rfl ?_
            refine go_retl dX8_variable_145 ?_
            refine ⟨Or.inl ⟨hok, ?_, F8.rf⟩, rfl⟩
            rw [if_neg (by omega), if_neg (by omega), if_pos (by omega)]
            first | (rw [if_pos (by omega)]; done) | (rw [if_neg (by omega)]; done)
          · refine go_aload_n dX8_variable_134 rfl rfl ?_
            refine g8_28 dX8_variable_135 ?_
            refine go_iload_n dX8_variable_138 rfl ?_
            refine go_iald dX8_variable_139 rfl (by omega) (by omega) ?_
            rw [(q3 (by omega)).2]
            refine go_i2l dX8_variable_140 ?_
            refine go_goto (tgt := 145) dX8_variable_141 rfl ?_
            refine go_retl dX8_variable_145 ?_
            refine ⟨Or.inl ⟨hok, ?_, F8.rf⟩, rfl⟩
            rw [if_neg (by omega), if_neg (by omega), if_pos (by omega)]
            first | (rw [if_pos (by omega)]; done) | (rw [if_neg (by omega)]; done)
        by_cases w3 : w = 3
        · refine go_tableIn (tgt := 146) dX8_variable_40 (by omega) (by omega) (by rw [w3]; rfl) rfl ?_
          refine go_aload_n dX8_variable_146 rfl rfl ?_
          refine g8_19 dX8_variable_147 ?_
          refine go_iload_n dX8_variable_150 rfl ?_
          refine go_iald dX8_variable_151 rfl (by omega) (by omega) ?_
          rw [q1]
          refine go_i2l dX8_variable_152 ?_
          refine go_retl dX8_variable_153 ?_
          refine ⟨Or.inl ⟨hok, ?_, F8.rf⟩, rfl⟩
          rw [if_neg (by omega), if_neg (by omega), if_neg (by omega), if_pos (by omega)]
        by_cases w4 : w = 4
        · refine go_tableIn (tgt := 154) dX8_variable_40 (by omega) (by omega) (by rw [w4]; rfl) rfl ?_
          refine go_aload_n dX8_variable_154 rfl rfl ?_
          refine g8_19 dX8_variable_155 ?_
          refine go_iload_n dX8_variable_158 rfl ?_
          refine go_iald dX8_variable_159 rfl (by omega) (by omega) ?_
          rw [q1]
          refine v8_248 dX8_variable_160 rfl ⟨rfl, rfl⟩ ⟨rfl, rfl⟩ ct_X8_isInput (fun r5 M5 N5 hr5 hq5 => ?_)
          obtain ⟨z5, rfl, rfl⟩ := hq5
          have z5 := bit_iff z5
          refine go_if_eq (tgt := 172) dX8_variable_163 rfl (fun h163 => ?_) (fun h163 => ?_)
          · refine go_aload_n dX8_variable_172 rfl rfl ?_
            refine g8_22 dX8_variable_173 ?_
            refine go_iload_n dX8_variable_176 rfl ?_
            refine go_iald dX8_variable_177 rfl (by omega) (by omega) ?_
            rw [q2]
            refine go_i2l dX8_variable_178 ?_
            refine go_retl dX8_variable_179 ?_
            refine ⟨Or.inl ⟨hok, ?_, F8.rf⟩, rfl⟩
            rw [if_neg (by omega), if_neg (by omega), if_neg (by omega), if_neg (by omega), if_pos (by omega)]
            first | (rw [if_pos (by omega)]; done) | (rw [if_neg (by omega)]; done)
          · refine c8_311 dX8_variable_166 ?_
            refine go_goto (tgt := 179) dX8_variable_169 rfl ?_
            refine go_retl dX8_variable_179 ?_
            refine ⟨Or.inl ⟨hok, ?_, F8.rf⟩, rfl⟩
            rw [if_neg (by omega), if_neg (by omega), if_neg (by omega), if_neg (by omega), if_pos (by omega)]
            first | (rw [if_pos (by omega)]; done) | (rw [if_neg (by omega)]; done)
        by_cases w5 : w = 5
        · refine go_tableIn (tgt := 180) dX8_variable_40 (by omega) (by omega) (by rw [w5]; rfl) rfl ?_
          refine go_aload_n dX8_variable_180 rfl rfl ?_
          refine v8_313 dX8_variable_181 rfl ⟨rfl, rfl⟩ ⟨rfl, rfl⟩ (ct_X8_laysFine Q0 (fun u u0 u1 => ⟨(hW.2.2.2.2.2.2.1 u u0 u1).1, (hW.2.2.2.2.2.2.1 u u0 u1).2.1⟩) (fun u u0 u1 => hW.f5 u0 u1)) (fun M6 N6 hq6 => ?_)
          obtain ⟨g1, g2, rfl⟩ := hq6
          refine go_aload_n dX8_variable_184 rfl rfl ?_
          refine g8_50 dX8_variable_185 ?_
          refine go_iload_n dX8_variable_188 rfl ?_
          refine go_iald dX8_variable_189 rfl (by omega) (by omega) ?_
          rw [(g1 v (by omega) (by omega)).1]
          refine go_i2l dX8_variable_190 ?_
          refine go_retl dX8_variable_191 ?_
          refine ⟨Or.inl ⟨hok, ?_, F8.of g2 (by decide) (by decide)⟩, rfl⟩
          rw [if_neg (by omega), if_neg (by omega), if_neg (by omega), if_neg (by omega), if_neg (by omega), if_pos (by omega)]
        refine go_tableOut (tgt := 192) dX8_variable_40 (by omega) rfl ?_
        refine go_aload_n dX8_variable_192 rfl rfl ?_
        refine go_iconst dX8_variable_193 (R32_lit rfl) ?_
        refine go_aload_n dX8_variable_194 rfl rfl ?_
        refine g8_259 dX8_variable_195 ?_
        rw [Q0.1]
        refine v8_232 dX8_variable_198 rfl ⟨rfl, rfl⟩ ⟨rfl, rfl⟩ (ct_X8_laysWeights (S := S) Q0.2.2.2.2 c0 c5 (by decide) (by decide) (fun u u0 u1 => ⟨(hW.2.2.2.2.2.2.1 u u0 u1).1, (hW.2.2.2.2.2.2.1 u u0 u1).2.2.1⟩)) (fun r7 M7 N7 hr7 hq7 => ?_)
        obtain ⟨g1, g2, rfl⟩ := hq7
        have g3 : ∀ u, 0 ≤ u → u < S 11 0 → M7 (30, 0, 27) u = S 6 u := by
          rcases g1 with ⟨-, -, q⟩ | ⟨⟨u, u0, u1, u2⟩, -⟩
          · exact q
          · exact absurd (hW.w6 u0 u1).2 (by omega)
        clear g1
        first | refine go_pop_i dX8_variable_201 ?_ | refine go_pop_r dX8_variable_201 ?_
        refine go_aload_n dX8_variable_202 rfl rfl ?_
        refine g8_46 dX8_variable_203 ?_
        refine go_iload_n dX8_variable_206 rfl ?_
        refine go_lald dX8_variable_207 rfl (by omega) (by omega) ?_
        rw [g3 v (by omega) (by omega)]
        refine go_retl dX8_variable_208 ?_
        refine ⟨Or.inl ⟨hok, ?_, F8.of g2 (by decide) (by decide)⟩, rfl⟩
        rw [if_neg (by omega), if_neg (by omega), if_neg (by omega), if_neg (by omega), if_neg (by omega), if_neg (by omega)]
      · refine c8_111 dX8_variable_35 ?_
        refine go_retl dX8_variable_38 ?_
        exact ⟨Or.inr ⟨by omega, rfl, by rw [show r3 = 1 by omega]⟩, rfl⟩
    · refine go_iconst dX8_variable_21 (R32_lit rfl) ?_
      refine go_goto (tgt := 26) dX8_variable_22 rfl ?_
      refine v8_292 dX8_variable_26 rfl ⟨rfl, rfl⟩ ⟨rfl, rfl⟩ ct_X8_unless (fun r3 M3 N3 hr3 hq3 => ?_)
      obtain ⟨z3, rfl, rfl⟩ := hq3
      have z3 := bit_iff z3
      refine v8_269 dX8_variable_29 rfl ⟨rfl, rfl⟩ ⟨rfl, rfl⟩ ct_X8_isRefused (fun r4 M4 N4 hr4 hq4 => ?_)
      obtain ⟨z4, rfl, rfl⟩ := hq4
      have z4 := bit_iff z4
      refine go_if_eq (tgt := 39) dX8_variable_32 rfl (fun h32 => ?_) (fun h32 => ?_)
      · rw [show r3 = 0 by omega]
        have hok : 0 ≤ v ∧ v < S 11 0 ∧ 0 ≤ w ∧ w ≤ 6 := by omega
        have Q0 := rfM_Q (k := 0) hQ
        obtain ⟨q1, q2, q3, q4⟩ := Q0.2.2.2.2 v (by omega) (by omega)
        rw [Int.zero_add] at q1 q2 q3
        refine go_iload_n dX8_variable_39 rfl ?_
        by_cases w0 : w = 0
        · refine go_tableIn (tgt := 80) dX8_variable_40 (by omega) (by omega) (by rw [w0]; rfl) rfl ?_
          refine go_aload_n dX8_variable_80 rfl rfl ?_
          refine g8_19 dX8_variable_81 ?_
          refine go_iload_n dX8_variable_84 rfl ?_
          refine go_iald dX8_variable_85 rfl (by omega) (by omega) ?_
          rw [q1]
          refine v8_248 dX8_variable_86 rfl ⟨rfl, rfl⟩ ⟨rfl, rfl⟩ ct_X8_isInput (fun r5 M5 N5 hr5 hq5 => ?_)
          obtain ⟨z5, rfl, rfl⟩ := hq5
          have z5 := bit_iff z5
          refine go_if_eq (tgt := 96) dX8_variable_89 rfl (fun h89 => ?_) (fun h89 => ?_)
          · refine go_lconst (x := 0) dX8_variable_96 rfl ?_
            refine go_retl dX8_variable_97 ?_
            refine ⟨Or.inl ⟨hok, ?_, F8.rf⟩, rfl⟩
            rw [if_pos (by omega)]
            first | (rw [if_pos (by omega)]; done) | (rw [if_neg (by omega)]; done)
          · refine go_lconst (x := 1) dX8_variable_92 rfl ?_
            refine go_goto (tgt := 97) dX8_variable_93 rfl ?_
            refine go_retl dX8_variable_97 ?_
            refine ⟨Or.inl ⟨hok, ?_, F8.rf⟩, rfl⟩
            rw [if_pos (by omega)]
            first | (rw [if_pos (by omega)]; done) | (rw [if_neg (by omega)]; done)
        by_cases w1 : w = 1
        · refine go_tableIn (tgt := 98) dX8_variable_40 (by omega) (by omega) (by rw [w1]; rfl) rfl ?_
          refine go_aload_n dX8_variable_98 rfl rfl ?_
          refine g8_19 dX8_variable_99 ?_
          refine go_iload_n dX8_variable_102 rfl ?_
          refine go_iald dX8_variable_103 rfl (by omega) (by omega) ?_
          rw [q1]
          refine v8_248 dX8_variable_104 rfl ⟨rfl, rfl⟩ ⟨rfl, rfl⟩ ct_X8_isInput (fun r5 M5 N5 hr5 hq5 => ?_)
          obtain ⟨z5, rfl, rfl⟩ := hq5
          have z5 := bit_iff z5
          refine go_if_eq (tgt := 120) dX8_variable_107 rfl (fun h107 => ?_) (fun h107 => ?_)
          · refine go_lconst (x := 0) dX8_variable_120 rfl ?_
            refine go_retl dX8_variable_121 ?_
            refine ⟨Or.inl ⟨hok, ?_, F8.rf⟩, rfl⟩
            rw [if_neg (by omega), if_pos (by omega)]
            first | (rw [if_pos (by omega)]; done) | (rw [if_neg (by omega)]; done)
          · refine go_aload_n dX8_variable_110 rfl rfl ?_
            refine g8_25 dX8_variable_111 ?_
            refine go_iload_n dX8_variable_114 rfl ?_
            refine go_iald dX8_variable_115 rfl (by omega) (by omega) ?_
            rw [(q3 (by omega)).1]
            refine go_i2l dX8_variable_116 ?_
            refine go_goto (tgt := 121) dX8_variable_117 rfl ?_
            refine go_retl dX8_variable_121 ?_
            refine ⟨Or.inl ⟨hok, ?_, F8.rf⟩, rfl⟩
            rw [if_neg (by omega), if_pos (by omega)]
            first | (rw [if_pos (by omega)]; done) | (rw [if_neg (by omega)]; done)
        by_cases w2 : w = 2
        · refine go_tableIn (tgt := 122) dX8_variable_40 (by omega) (by omega) (by rw [w2]; rfl) rfl ?_
          refine go_aload_n dX8_variable_122 rfl rfl ?_
          refine g8_19 dX8_variable_123 ?_
          refine go_iload_n dX8_variable_126 rfl ?_
          refine go_iald dX8_variable_127 rfl (by omega) (by omega) ?_
          rw [q1]
          refine v8_248 dX8_variable_128 rfl ⟨rfl, rfl⟩ ⟨rfl, rfl⟩ ct_X8_isInput (fun r5 M5 N5 hr5 hq5 => ?_)
          obtain ⟨z5, rfl, rfl⟩ := hq5
          have z5 := bit_iff z5
          refine go_if_eq (tgt := 144) dX8_variable_131 rfl (fun h131 => ?_) (fun h131 => ?_)
          · refine go_lconst (x := 0) dX8_variable_144 rfl ?_
            refine go_retl dX8_variable_145 ?_
            refine ⟨Or.inl ⟨hok, ?_, F8.rf⟩, rfl⟩
            rw [if_neg (by omega), if_neg (by omega), if_pos (by omega)]
            first | (rw [if_pos (by omega)]; done) | (rw [if_neg (by omega)]; done)
          · refine go_aload_n dX8_variable_134 rfl rfl ?_
            refine g8_28 dX8_variable_135 ?_
            refine go_iload_n dX8_variable_138 rfl ?_
            refine go_iald dX8_variable_139 rfl (by omega) (by omega) ?_
            rw [(q3 (by omega)).2]
            refine go_i2l dX8_variable_140 ?_
            refine go_goto (tgt := 145) dX8_variable_141 rfl ?_
            refine go_retl dX8_variable_145 ?_
            refine ⟨Or.inl ⟨hok, ?_, F8.rf⟩, rfl⟩
            rw [if_neg (by omega), if_neg (by omega), if_pos (by omega)]
            first | (rw [if_pos (by omega)]; done) | (rw [if_neg (by omega)]; done)
        by_cases w3 : w = 3
        · refine go_tableIn (tgt := 146) dX8_variable_40 (by omega) (by omega) (by rw [w3]; rfl) rfl ?_
          refine go_aload_n dX8_variable_146 rfl rfl ?_
          refine g8_19 dX8_variable_147 ?_
          refine go_iload_n dX8_variable_150 rfl ?_
          refine go_iald dX8_variable_151 rfl (by omega) (by omega) ?_
          rw [q1]
          refine go_i2l dX8_variable_152 ?_
          refine go_retl dX8_variable_153 ?_
          refine ⟨Or.inl ⟨hok, ?_, F8.rf⟩, rfl⟩
          rw [if_neg (by omega), if_neg (by omega), if_neg (by omega), if_pos (by omega)]
        by_cases w4 : w = 4
        · refine go_tableIn (tgt := 154) dX8_variable_40 (by omega) (by omega) (by rw [w4]; rfl) rfl ?_
          refine go_aload_n dX8_variable_154 rfl rfl ?_
          refine g8_19 dX8_variable_155 ?_
          refine go_iload_n dX8_variable_158 rfl ?_
          refine go_iald dX8_variable_159 rfl (by omega) (by omega) ?_
          rw [q1]
          refine v8_248 dX8_variable_160 rfl ⟨rfl, rfl⟩ ⟨rfl, rfl⟩ ct_X8_isInput (fun r5 M5 N5 hr5 hq5 => ?_)
          obtain ⟨z5, rfl, rfl⟩ := hq5
          have z5 := bit_iff z5
          refine go_if_eq (tgt := 172) dX8_variable_163 rfl (fun h163 => ?_) (fun h163 => ?_)
          · refine go_aload_n dX8_variable_172 rfl rfl ?_
            refine g8_22 dX8_variable_173 ?_
            refine go_iload_n dX8_variable_176 rfl ?_
            refine go_iald dX8_variable_177 rfl (by omega) (by omega) ?_
            rw [q2]
            refine go_i2l dX8_variable_178 ?_
            refine go_retl dX8_variable_179 ?_
            refine ⟨Or.inl ⟨hok, ?_, F8.rf⟩, rfl⟩
            rw [if_neg (by omega), if_neg (by omega), if_neg (by omega), if_neg (by omega), if_pos (by omega)]
            first | (rw [if_pos (by omega)]; done) | (rw [if_neg (by omega)]; done)
          · refine c8_311 dX8_variable_166 ?_
            refine go_goto (tgt := 179) dX8_variable_169 rfl ?_
            refine go_retl dX8_variable_179 ?_
            refine ⟨Or.inl ⟨hok, ?_, F8.rf⟩, rfl⟩
            rw [if_neg (by omega), if_neg (by omega), if_neg (by omega), if_neg (by omega), if_pos (by omega)]
            first | (rw [if_pos (by omega)]; done) | (rw [if_neg (by omega)]; done)
        by_cases w5 : w = 5
        · refine go_tableIn (tgt := 180) dX8_variable_40 (by omega) (by omega) (by rw [w5]; rfl) rfl ?_
          refine go_aload_n dX8_variable_180 rfl rfl ?_
          refine v8_313 dX8_variable_181 rfl ⟨rfl, rfl⟩ ⟨rfl, rfl⟩ (ct_X8_laysFine Q0 (fun u u0 u1 => ⟨(hW.2.2.2.2.2.2.1 u u0 u1).1, (hW.2.2.2.2.2.2.1 u u0 u1).2.1⟩) (fun u u0 u1 => hW.f5 u0 u1)) (fun M6 N6 hq6 => ?_)
          obtain ⟨g1, g2, rfl⟩ := hq6
          refine go_aload_n dX8_variable_184 rfl rfl ?_
          refine g8_50 dX8_variable_185 ?_
          refine go_iload_n dX8_variable_188 rfl ?_
          refine go_iald dX8_variable_189 rfl (by omega) (by omega) ?_
          rw [(g1 v (by omega) (by omega)).1]
          refine go_i2l dX8_variable_190 ?_
          refine go_retl dX8_variable_191 ?_
          refine ⟨Or.inl ⟨hok, ?_, F8.of g2 (by decide) (by decide)⟩, rfl⟩
          rw [if_neg (by omega), if_neg (by omega), if_neg (by omega), if_neg (by omega), if_neg (by omega), if_pos (by omega)]
        refine go_tableOut (tgt := 192) dX8_variable_40 (by omega) rfl ?_
        refine go_aload_n dX8_variable_192 rfl rfl ?_
        refine go_iconst dX8_variable_193 (R32_lit rfl) ?_
        refine go_aload_n dX8_variable_194 rfl rfl ?_
        refine g8_259 dX8_variable_195 ?_
        rw [Q0.1]
        refine v8_232 dX8_variable_198 rfl ⟨rfl, rfl⟩ ⟨rfl, rfl⟩ (ct_X8_laysWeights (S := S) Q0.2.2.2.2 c0 c5 (by decide) (by decide) (fun u u0 u1 => ⟨(hW.2.2.2.2.2.2.1 u u0 u1).1, (hW.2.2.2.2.2.2.1 u u0 u1).2.2.1⟩)) (fun r7 M7 N7 hr7 hq7 => ?_)
        obtain ⟨g1, g2, rfl⟩ := hq7
        have g3 : ∀ u, 0 ≤ u → u < S 11 0 → M7 (30, 0, 27) u = S 6 u := by
          rcases g1 with ⟨-, -, q⟩ | ⟨⟨u, u0, u1, u2⟩, -⟩
          · exact q
          · exact absurd (hW.w6 u0 u1).2 (by omega)
        clear g1
        first | refine go_pop_i dX8_variable_201 ?_ | refine go_pop_r dX8_variable_201 ?_
        refine go_aload_n dX8_variable_202 rfl rfl ?_
        refine g8_46 dX8_variable_203 ?_
        refine go_iload_n dX8_variable_206 rfl ?_
        refine go_lald dX8_variable_207 rfl (by omega) (by omega) ?_
        rw [g3 v (by omega) (by omega)]
        refine go_retl dX8_variable_208 ?_
        refine ⟨Or.inl ⟨hok, ?_, F8.of g2 (by decide) (by decide)⟩, rfl⟩
        rw [if_neg (by omega), if_neg (by omega), if_neg (by omega), if_neg (by omega), if_neg (by omega), if_neg (by omega)]
      · refine c8_111 dX8_variable_35 ?_
        refine go_retl dX8_variable_38 ?_
        exact ⟨Or.inr ⟨by omega, rfl, by rw [show r3 = 1 by omega]⟩, rfl⟩
