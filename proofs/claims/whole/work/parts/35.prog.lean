theorem tdiv2_bd {x : Int} (h0 : -1000 ≤ x) (h1 : x ≤ 1000) : -1000 ≤ x.tdiv 2 ∧ x.tdiv 2 ≤ 1000 := by
  have h : (x.tdiv 2).natAbs = x.natAbs / 2 := Int.natAbs_tdiv x 2
  omega
/-- how many operands a step has -/
def opn (S : Pg) (v : Int) : Int := if S 0 v = 3 then 4 else 2
/-- an operand of v is fit -/
def OK1 (S : Pg) (v i : Int) : Prop := (0 ≤ S 8 i → S 8 i < v ∧ 0 ≤ S 5 (S 8 i) ∧ S 5 (S 8 i) ≤ 8 ∧ 0 ≤ S 6 (S 8 i) ∧ S 6 (S 8 i) ≤ 1000000) ∧ (S 8 i < 0 → -1000 ≤ S 9 i ∧ S 9 i ≤ 1000)
def OKv (S : Pg) (v : Int) : Prop := ∀ k, 0 ≤ k → k < opn S v → OK1 S v (4 * v + k)
set_option maxRecDepth 100000 in
set_option maxHeartbeats 4000000 in
theorem lp_X3_operandFine {E : Ev} {M : Mm} {N : Nn} {p : Nat} {v k : Int} {w : Int} (ho : pgC M p 8 (4 * v + k) < 0) : ∀ (n : Nat) (x i : Int), (i + n = 8) → (0 ≤ i) → (i ≤ 8) → (-1000 ≤ x) → (x ≤ 1000) → (i + two8 n x = two8 8 (pgC M p 9 (4 * v + k))) → Go E RX3 cX3_operandFine 6 ((some .int)) (rmH 1) 0 0 (zM E (qi (fun r M1 N1 => r = opF (pgC M p) (pgC M p 5) (4 * v + k) ∧ M = M1 ∧ N = N1))) 37 [vr (18, p, 0), vi v, vi k, vi w, vi x, vi i] [] M N := by
  intro n
  induction n using Nat.strongRecOn with
  | ind n ih =>
  intro x i hn h0 h2 h3 h4 h5
  refine go_iload dX3_operandFine_37 rfl ?_
  refine go_bipush dX3_operandFine_39 ⟨by decide, by decide⟩ ?_
  refine go_icmp_ge (tgt := 63) dX3_operandFine_41 rfl (fun h41 => ?_) (fun h41 => ?_)
  · refine go_iload dX3_operandFine_63 rfl ?_
    refine go_reti dX3_operandFine_65 ?_
    refine ⟨?_, rfl, rfl⟩
    unfold opF
    rw [if_neg (by omega), ← h5]
    first
    | (rw [show n = 0 by omega]; exact (Int.add_zero i).symm)
    | (obtain ⟨m, rfl⟩ : ∃ m, n = m + 1 := ⟨n - 1, by omega⟩
       show i = i + (if x.tmod 2 = 0 then _ else 0)
       rw [if_neg h48, Int.add_zero])
  · refine go_iload dX3_operandFine_44 rfl ?_
    refine go_iconst dX3_operandFine_46 (R32_lit rfl) ?_
    refine go_irem dX3_operandFine_47 (by decide) ?_
    refine go_if_ne (tgt := 63) dX3_operandFine_48 rfl (fun h48 => ?_) (fun h48 => ?_)
    · refine go_iload dX3_operandFine_63 rfl ?_
      refine go_reti dX3_operandFine_65 ?_
      refine ⟨?_, rfl, rfl⟩
      unfold opF
      rw [if_neg (by omega), ← h5]
      first
      | (rw [show n = 0 by omega]; exact (Int.add_zero i).symm)
      | (obtain ⟨m, rfl⟩ : ∃ m, n = m + 1 := ⟨n - 1, by omega⟩
         show i = i + (if x.tmod 2 = 0 then _ else 0)
         rw [if_neg h48, Int.add_zero])
    · refine go_iload dX3_operandFine_51 rfl ?_
      refine go_iconst dX3_operandFine_53 (R32_lit rfl) ?_
      refine go_idivc dX3_operandFine_54 (by decide) ⟨by have := (tdiv2_bd h3 h4).1; omega, by have := (tdiv2_bd h3 h4).2; omega⟩ ?_
      refine go_ist4 dX3_operandFine_55 rfl rfl ?_
      refine go_iinc5c dX3_operandFine_57 rfl rfl ⟨by omega, by omega⟩ ?_
      refine go_goto (tgt := 37) dX3_operandFine_60 rfl ?_
      exact ih (n - 1) (by omega) (x.tdiv 2) (i + 1) (by omega) (by omega) (by omega) (tdiv2_bd h3 h4).1 (tdiv2_bd h3 h4).2 (by
        rw [← h5]
        have e : two8 n x = (if x.tmod 2 = 0 then 1 + two8 (n - 1) (x.tdiv 2) else 0) := by
          obtain ⟨m, rfl⟩ : ∃ m, n = m + 1 := ⟨n - 1, by omega⟩
          rfl
        rw [e, if_pos h48]
        omega)
set_option maxRecDepth 100000 in
set_option maxHeartbeats 4000000 in
theorem ct_X3_operandFine {E : Ev} {M : Mm} {N : Nn} {p : Nat} {v k : Int} (h0 : 0 ≤ v) (h1 : v < 15) (k0 : 0 ≤ k) (k1 : k < 4) (ho : OK1 (pgC M p) v (4 * v + k)) : Ct E yX3_operandFine cX3_operandFine 6 ((some .int)) (rmH 1) [vr (18, p, 0), vi v, vi k] M N (qi (fun r M1 N1 => r = opF (pgC M p) (pgC M p 5) (4 * v + k) ∧ M = M1 ∧ N = N1)) := by
  refine ct_of (own := RX3) (L0 := [vr (18, p, 0), vi v, vi k, vn, vn, vn]) rfl (by decide +kernel) rfl rfl ?_
  refine go_aload_n dX3_operandFine_0 rfl rfl ?_
  refine g3_37 dX3_operandFine_1 ?_
  refine go_iload_n dX3_operandFine_4 rfl ?_
  refine go_iconst dX3_operandFine_5 (R32_lit rfl) ?_
  refine go_imulc dX3_operandFine_6 ⟨by omega, by omega⟩ ?_
  refine go_iload_n dX3_operandFine_7 rfl ?_
  refine go_iaddc dX3_operandFine_8 ⟨by omega, by omega⟩ ?_
  refine go_iald dX3_operandFine_9 rfl (by omega) (by omega) ?_
  rw [show v * 4 + k = 4 * v + k by omega]
  refine go_nmi (fun w ew => ?_)
  have ew : w = pgC M p 8 (4 * v + k) := ew
  have ho1 := ho.1
  have ho2 := ho.2
  rw [← ew] at ho1 ho2
  refine go_ist3 dX3_operandFine_10 rfl rfl ?_
  refine go_iload_n dX3_operandFine_11 rfl ?_
  refine go_if_lt (tgt := 22) dX3_operandFine_12 rfl (fun h12 => ?_) (fun h12 => ?_)
  · refine go_aload_n dX3_operandFine_22 rfl rfl ?_
    refine g3_40 dX3_operandFine_23 ?_
    refine go_iload_n dX3_operandFine_26 rfl ?_
    refine go_iconst dX3_operandFine_27 (R32_lit rfl) ?_
    refine go_imulc dX3_operandFine_28 ⟨by omega, by omega⟩ ?_
    refine go_iload_n dX3_operandFine_29 rfl ?_
    refine go_iaddc dX3_operandFine_30 ⟨by omega, by omega⟩ ?_
    refine go_iald dX3_operandFine_31 rfl (by omega) (by omega) ?_
    rw [show v * 4 + k = 4 * v + k by omega]
    have hw := ho2 h12
    refine go_nmi (fun x ex => ?_)
    have ex : x = pgC M p 9 (4 * v + k) := ex
    rw [← ex] at hw
    refine go_ist4 dX3_operandFine_32 rfl rfl ?_
    refine go_iconst dX3_operandFine_34 (R32_lit rfl) ?_
    refine go_ist5 dX3_operandFine_35 rfl rfl ?_
    exact lp_X3_operandFine (by omega) 8 x 0 (by omega) (by omega) (by omega) (by omega) (by omega) (by rw [ex, Int.zero_add])
  · have hw := ho1 (by omega)
    refine go_aload_n dX3_operandFine_15 rfl rfl ?_
    refine g3_27 dX3_operandFine_16 ?_
    refine go_iload_n dX3_operandFine_19 rfl ?_
    refine go_iald dX3_operandFine_20 rfl (by omega) (by omega) ?_
    exact go_reti dX3_operandFine_21 ⟨by unfold opF; rw [← ew, if_pos (by omega)]; rfl, rfl, rfl⟩
set_option maxRecDepth 100000 in
set_option maxHeartbeats 4000000 in
theorem ct_X3_operandWeight {E : Ev} {M : Mm} {N : Nn} {p : Nat} {v k : Int} (h0 : 0 ≤ v) (h1 : v < 15) (k0 : 0 ≤ k) (k1 : k < 4) (ho : OK1 (pgC M p) v (4 * v + k)) : Ct E yX3_operandWeight cX3_operandWeight 5 ((some .long)) (rmH 2) [vr (18, p, 0), vi v, vi k] M N (ql (fun r M1 N1 => r = opW (pgC M p) (pgC M p 6) (4 * v + k) ∧ M = M1 ∧ N = N1)) := by
  refine ct_of (own := RX3) (L0 := [vr (18, p, 0), vi v, vi k, vn, vn]) rfl (by decide +kernel) rfl rfl ?_
  refine go_aload_n dX3_operandWeight_0 rfl rfl ?_
  refine g3_37 dX3_operandWeight_1 ?_
  refine go_iload_n dX3_operandWeight_4 rfl ?_
  refine go_iconst dX3_operandWeight_5 (R32_lit rfl) ?_
  refine go_imulc dX3_operandWeight_6 ⟨by omega, by omega⟩ ?_
  refine go_iload_n dX3_operandWeight_7 rfl ?_
  refine go_iaddc dX3_operandWeight_8 ⟨by omega, by omega⟩ ?_
  refine go_iald dX3_operandWeight_9 rfl (by omega) (by omega) ?_
  rw [show v * 4 + k = 4 * v + k by omega]
  refine go_nmi (fun w ew => ?_)
  have ew : w = pgC M p 8 (4 * v + k) := ew
  have ho1 := ho.1
  have ho2 := ho.2
  rw [← ew] at ho1 ho2
  refine go_ist3 dX3_operandWeight_10 rfl rfl ?_
  refine go_iload_n dX3_operandWeight_11 rfl ?_
  refine go_if_lt (tgt := 22) dX3_operandWeight_12 rfl (fun h12 => ?_) (fun h12 => ?_)
  · refine go_aload_n dX3_operandWeight_22 rfl rfl ?_
    refine g3_40 dX3_operandWeight_23 ?_
    refine go_iload_n dX3_operandWeight_26 rfl ?_
    refine go_iconst dX3_operandWeight_27 (R32_lit rfl) ?_
    refine go_imulc dX3_operandWeight_28 ⟨by omega, by omega⟩ ?_
    refine go_iload_n dX3_operandWeight_29 rfl ?_
    refine go_iaddc dX3_operandWeight_30 ⟨by omega, by omega⟩ ?_
    refine go_iald dX3_operandWeight_31 rfl (by omega) (by omega) ?_
    rw [show v * 4 + k = 4 * v + k by omega]
    have hw := ho2 h12
    refine go_nmi (fun x ex => ?_)
    have ex : x = pgC M p 9 (4 * v + k) := ex
    rw [← ex] at hw
    refine go_ist4 dX3_operandWeight_32 rfl rfl ?_
    refine go_iload dX3_operandWeight_34 rfl ?_
    refine go_if_ge (tgt := 46) dX3_operandWeight_36 rfl (fun h36 => ?_) (fun h36 => ?_)
    · refine go_iload dX3_operandWeight_46 rfl ?_
      refine go_i2l dX3_operandWeight_48 ?_
      refine go_retl dX3_operandWeight_49 ?_
      refine ⟨?_, rfl, rfl⟩
      unfold opW
      rw [← ew]
      first
      | (rw [if_pos (by omega)]; rfl)
      | (rw [if_neg (show ¬ 0 ≤ w by omega), ← ex]
         omega)
    · refine go_iload dX3_operandWeight_39 rfl ?_
      refine go_inegc dX3_operandWeight_41 ⟨by omega, by omega⟩ ?_
      refine go_i2l dX3_operandWeight_42 ?_
      refine go_goto (tgt := 49) dX3_operandWeight_43 rfl ?_
      refine go_retl dX3_operandWeight_49 ?_
      refine ⟨?_, rfl, rfl⟩
      unfold opW
      rw [← ew]
      first
      | (rw [if_pos (by omega)]; rfl)
      | (rw [if_neg (show ¬ 0 ≤ w by omega), ← ex]
         omega)
  · have hw := ho1 (by omega)
    refine go_aload_n dX3_operandWeight_15 rfl rfl ?_
    refine g3_30 dX3_operandWeight_16 ?_
    refine go_iload_n dX3_operandWeight_19 rfl ?_
    refine go_lald dX3_operandWeight_20 rfl (by omega) (by omega) ?_
    refine go_retl dX3_operandWeight_21 ?_
    refine ⟨?_, rfl, rfl⟩
    unfold opW
    rw [← ew]
    first
    | (rw [if_pos (by omega)]; rfl)
    | (rw [if_neg (show ¬ 0 ≤ w by omega), ← ex]
       omega)
theorem opF_bd {S : Pg} {v i : Int} (h : OK1 S v i) : 0 ≤ opF S (S 5) i ∧ opF S (S 5) i ≤ 8 := by
  unfold opF
  split
  · rename_i h0; have := h.1 h0; omega
  · exact two8_le 8 _
theorem opW_bd {S : Pg} {v i : Int} (h : OK1 S v i) : 0 ≤ opW S (S 6) i ∧ opW S (S 6) i ≤ 1000000 := by
  unfold opW
  split
  · rename_i h0; have := h.1 h0; omega
  · have := h.2 (by omega); omega
theorem OKv.at {S : Pg} {v : Int} (h : OKv S v) (k : Int) (h0 : 0 ≤ k) (h1 : k < opn S v) : OK1 S v (4 * v + k) := h k h0 h1
theorem opn_ge (S : Pg) (v : Int) : 2 ≤ opn S v := by unfold opn; split <;> decide
theorem opn_3 {S : Pg} {v : Int} (h : S 0 v = 3) : opn S v = 4 := if_pos h
set_option maxRecDepth 100000 in
set_option maxHeartbeats 4000000 in
theorem ct_X3_reckonedFine {E : Ev} {M : Mm} {N : Nn} {p : Nat} {v : Int} (h0 : 0 ≤ v) (h1 : v < 15) (hv : OKv (pgC M p) v) : Ct E yX3_reckonedFine cX3_reckonedFine 4 ((some .int)) (rmH 2) [vr (18, p, 0), vi v] M N (qi (fun r M1 N1 => r = rfS (pgC M p) (pgC M p 5) v ∧ M = M1 ∧ N = N1)) := by
  refine ct_of (own := RX3) (L0 := [vr (18, p, 0), vi v, vn, vn]) rfl (by decide +kernel) rfl rfl ?_
  refine go_aload_n dX3_reckonedFine_0 rfl rfl ?_
  refine g3_9 dX3_reckonedFine_1 ?_
  refine go_iload_n dX3_reckonedFine_4 rfl ?_
  refine go_iald dX3_reckonedFine_5 rfl (by omega) (by omega) ?_
  refine go_nmi (fun s0 es => ?_)
  have es : s0 = pgC M p 0 v := es
  refine go_iconst dX3_reckonedFine_6 (R32_lit rfl) ?_
  refine go_icmp_ne (tgt := 26) dX3_reckonedFine_7 rfl (fun h7 => ?_) (fun h7 => ?_)
  · refine go_aload_n dX3_reckonedFine_26 rfl rfl ?_
    refine go_iload_n dX3_reckonedFine_27 rfl ?_
    refine go_iconst dX3_reckonedFine_28 (R32_lit rfl) ?_
    refine v3_91 dX3_reckonedFine_29 rfl ⟨rfl, rfl⟩ ⟨rfl, rfl⟩ (ct_X3_operandFine h0 h1 (by omega) (by omega) (hv.at 0 (by omega) (by have := opn_ge (pgC M p) v; omega))) (fun r4 M4 N4 hr4 hq4 => ?_)
    obtain ⟨e2, rfl, rfl⟩ := hq4
    refine go_ist2 dX3_reckonedFine_32 rfl rfl ?_
    refine go_aload_n dX3_reckonedFine_33 rfl rfl ?_
    refine go_iload_n dX3_reckonedFine_34 rfl ?_
    refine go_iconst dX3_reckonedFine_35 (R32_lit rfl) ?_
    refine v3_91 dX3_reckonedFine_36 rfl ⟨rfl, rfl⟩ ⟨rfl, rfl⟩ (ct_X3_operandFine h0 h1 (by omega) (by omega) (hv.at 1 (by omega) (by have := opn_ge (pgC M p) v; omega))) (fun r5 M5 N5 hr5 hq5 => ?_)
    obtain ⟨e3, rfl, rfl⟩ := hq5
    have b2 := opF_bd (hv.at 0 (by omega) (by have := opn_ge (pgC M p) v; omega))
    have b3 := opF_bd (hv.at 1 (by omega) (by have := opn_ge (pgC M p) v; omega))
    rw [← e2] at b2
    rw [← e3] at b3
    refine go_ist3 dX3_reckonedFine_39 rfl rfl ?_
    refine go_aload_n dX3_reckonedFine_40 rfl rfl ?_
    refine g3_9 dX3_reckonedFine_41 ?_
    refine go_iload_n dX3_reckonedFine_44 rfl ?_
    refine go_iald dX3_reckonedFine_45 rfl (by omega) (by omega) ?_
    refine go_nmi (fun s1 es1 => ?_)
    have es1 : s1 = pgC M p 0 v := es1
    refine go_iconst dX3_reckonedFine_46 (R32_lit rfl) ?_
    refine go_icmp_ne (tgt := 61) dX3_reckonedFine_47 rfl (fun h47 => ?_) (fun h47 => ?_)
    · refine go_iload_n dX3_reckonedFine_61 rfl ?_
      refine go_iload_n dX3_reckonedFine_62 rfl ?_
      refine v3_94 dX3_reckonedFine_63 rfl ⟨rfl, rfl⟩ ⟨rfl, rfl⟩ ct_J9_min_7cf53 (fun r7 M7 N7 hr7 hq7 => ?_)
      refine go_reti dX3_reckonedFine_66 ?_
      first
      | (obtain ⟨hz, rfl, rfl⟩ := hq6
         refine ⟨?_, rfl, rfl⟩
         unfold rfS
         rw [if_neg (show ¬ pgC M p 0 v = 3 by omega), if_pos (show pgC M p 0 v = 2 by omega), hz, e2, e3, Int.add_zero])
      | (obtain ⟨hz, rfl, rfl⟩ := hq7
         refine ⟨?_, rfl, rfl⟩
         unfold rfS
         rw [if_neg (show ¬ pgC M p 0 v = 3 by omega), if_neg (show ¬ pgC M p 0 v = 2 by omega), hz, e2, e3, Int.add_zero])
    · refine go_iload_n dX3_reckonedFine_50 rfl ?_
      refine go_iload_n dX3_reckonedFine_51 rfl ?_
      refine go_iaddc dX3_reckonedFine_52 ⟨by omega, by omega⟩ ?_
      refine go_bipush dX3_reckonedFine_53 ⟨by decide, by decide⟩ ?_
      refine v3_94 dX3_reckonedFine_55 rfl ⟨rfl, rfl⟩ ⟨rfl, rfl⟩ ct_J9_min_7cf53 (fun r6 M6 N6 hr6 hq6 => ?_)
      refine go_goto (tgt := 66) dX3_reckonedFine_58 rfl ?_
      refine go_reti dX3_reckonedFine_66 ?_
      first
      | (obtain ⟨hz, rfl, rfl⟩ := hq6
         refine ⟨?_, rfl, rfl⟩
         unfold rfS
         rw [if_neg (show ¬ pgC M p 0 v = 3 by omega), if_pos (show pgC M p 0 v = 2 by omega), hz, e2, e3, Int.add_zero])
      | (obtain ⟨hz, rfl, rfl⟩ := hq7
         refine ⟨?_, rfl, rfl⟩
         unfold rfS
         rw [if_neg (show ¬ pgC M p 0 v = 3 by omega), if_neg (show ¬ pgC M p 0 v = 2 by omega), hz, e2, e3, Int.add_zero])
  · refine go_aload_n dX3_reckonedFine_10 rfl rfl ?_
    refine go_iload_n dX3_reckonedFine_11 rfl ?_
    refine go_iconst dX3_reckonedFine_12 (R32_lit rfl) ?_
    refine v3_91 dX3_reckonedFine_13 rfl ⟨rfl, rfl⟩ ⟨rfl, rfl⟩ (ct_X3_operandFine h0 h1 (by omega) (by omega) (hv.at 2 (by omega) (by rw [opn_3 (by omega)]; omega))) (fun r1 M1 N1 hr1 hq1 => ?_)
    obtain ⟨e2, rfl, rfl⟩ := hq1
    refine go_aload_n dX3_reckonedFine_16 rfl rfl ?_
    refine go_iload_n dX3_reckonedFine_17 rfl ?_
    refine go_iconst dX3_reckonedFine_18 (R32_lit rfl) ?_
    refine v3_91 dX3_reckonedFine_19 rfl ⟨rfl, rfl⟩ ⟨rfl, rfl⟩ (ct_X3_operandFine h0 h1 (by omega) (by omega) (hv.at 3 (by omega) (by rw [opn_3 (by omega)]; omega))) (fun r2 M2 N2 hr2 hq2 => ?_)
    obtain ⟨e3, rfl, rfl⟩ := hq2
    subst e2 e3
    refine v3_94 dX3_reckonedFine_22 rfl ⟨rfl, rfl⟩ ⟨rfl, rfl⟩ ct_J9_min_7cf53 (fun r3 M3 N3 hr3 hq3 => ?_)
    obtain ⟨hz, rfl, rfl⟩ := hq3
    refine go_reti dX3_reckonedFine_25 ?_
    refine ⟨?_, rfl, rfl⟩
    unfold rfS
    rw [if_pos (by omega)]; exact hz
theorem mul_bd {a b : Int} (ha : 0 ≤ a ∧ a ≤ 1000000) (hb : 0 ≤ b ∧ b ≤ 1000000) : 0 ≤ a * b ∧ a * b ≤ 1000000000000 := by
  refine ⟨Int.mul_nonneg ha.1 hb.1, ?_⟩
  have h1 : a * b ≤ 1000000 * b := Int.mul_le_mul_of_nonneg_right ha.2 hb.1
  omega
set_option maxRecDepth 100000 in
set_option maxHeartbeats 4000000 in
theorem ct_X3_reckonedWeight {E : Ev} {M : Mm} {N : Nn} {p : Nat} {v : Int} (h0 : 0 ≤ v) (h1 : v < 15) (hv : OKv (pgC M p) v) : Ct E yX3_reckonedWeight cX3_reckonedWeight 6 ((some .long)) (rmH 3) [vr (18, p, 0), vi v] M N (ql (fun r M1 N1 => r = rwS (pgC M p) (pgC M p 6) v ∧ M = M1 ∧ N = N1)) := by
  refine ct_of (own := RX3) (L0 := [vr (18, p, 0), vi v, vn, vn, vn, vn]) rfl (by decide +kernel) rfl rfl ?_
  refine go_aload_n dX3_reckonedWeight_0 rfl rfl ?_
  refine g3_9 dX3_reckonedWeight_1 ?_
  refine go_iload_n dX3_reckonedWeight_4 rfl ?_
  refine go_iald dX3_reckonedWeight_5 rfl (by omega) (by omega) ?_
  refine go_nmi (fun s0 es => ?_)
  have es : s0 = pgC M p 0 v := es
  refine go_iconst dX3_reckonedWeight_6 (R32_lit rfl) ?_
  refine go_icmp_ne (tgt := 28) dX3_reckonedWeight_7 rfl (fun h7 => ?_) (fun h7 => ?_)
  · refine go_aload_n dX3_reckonedWeight_28 rfl rfl ?_
    refine go_iload_n dX3_reckonedWeight_29 rfl ?_
    refine go_iconst dX3_reckonedWeight_30 (R32_lit rfl) ?_
    refine v3_99 dX3_reckonedWeight_31 rfl ⟨rfl, rfl⟩ ⟨rfl, rfl⟩ (ct_X3_operandWeight h0 h1 (by omega) (by omega) (hv.at 0 (by omega) (by have := opn_ge (pgC M p) v; omega))) (fun r4 M4 N4 hr4 hq4 => ?_)
    obtain ⟨e2, rfl, rfl⟩ := hq4
    have b2 := opW_bd (hv.at 0 (by omega) (by have := opn_ge (pgC M p) v; omega))
    rw [← e2] at b2
    refine go_lst2 dX3_reckonedWeight_34 rfl rfl ?_
    refine go_aload_n dX3_reckonedWeight_35 rfl rfl ?_
    refine go_iload_n dX3_reckonedWeight_36 rfl ?_
    refine go_iconst dX3_reckonedWeight_37 (R32_lit rfl) ?_
    refine v3_99 dX3_reckonedWeight_38 rfl ⟨rfl, rfl⟩ ⟨rfl, rfl⟩ (ct_X3_operandWeight h0 h1 (by omega) (by omega) (hv.at 1 (by omega) (by have := opn_ge (pgC M p) v; omega))) (fun r5 M5 N5 hr5 hq5 => ?_)
    obtain ⟨e3, rfl, rfl⟩ := hq5
    have b3 := opW_bd (hv.at 1 (by omega) (by have := opn_ge (pgC M p) v; omega))
    rw [← e3] at b3
    have bm := mul_bd b2 b3
    refine go_lst4 dX3_reckonedWeight_41 rfl rfl ?_
    refine go_aload_n dX3_reckonedWeight_43 rfl rfl ?_
    refine g3_9 dX3_reckonedWeight_44 ?_
    refine go_iload_n dX3_reckonedWeight_47 rfl ?_
    refine go_iald dX3_reckonedWeight_48 rfl (by omega) (by omega) ?_
    refine go_nmi (fun s1 es1 => ?_)
    have es1 : s1 = pgC M p 0 v := es1
    refine go_iconst dX3_reckonedWeight_49 (R32_lit rfl) ?_
    refine go_icmp_ne (tgt := 60) dX3_reckonedWeight_50 rfl (fun h50 => ?_) (fun h50 => ?_)
    · refine go_lload_n dX3_reckonedWeight_60 rfl ?_
      refine go_lload dX3_reckonedWeight_61 rfl ?_
      refine go_laddc dX3_reckonedWeight_63 ⟨by omega, by omega⟩ ?_
      refine go_retl dX3_reckonedWeight_64 ?_
      refine ⟨?_, rfl, rfl⟩
      unfold rwS
      first
      | (rw [if_pos (show pgC M p 0 v = 3 by omega), e2, e3])
      | (rw [if_neg (show ¬ pgC M p 0 v = 3 by omega), if_pos (show pgC M p 0 v = 2 by omega), e2, e3, Int.add_zero])
      | (rw [if_neg (show ¬ pgC M p 0 v = 3 by omega), if_neg (show ¬ pgC M p 0 v = 2 by omega), e2, e3, Int.add_zero])
    · refine go_lload_n dX3_reckonedWeight_53 rfl ?_
      refine go_lload dX3_reckonedWeight_54 rfl ?_
      refine go_lmulc dX3_reckonedWeight_56 ⟨by omega, by omega⟩ ?_
      refine go_goto (tgt := 64) dX3_reckonedWeight_57 rfl ?_
      refine go_retl dX3_reckonedWeight_64 ?_
      refine ⟨?_, rfl, rfl⟩
      unfold rwS
      first
      | (rw [if_pos (show pgC M p 0 v = 3 by omega), e2, e3])
      | (rw [if_neg (show ¬ pgC M p 0 v = 3 by omega), if_pos (show pgC M p 0 v = 2 by omega), e2, e3, Int.add_zero])
      | (rw [if_neg (show ¬ pgC M p 0 v = 3 by omega), if_neg (show ¬ pgC M p 0 v = 2 by omega), e2, e3, Int.add_zero])
  · refine c3_97 dX3_reckonedWeight_10 ?_
    refine go_aload_n dX3_reckonedWeight_13 rfl rfl ?_
    refine go_iload_n dX3_reckonedWeight_14 rfl ?_
    refine go_iconst dX3_reckonedWeight_15 (R32_lit rfl) ?_
    refine v3_99 dX3_reckonedWeight_16 rfl ⟨rfl, rfl⟩ ⟨rfl, rfl⟩ (ct_X3_operandWeight h0 h1 (by omega) (by omega) (hv.at 2 (by omega) (by rw [opn_3 (by omega)]; omega))) (fun r1 M1 N1 hr1 hq1 => ?_)
    obtain ⟨e2, rfl, rfl⟩ := hq1
    have b2 := opW_bd (hv.at 2 (by omega) (by rw [opn_3 (by omega)]; omega))
    rw [← e2] at b2
    refine go_aload_n dX3_reckonedWeight_19 rfl rfl ?_
    refine go_iload_n dX3_reckonedWeight_20 rfl ?_
    refine go_iconst dX3_reckonedWeight_21 (R32_lit rfl) ?_
    refine v3_99 dX3_reckonedWeight_22 rfl ⟨rfl, rfl⟩ ⟨rfl, rfl⟩ (ct_X3_operandWeight h0 h1 (by omega) (by omega) (hv.at 3 (by omega) (by rw [opn_3 (by omega)]; omega))) (fun r2 M2 N2 hr2 hq2 => ?_)
    obtain ⟨e3, rfl, rfl⟩ := hq2
    have b3 := opW_bd (hv.at 3 (by omega) (by rw [opn_3 (by omega)]; omega))
    rw [← e3] at b3
    refine go_laddc dX3_reckonedWeight_25 ⟨by omega, by omega⟩ ?_
    refine go_lmulc dX3_reckonedWeight_26 ⟨by omega, by omega⟩ ?_
    refine go_retl dX3_reckonedWeight_27 ?_
    refine ⟨?_, rfl, rfl⟩
    unfold rwS
    first
    | (rw [if_pos (show pgC M p 0 v = 3 by omega), e2, e3])
    | (rw [if_neg (show ¬ pgC M p 0 v = 3 by omega), if_pos (show pgC M p 0 v = 2 by omega), e2, e3, Int.add_zero])
    | (rw [if_neg (show ¬ pgC M p 0 v = 3 by omega), if_neg (show ¬ pgC M p 0 v = 2 by omega), e2, e3, Int.add_zero])
