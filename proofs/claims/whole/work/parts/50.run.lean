theorem land_nat {a b : Int} (h0 : 0 ≤ b) (h1 : b < 9223372036854775808) : land a b = (((a % 18446744073709551616).toNat &&& b.toNat : Nat) : Int) := by
  unfold land
  show ((Int64.ofInt a &&& Int64.ofInt b).toBitVec).toInt = _
  have e1 : (Int64.ofInt a &&& Int64.ofInt b).toBitVec = BitVec.ofInt 64 a &&& BitVec.ofInt 64 b := rfl
  rw [e1]
  have e2 : (BitVec.ofInt 64 a &&& BitVec.ofInt 64 b).toNat = (a % 18446744073709551616).toNat &&& b.toNat := by
    rw [BitVec.toNat_and, BitVec.toNat_ofInt, BitVec.toNat_ofInt]
    have h2 : b % ((2 ^ 64 : Nat) : Int) = b := Int.emod_eq_of_lt h0 (by omega)
    rw [h2]
    rfl
  have e3 : (a % 18446744073709551616).toNat &&& b.toNat ≤ b.toNat := Nat.and_le_right
  rw [BitVec.toInt_eq_toNat_of_lt (by rw [e2]; omega), e2]
theorem land_mask {n k : Int} (h0 : 0 ≤ k) (h1 : k ≤ 8) : land n (p2 k - 1) = n % p2 k := by
  have hb := p2_bd h0 h1
  rw [land_nat (by omega) (by omega)]
  have e : (p2 k - 1).toNat = 2 ^ k.toNat - 1 := by
    have h : k = 0 ∨ k = 1 ∨ k = 2 ∨ k = 3 ∨ k = 4 ∨ k = 5 ∨ k = 6 ∨ k = 7 ∨ k = 8 := by omega
    rcases h with rfl | rfl | rfl | rfl | rfl | rfl | rfl | rfl | rfl <;> rfl
  rw [e, Nat.and_two_pow_sub_one_eq_mod]
  have h : k = 0 ∨ k = 1 ∨ k = 2 ∨ k = 3 ∨ k = 4 ∨ k = 5 ∨ k = 6 ∨ k = 7 ∨ k = 8 := by omega
  rcases h with rfl | rfl | rfl | rfl | rfl | rfl | rfl | rfl | rfl
  · show (((n % 18446744073709551616).toNat % 1 : Nat) : Int) = n % 1; omega
  · show (((n % 18446744073709551616).toNat % 2 : Nat) : Int) = n % 2; omega
  · show (((n % 18446744073709551616).toNat % 4 : Nat) : Int) = n % 4; omega
  · show (((n % 18446744073709551616).toNat % 8 : Nat) : Int) = n % 8; omega
  · show (((n % 18446744073709551616).toNat % 16 : Nat) : Int) = n % 16; omega
  · show (((n % 18446744073709551616).toNat % 32 : Nat) : Int) = n % 32; omega
  · show (((n % 18446744073709551616).toNat % 64 : Nat) : Int) = n % 64; omega
  · show (((n % 18446744073709551616).toNat % 128 : Nat) : Int) = n % 128; omega
  · show (((n % 18446744073709551616).toNat % 256 : Nat) : Int) = n % 256; omega
theorem and_bit (x k : Nat) : x &&& 2 ^ k ≠ 0 ↔ x / 2 ^ k % 2 = 1 := by
  constructor
  · intro h
    obtain ⟨i, hi⟩ := Nat.exists_testBit_of_ne_zero h
    rw [Nat.testBit_and, Bool.and_eq_true] at hi
    have e : k = i := by
      rcases Classical.em (k = i) with q | q
      · exact q
      · rw [Nat.testBit_two_pow_of_ne q] at hi; exact absurd hi.2 Bool.false_ne_true
    subst e
    have h1 := hi.1
    rw [Nat.testBit_eq_decide_div_mod_eq, decide_eq_true_eq] at h1
    exact h1
  · intro h q
    have h1 : (x &&& 2 ^ k).testBit k = true := by
      rw [Nat.testBit_and, Nat.testBit_two_pow_self, Bool.and_true, Nat.testBit_eq_decide_div_mod_eq, decide_eq_true_eq]
      exact h
    rw [q, Nat.zero_testBit] at h1
    exact Bool.false_ne_true h1
theorem land_odd {n k : Int} (h0 : 0 ≤ k) (h1 : k ≤ 8) : land n (p2 k) ≠ 0 ↔ n / p2 k % 2 = 1 := by
  have hb := p2_bd h0 h1
  rw [land_nat (by omega) (by omega)]
  have e : (p2 k).toNat = 2 ^ k.toNat := by
    have h : k = 0 ∨ k = 1 ∨ k = 2 ∨ k = 3 ∨ k = 4 ∨ k = 5 ∨ k = 6 ∨ k = 7 ∨ k = 8 := by omega
    rcases h with rfl | rfl | rfl | rfl | rfl | rfl | rfl | rfl | rfl <;> rfl
  have e2 : (((n % 18446744073709551616).toNat &&& (p2 k).toNat : Nat) : Int) ≠ 0 ↔ (n % 18446744073709551616).toNat &&& 2 ^ k.toNat ≠ 0 := by
    rw [e]; omega
  rw [e2, and_bit]
  have h : k = 0 ∨ k = 1 ∨ k = 2 ∨ k = 3 ∨ k = 4 ∨ k = 5 ∨ k = 6 ∨ k = 7 ∨ k = 8 := by omega
  rcases h with rfl | rfl | rfl | rfl | rfl | rfl | rfl | rfl | rfl
  · show (n % 18446744073709551616).toNat / 1 % 2 = 1 ↔ n / 1 % 2 = 1; omega
  · show (n % 18446744073709551616).toNat / 2 % 2 = 1 ↔ n / 2 % 2 = 1; omega
  · show (n % 18446744073709551616).toNat / 4 % 2 = 1 ↔ n / 4 % 2 = 1; omega
  · show (n % 18446744073709551616).toNat / 8 % 2 = 1 ↔ n / 8 % 2 = 1; omega
  · show (n % 18446744073709551616).toNat / 16 % 2 = 1 ↔ n / 16 % 2 = 1; omega
  · show (n % 18446744073709551616).toNat / 32 % 2 = 1 ↔ n / 32 % 2 = 1; omega
  · show (n % 18446744073709551616).toNat / 64 % 2 = 1 ↔ n / 64 % 2 = 1; omega
  · show (n % 18446744073709551616).toNat / 128 % 2 = 1 ↔ n / 128 % 2 = 1; omega
  · show (n % 18446744073709551616).toNat / 256 % 2 = 1 ↔ n / 256 % 2 = 1; omega
/-- rounded to the nearest multiple, of two as near the even one -/
def rndS (n k : Int) : Int := if p2 k < 2 * (n % p2 k) ∨ (2 * (n % p2 k) = p2 k ∧ n / p2 k % 2 = 1) then w64 (n - n % p2 k + p2 k) else n - n % p2 k
def opE (S : Pg) (tab : Int → Int) (v k : Int) : Int := if 0 ≤ S 8 (4 * v + k) then tab (S 8 (4 * v + k)) else S 9 (4 * v + k)
def unS (S : Pg) (tab : Int → Int) (v : Int) : Int := if S 0 v = 0 then w64 (opE S tab v 0 + opE S tab v 1) else if S 0 v = 1 then w64 (opE S tab v 0 - opE S tab v 1) else if S 0 v = 2 then w64 (opE S tab v 0 * opE S tab v 1) else if opE S tab v 0 < opE S tab v 1 then opE S tab v 2 else opE S tab v 3
set_option maxRecDepth 100000 in
set_option maxHeartbeats 4000000 in
theorem ct_X5_rounded {E : Ev} {M : Mm} {N : Nn} {n k : Int} (k0 : 0 ≤ k) (k1 : k ≤ 8) : Ct E yX5_rounded cX5_rounded 10 ((some .long)) (rmH 1) [vl n, vi k] M N (ql (fun r M1 N1 => r = rndS n k ∧ M = M1 ∧ N = N1)) := by
  refine ct_of (own := RX5) (L0 := [vl n, vn, vi k, vn, vn, vn, vn, vn, vn, vn]) rfl (by decide +kernel) rfl rfl ?_
  refine go_rg (fun _ hL0 _ => ?_)
  have hr : R64 n := hL0.head
  have hp := p2_bd k0 k1
  have hk9 : k = 0 ∨ k = 1 ∨ k = 2 ∨ k = 3 ∨ k = 4 ∨ k = 5 ∨ k = 6 ∨ k = 7 ∨ k = 8 := by omega
  have hm : 0 ≤ n % p2 k ∧ n % p2 k < p2 k := ⟨Int.emod_nonneg _ (by omega), Int.emod_lt_of_pos _ (by omega)⟩
  have hlo : -9223372036854775808 ≤ n - n % p2 k := by
    have := hr.1
    rcases hk9 with rfl | rfl | rfl | rfl | rfl | rfl | rfl | rfl | rfl
    · show _ ≤ n - n % 1; omega
    · show _ ≤ n - n % 2; omega
    · show _ ≤ n - n % 4; omega
    · show _ ≤ n - n % 8; omega
    · show _ ≤ n - n % 16; omega
    · show _ ≤ n - n % 32; omega
    · show _ ≤ n - n % 64; omega
    · show _ ≤ n - n % 128; omega
    · show _ ≤ n - n % 256; omega
  have hdv : (n - n % p2 k) / p2 k = n / p2 k := by
    have e := Int.mul_ediv_add_emod n (p2 k)
    rw [show n - n % p2 k = p2 k * (n / p2 k) by omega]
    exact Int.mul_ediv_cancel_left _ (by omega)
  have hr2 := hr.2
  clear hk9
  refine go_lconst (x := 1) dX5_rounded_0 rfl ?_
  refine go_iload_n dX5_rounded_1 rfl ?_
  refine go_lshl dX5_rounded_2 ?_
  rw [lshl_p2 k0 k1]
  refine go_lst3 dX5_rounded_3 rfl rfl ?_
  refine go_lload_n dX5_rounded_4 rfl ?_
  refine go_lload_n dX5_rounded_5 rfl ?_
  refine go_lconst (x := 1) dX5_rounded_6 rfl ?_
  refine go_lsubc dX5_rounded_7 ⟨by omega, by omega⟩ ?_
  refine go_land dX5_rounded_8 ?_
  rw [land_mask k0 k1]
  refine go_lst5 dX5_rounded_9 rfl rfl ?_
  refine go_lload_n dX5_rounded_11 rfl ?_
  refine go_lload dX5_rounded_12 rfl ?_
  refine go_lsubc dX5_rounded_14 ⟨by omega, by omega⟩ ?_
  refine go_lst7 dX5_rounded_15 rfl rfl ?_
  refine go_lload dX5_rounded_17 rfl ?_
  refine go_lload_n dX5_rounded_19 rfl ?_
  refine go_land dX5_rounded_20 ?_
  refine go_lconst (x := 0) dX5_rounded_21 rfl ?_
  have jn31 : ∀ x : Int, x = (if land (n - n % p2 k) (p2 k) = 0 then 0 else 1) → Go E RX5 cX5_rounded 10 ((some .long)) (rmH 1) 0 0 (zM E (ql (fun r M1 N1 => r = rndS n k ∧ M = M1 ∧ N = N1))) 31 [vl n, vn, vi k, vl (p2 k), vn, vl (n % p2 k), vn, vl (n - n % p2 k), vn, vn] [vi x] M N := by
    intro x ex
    have ho : (x = 1 ↔ n / p2 k % 2 = 1) ∧ (x = 0 ∨ x = 1) := by
      have hl := land_odd (n := n - n % p2 k) k0 k1
      rw [hdv] at hl
      rw [ex]
      by_cases q : land (n - n % p2 k) (p2 k) = 0
      · rw [if_pos q]
        refine ⟨⟨fun z => absurd z (by decide), fun z => absurd q (hl.mpr z)⟩, Or.inl rfl⟩
      · rw [if_neg q]
        exact ⟨⟨fun _ => hl.mp q, fun _ => rfl⟩, Or.inr rfl⟩
    refine go_ist9 dX5_rounded_31 rfl rfl ?_
    refine c5_53 dX5_rounded_33 ?_
    refine go_lload dX5_rounded_36 rfl ?_
    refine go_lmulc dX5_rounded_38 ⟨by omega, by omega⟩ ?_
    refine go_lload_n dX5_rounded_39 rfl ?_
    refine go_lcmp_gt (tgt := 60) dX5_rounded_40 dX5_rounded_41 rfl (fun h40 => ?_) (fun h40 => ?_)
    · refine go_lload dX5_rounded_60 rfl ?_
      refine go_lload_n dX5_rounded_62 rfl ?_
      refine go_ladd dX5_rounded_63 ?_
      refine go_retl dX5_rounded_64 ?_
      refine ⟨?_, rfl, rfl⟩
      unfold rndS
      first
      | rw [if_pos (by omega)]
      | rw [if_neg (by omega)]
    · refine c5_53 dX5_rounded_44 ?_
      refine go_lload dX5_rounded_47 rfl ?_
      refine go_lmulc dX5_rounded_49 ⟨by omega, by omega⟩ ?_
      refine go_lload_n dX5_rounded_50 rfl ?_
      refine go_lcmp_ne (tgt := 65) dX5_rounded_51 dX5_rounded_52 rfl (fun h51 => ?_) (fun h51 => ?_)
      · refine go_lload dX5_rounded_65 rfl ?_
        refine go_retl dX5_rounded_67 ?_
        refine ⟨?_, rfl, rfl⟩
        unfold rndS
        first
        | rw [if_pos (by omega)]
        | rw [if_neg (by omega)]
      · refine go_iload dX5_rounded_55 rfl ?_
        refine go_if_eq (tgt := 65) dX5_rounded_57 rfl (fun h57 => ?_) (fun h57 => ?_)
        · refine go_lload dX5_rounded_65 rfl ?_
          refine go_retl dX5_rounded_67 ?_
          refine ⟨?_, rfl, rfl⟩
          unfold rndS
          first
          | rw [if_pos (by omega)]
          | rw [if_neg (by omega)]
        · refine go_lload dX5_rounded_60 rfl ?_
          refine go_lload_n dX5_rounded_62 rfl ?_
          refine go_ladd dX5_rounded_63 ?_
          refine go_retl dX5_rounded_64 ?_
          refine ⟨?_, rfl, rfl⟩
          unfold rndS
          first
          | rw [if_pos (by omega)]
          | rw [if_neg (by omega)]
  refine go_lcmp_eq (tgt := 30) dX5_rounded_22 dX5_rounded_23 rfl (fun h22 => ?_) (fun h22 => ?_)
  · refine go_iconst dX5_rounded_30 (R32_lit rfl) ?_
    exact jn31 _ (by first | rw [if_pos h22] | rw [if_neg h22])
  · refine go_iconst dX5_rounded_26 (R32_lit rfl) ?_
    refine go_goto (tgt := 31) dX5_rounded_27 rfl ?_
    exact jn31 _ (by first | rw [if_pos h22] | rw [if_neg h22])
set_option maxRecDepth 100000 in
set_option maxHeartbeats 4000000 in
theorem ct_X5_goesThen {E : Ev} {M : Mm} {N : Nn} {p : Nat} {kn : Nm} {v : Int} (hk : shp kn = (22, 15)) (hk0 : Nat.beq kn.1 0 = false) (h0 : 0 ≤ v) (h1 : v < 15) (ho : ∀ k, 0 ≤ k → k < opn (pgC M p) v → pgC M p 8 (4 * v + k) < 15) : Ct E yX5_goesThen cX5_goesThen 3 ((some .boolean)) (rmH 2) [vr (18, p, 0), vi v, vr kn] M N (qi (fun r M1 N1 => r = (if opE (pgC M p) (M kn) v 0 < opE (pgC M p) (M kn) v 1 then 1 else 0) ∧ M = M1 ∧ N = N1)) := by
  refine ct_of (own := RX5) (L0 := [vr (18, p, 0), vi v, vr kn]) rfl (by decide +kernel) rfl rfl ?_
  refine go_aload_n dX5_goesThen_0 rfl rfl ?_
  refine go_aload_n dX5_goesThen_1 rfl hk0 ?_
  refine go_iload_n dX5_goesThen_2 rfl ?_
  refine go_iconst dX5_goesThen_3 (R32_lit rfl) ?_
  refine v5_49 dX5_goesThen_4 rfl ⟨rfl, rfl⟩ ⟨rfl, rfl⟩ (ct_X3_operandIn hk hk0 h0 h1 (by decide) (by decide) (ho 0 (by decide) (by have := opn_ge (pgC M p) v; omega))) (fun r1 M1 N1 hr1 hq1 => ?_)
  obtain ⟨e1, rfl, rfl⟩ := hq1
  have e1 : r1 = opE (pgC M p) (M kn) v 0 := e1
  refine go_aload_n dX5_goesThen_7 rfl rfl ?_
  refine go_aload_n dX5_goesThen_8 rfl hk0 ?_
  refine go_iload_n dX5_goesThen_9 rfl ?_
  refine go_iconst dX5_goesThen_10 (R32_lit rfl) ?_
  refine v5_49 dX5_goesThen_11 rfl ⟨rfl, rfl⟩ ⟨rfl, rfl⟩ (ct_X3_operandIn hk hk0 h0 h1 (by decide) (by decide) (ho 1 (by decide) (by have := opn_ge (pgC M p) v; omega))) (fun r2 M2 N2 hr2 hq2 => ?_)
  obtain ⟨e2, rfl, rfl⟩ := hq2
  have e2 : r2 = opE (pgC M p) (M kn) v 1 := e2
  refine go_lcmp_ge (tgt := 22) dX5_goesThen_14 dX5_goesThen_15 rfl (fun h14 => ?_) (fun h14 => ?_)
  · refine go_iconst dX5_goesThen_22 (R32_lit rfl) ?_
    exact go_retz dX5_goesThen_23 (by first | exact Or.inl rfl | exact Or.inr rfl | omega) ⟨by first | rw [if_pos (by omega)] | rw [if_neg (by omega)], rfl, rfl⟩
  · refine go_iconst dX5_goesThen_18 (R32_lit rfl) ?_
    refine go_goto (tgt := 23) dX5_goesThen_19 rfl ?_
    exact go_retz dX5_goesThen_23 (by first | exact Or.inl rfl | exact Or.inr rfl | omega) ⟨by first | rw [if_pos (by omega)] | rw [if_neg (by omega)], rfl, rfl⟩
set_option maxRecDepth 100000 in
set_option maxHeartbeats 4000000 in
theorem ct_X5_unrounded {E : Ev} {M : Mm} {N : Nn} {p : Nat} {kn : Nm} {v : Int} (hk : shp kn = (22, 15)) (hk0 : Nat.beq kn.1 0 = false) (h0 : 0 ≤ v) (h1 : v < 15) (ho : ∀ k, 0 ≤ k → k < opn (pgC M p) v → pgC M p 8 (4 * v + k) < 15) (hs : 0 ≤ pgC M p 0 v ∧ pgC M p 0 v ≤ 3) : Ct E yX5_unrounded cX5_unrounded 7 ((some .long)) (rmH 2) [vr (18, p, 0), vi v, vr kn] M N (ql (fun r M1 N1 => r = unS (pgC M p) (M kn) v ∧ M = M1 ∧ N = N1)) := by
  refine ct_of (own := RX5) (L0 := [vr (18, p, 0), vi v, vr kn, vn, vn, vn, vn]) rfl (by decide +kernel) rfl rfl ?_
  refine go_aload_n dX5_unrounded_0 rfl rfl ?_
  refine go_aload_n dX5_unrounded_1 rfl hk0 ?_
  refine go_iload_n dX5_unrounded_2 rfl ?_
  refine go_iconst dX5_unrounded_3 (R32_lit rfl) ?_
  refine v5_49 dX5_unrounded_4 rfl ⟨rfl, rfl⟩ ⟨rfl, rfl⟩ (ct_X3_operandIn hk hk0 h0 h1 (by decide) (by decide) (ho 0 (by decide) (by have := opn_ge (pgC M p) v; omega))) (fun r1 M1 N1 hr1 hq1 => ?_)
  obtain ⟨e1, rfl, rfl⟩ := hq1
  have e1 : r1 = opE (pgC M p) (M kn) v 0 := e1
  refine go_lst3 dX5_unrounded_7 rfl rfl ?_
  refine go_aload_n dX5_unrounded_8 rfl rfl ?_
  refine go_aload_n dX5_unrounded_9 rfl hk0 ?_
  refine go_iload_n dX5_unrounded_10 rfl ?_
  refine go_iconst dX5_unrounded_11 (R32_lit rfl) ?_
  refine v5_49 dX5_unrounded_12 rfl ⟨rfl, rfl⟩ ⟨rfl, rfl⟩ (ct_X3_operandIn hk hk0 h0 h1 (by decide) (by decide) (ho 1 (by decide) (by have := opn_ge (pgC M p) v; omega))) (fun r2 M2 N2 hr2 hq2 => ?_)
  obtain ⟨e2, rfl, rfl⟩ := hq2
  have e2 : r2 = opE (pgC M p) (M kn) v 1 := e2
  refine go_lst5 dX5_unrounded_15 rfl rfl ?_
  refine go_aload_n dX5_unrounded_17 rfl rfl ?_
  refine g5_24 dX5_unrounded_18 ?_
  refine go_iload_n dX5_unrounded_21 rfl ?_
  refine go_iald dX5_unrounded_22 rfl (by omega) (by omega) ?_
  refine go_nmi (fun s0 es => ?_)
  have es : s0 = pgC M p 0 v := es
  have hs4 : pgC M p 0 v = 0 ∨ pgC M p 0 v = 1 ∨ pgC M p 0 v = 2 ∨ pgC M p 0 v = 3 := by omega
  rcases hs4 with hv | hv | hv | hv
  · have hx : s0 = 0 := by omega
    subst hx
    refine go_tableIn (off := 25) (tgt := 48) dX5_unrounded_23 (by decide) (by decide) rfl rfl ?_
    refine go_lload_n dX5_unrounded_48 rfl ?_
    refine go_lload dX5_unrounded_49 rfl ?_
    refine go_ladd dX5_unrounded_51 ?_
    refine go_retl dX5_unrounded_52 ?_
    refine ⟨?_, rfl, rfl⟩
    unfold unS
    rw [← e1, ← e2]
    rw [if_pos hv]
  · have hx : s0 = 1 := by omega
    subst hx
    refine go_tableIn (off := 30) (tgt := 53) dX5_unrounded_23 (by decide) (by decide) rfl rfl ?_
    refine go_lload_n dX5_unrounded_53 rfl ?_
    refine go_lload dX5_unrounded_54 rfl ?_
    refine go_lsub dX5_unrounded_56 ?_
    refine go_retl dX5_unrounded_57 ?_
    refine ⟨?_, rfl, rfl⟩
    unfold unS
    rw [← e1, ← e2]
    rw [if_neg (by omega), if_pos hv]
  · have hx : s0 = 2 := by omega
    subst hx
    refine go_tableIn (off := 35) (tgt := 58) dX5_unrounded_23 (by decide) (by decide) rfl rfl ?_
    refine go_lload_n dX5_unrounded_58 rfl ?_
    refine go_lload dX5_unrounded_59 rfl ?_
    refine go_lmul dX5_unrounded_61 ?_
    refine go_retl dX5_unrounded_62 ?_
    refine ⟨?_, rfl, rfl⟩
    unfold unS
    rw [← e1, ← e2]
    rw [if_neg (show ¬ pgC M p 0 v = 0 by omega), if_neg (show ¬ pgC M p 0 v = 1 by omega), if_pos hv]
  · refine go_tableOut (tgt := 63) dX5_unrounded_23 (Or.inr (by omega)) rfl ?_
    refine go_aload_n dX5_unrounded_63 rfl rfl ?_
    refine go_aload_n dX5_unrounded_64 rfl hk0 ?_
    refine go_iload_n dX5_unrounded_65 rfl ?_
    refine go_lload_n dX5_unrounded_66 rfl ?_
    refine go_lload dX5_unrounded_67 rfl ?_
    refine go_lcmp_ge (tgt := 77) dX5_unrounded_69 dX5_unrounded_70 rfl (fun h69 => ?_) (fun h69 => ?_)
    · refine go_iconst dX5_unrounded_77 (R32_lit rfl) ?_
      refine v5_49 dX5_unrounded_78 rfl ⟨rfl, rfl⟩ ⟨rfl, rfl⟩ (ct_X3_operandIn hk hk0 h0 h1 (by decide) (by decide) (ho _ (by decide) (by rw [opn_3 (by omega)]; decide))) (fun r3 M3 N3 hr3 hq3 => ?_)
      refine go_retl dX5_unrounded_81 ?_
      obtain ⟨e3, rfl, rfl⟩ := hq3
      refine ⟨?_, rfl, rfl⟩
      unfold unS
      rw [← e1, ← e2]
      rw [if_neg (show ¬ pgC M p 0 v = 0 by omega), if_neg (show ¬ pgC M p 0 v = 1 by omega), if_neg (show ¬ pgC M p 0 v = 2 by omega), e3]
      first | (rw [if_pos (show r1 < r2 by omega)]; rfl) | (rw [if_neg (show ¬ r1 < r2 by omega)]; rfl)
    · refine go_iconst dX5_unrounded_73 (R32_lit rfl) ?_
      refine go_goto (tgt := 78) dX5_unrounded_74 rfl ?_
      refine v5_49 dX5_unrounded_78 rfl ⟨rfl, rfl⟩ ⟨rfl, rfl⟩ (ct_X3_operandIn hk hk0 h0 h1 (by decide) (by decide) (ho _ (by decide) (by rw [opn_3 (by omega)]; decide))) (fun r3 M3 N3 hr3 hq3 => ?_)
      refine go_retl dX5_unrounded_81 ?_
      obtain ⟨e3, rfl, rfl⟩ := hq3
      refine ⟨?_, rfl, rfl⟩
      unfold unS
      rw [← e1, ← e2]
      rw [if_neg (show ¬ pgC M p 0 v = 0 by omega), if_neg (show ¬ pgC M p 0 v = 1 by omega), if_neg (show ¬ pgC M p 0 v = 2 by omega), e3]
      first | (rw [if_pos (show r1 < r2 by omega)]; rfl) | (rw [if_neg (show ¬ r1 < r2 by omega)]; rfl)
set_option maxRecDepth 100000 in
set_option maxHeartbeats 4000000 in
theorem ct_X5_errorSize {E : Ev} {M : Mm} {N : Nn} {v : Int} (h0 : 0 ≤ v) (h1 : v < 15) : Ct E yX5_errorSize cX5_errorSize 2 ((some .long)) (rmH 2) [vr (26, 0, 0), vi v] M N (ql (fun r M1 N1 => r = absw (w64 (M (28, 0, 0) v - M (27, 0, 0) v)) ∧ M = M1 ∧ N = N1)) := by
  refine ct_of (own := RX5) (L0 := [vr (26, 0, 0), vi v]) rfl (by decide +kernel) rfl rfl ?_
  refine go_aload_n dX5_errorSize_0 rfl rfl ?_
  refine g5_15 dX5_errorSize_1 ?_
  refine go_iload_n dX5_errorSize_4 rfl ?_
  refine go_lald dX5_errorSize_5 rfl (by omega) (by omega) ?_
  refine go_aload_n dX5_errorSize_6 rfl rfl ?_
  refine g5_9 dX5_errorSize_7 ?_
  refine go_iload_n dX5_errorSize_10 rfl ?_
  refine go_lald dX5_errorSize_11 rfl (by omega) (by omega) ?_
  refine go_lsub dX5_errorSize_12 ?_
  refine v5_39 dX5_errorSize_13 rfl ⟨rfl, rfl⟩ ⟨rfl, rfl⟩ ct_J9_abs_067f4 (fun r1 M1 N1 hr1 hq1 => ?_)
  exact go_retl dX5_errorSize_16 hq1
set_option maxRecDepth 100000 in
set_option maxHeartbeats 4000000 in
theorem ct_X5_ways {E : Ev} {M : Mm} {N : Nn} {p : Nat} {v : Int} (h0 : 0 ≤ v) (h1 : v < 15) (ho : ∀ k, 0 ≤ k → k < opn (pgC M p) v → pgC M p 8 (4 * v + k) < 15) : Ct E yX5_ways cX5_ways 3 ((some .int)) (rmH 3) [vr (26, 0, 0), vr (18, p, 0), vi v] M N (qi (fun r M1 N1 => r = b2 (opE (pgC M p) (M (27, 0, 0)) v 0 < opE (pgC M p) (M (27, 0, 0)) v 1) 1 + b2 (opE (pgC M p) (M (28, 0, 0)) v 0 < opE (pgC M p) (M (28, 0, 0)) v 1) 2 ∧ M = M1 ∧ N = N1)) := by
  refine ct_of (own := RX5) (L0 := [vr (26, 0, 0), vr (18, p, 0), vi v]) rfl (by decide +kernel) rfl rfl ?_
  refine go_aload_n dX5_ways_0 rfl rfl ?_
  refine go_iload_n dX5_ways_1 rfl ?_
  refine go_aload_n dX5_ways_2 rfl rfl ?_
  refine g5_9 dX5_ways_3 ?_
  refine v5_45 dX5_ways_6 rfl ⟨rfl, rfl⟩ ⟨rfl, rfl⟩ (ct_X5_goesThen (kn := (27, 0, 0)) rfl rfl h0 h1 ho) (fun r1 M1 N1 hr1 hq1 => ?_)
  obtain ⟨e1, rfl, rfl⟩ := hq1
  refine go_if_eq (tgt := 16) dX5_ways_9 rfl (fun h9 => ?_) (fun h9 => ?_)
  · refine go_iconst dX5_ways_16 (R32_lit rfl) ?_
    refine go_aload_n dX5_ways_17 rfl rfl ?_
    refine go_iload_n dX5_ways_18 rfl ?_
    refine go_aload_n dX5_ways_19 rfl rfl ?_
    refine g5_15 dX5_ways_20 ?_
    refine v5_45 dX5_ways_23 rfl ⟨rfl, rfl⟩ ⟨rfl, rfl⟩ (ct_X5_goesThen (kn := (28, 0, 0)) rfl rfl h0 h1 ho) (fun r2 M2 N2 hr2 hq2 => ?_)
    obtain ⟨e2, rfl, rfl⟩ := hq2
    refine go_if_eq (tgt := 33) dX5_ways_26 rfl (fun h26 => ?_) (fun h26 => ?_)
    · refine go_iconst dX5_ways_33 (R32_lit rfl) ?_
      have hb : True := trivial
      refine go_iaddc dX5_ways_34 ⟨by omega, by omega⟩ ?_
      refine go_reti dX5_ways_35 ?_
      refine ⟨?_, rfl, rfl⟩
      unfold b2
      generalize (opE (pgC M p) (M (27, 0, 0)) v 0) = a1 at *
      generalize (opE (pgC M p) (M (27, 0, 0)) v 1) = a2 at *
      generalize (opE (pgC M p) (M (28, 0, 0)) v 0) = a3 at *
      generalize (opE (pgC M p) (M (28, 0, 0)) v 1) = a4 at *
      by_cases q1 : a1 < a2 <;> by_cases q2 : a3 < a4
      all_goals first | rw [if_pos q1] at e1 | rw [if_neg q1] at e1
      all_goals first | rw [if_pos q2] at e2 | rw [if_neg q2] at e2
      all_goals first | rw [if_pos q1] | rw [if_neg q1]
      all_goals first | rw [if_pos q2] | rw [if_neg q2]
      all_goals first | omega | (subst e1; subst e2; rfl) | (exfalso; omega)
    · refine go_iconst dX5_ways_29 (R32_lit rfl) ?_
      refine go_goto (tgt := 34) dX5_ways_30 rfl ?_
      have hb : True := trivial
      refine go_iaddc dX5_ways_34 ⟨by omega, by omega⟩ ?_
      refine go_reti dX5_ways_35 ?_
      refine ⟨?_, rfl, rfl⟩
      unfold b2
      generalize (opE (pgC M p) (M (27, 0, 0)) v 0) = a1 at *
      generalize (opE (pgC M p) (M (27, 0, 0)) v 1) = a2 at *
      generalize (opE (pgC M p) (M (28, 0, 0)) v 0) = a3 at *
      generalize (opE (pgC M p) (M (28, 0, 0)) v 1) = a4 at *
      by_cases q1 : a1 < a2 <;> by_cases q2 : a3 < a4
      all_goals first | rw [if_pos q1] at e1 | rw [if_neg q1] at e1
      all_goals first | rw [if_pos q2] at e2 | rw [if_neg q2] at e2
      all_goals first | rw [if_pos q1] | rw [if_neg q1]
      all_goals first | rw [if_pos q2] | rw [if_neg q2]
      all_goals first | omega | (subst e1; subst e2; rfl) | (exfalso; omega)
  · refine go_iconst dX5_ways_12 (R32_lit rfl) ?_
    refine go_goto (tgt := 17) dX5_ways_13 rfl ?_
    refine go_aload_n dX5_ways_17 rfl rfl ?_
    refine go_iload_n dX5_ways_18 rfl ?_
    refine go_aload_n dX5_ways_19 rfl rfl ?_
    refine g5_15 dX5_ways_20 ?_
    refine v5_45 dX5_ways_23 rfl ⟨rfl, rfl⟩ ⟨rfl, rfl⟩ (ct_X5_goesThen (kn := (28, 0, 0)) rfl rfl h0 h1 ho) (fun r2 M2 N2 hr2 hq2 => ?_)
    obtain ⟨e2, rfl, rfl⟩ := hq2
    refine go_if_eq (tgt := 33) dX5_ways_26 rfl (fun h26 => ?_) (fun h26 => ?_)
    · refine go_iconst dX5_ways_33 (R32_lit rfl) ?_
      have hb : True := trivial
      refine go_iaddc dX5_ways_34 ⟨by omega, by omega⟩ ?_
      refine go_reti dX5_ways_35 ?_
      refine ⟨?_, rfl, rfl⟩
      unfold b2
      generalize (opE (pgC M p) (M (27, 0, 0)) v 0) = a1 at *
      generalize (opE (pgC M p) (M (27, 0, 0)) v 1) = a2 at *
      generalize (opE (pgC M p) (M (28, 0, 0)) v 0) = a3 at *
      generalize (opE (pgC M p) (M (28, 0, 0)) v 1) = a4 at *
      by_cases q1 : a1 < a2 <;> by_cases q2 : a3 < a4
      all_goals first | rw [if_pos q1] at e1 | rw [if_neg q1] at e1
      all_goals first | rw [if_pos q2] at e2 | rw [if_neg q2] at e2
      all_goals first | rw [if_pos q1] | rw [if_neg q1]
      all_goals first | rw [if_pos q2] | rw [if_neg q2]
      all_goals first | omega | (subst e1; subst e2; rfl) | (exfalso; omega)
    · refine go_iconst dX5_ways_29 (R32_lit rfl) ?_
      refine go_goto (tgt := 34) dX5_ways_30 rfl ?_
      have hb : True := trivial
      refine go_iaddc dX5_ways_34 ⟨by omega, by omega⟩ ?_
      refine go_reti dX5_ways_35 ?_
      refine ⟨?_, rfl, rfl⟩
      unfold b2
      generalize (opE (pgC M p) (M (27, 0, 0)) v 0) = a1 at *
      generalize (opE (pgC M p) (M (27, 0, 0)) v 1) = a2 at *
      generalize (opE (pgC M p) (M (28, 0, 0)) v 0) = a3 at *
      generalize (opE (pgC M p) (M (28, 0, 0)) v 1) = a4 at *
      by_cases q1 : a1 < a2 <;> by_cases q2 : a3 < a4
      all_goals first | rw [if_pos q1] at e1 | rw [if_neg q1] at e1
      all_goals first | rw [if_pos q2] at e2 | rw [if_neg q2] at e2
      all_goals first | rw [if_pos q1] | rw [if_neg q1]
      all_goals first | rw [if_pos q2] | rw [if_neg q2]
      all_goals first | omega | (subst e1; subst e2; rfl) | (exfalso; omega)
