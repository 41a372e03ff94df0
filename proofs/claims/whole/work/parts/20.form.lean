theorem w64_add (a b : Int) : w64 (w64 a + b) = w64 (a + b) := by unfold w64; omega
theorem w64_add' (a b : Int) : w64 (a + w64 b) = w64 (a + b) := by unfold w64; omega
theorem w64_sub (a b : Int) : w64 (w64 a - b) = w64 (a - b) := by unfold w64; omega
theorem w64_sub' (a b : Int) : w64 (a - w64 b) = w64 (a - b) := by unfold w64; omega
theorem w64_w64 (a : Int) : w64 (w64 a) = w64 a := by unfold w64; omega
theorem w64_mul (a b : Int) : w64 (w64 a * b) = w64 (a * b) := by
  rw [w64_bmod, w64_bmod, w64_bmod]
  exact Int.bmod_mul_bmod
theorem w64_mul' (a b : Int) : w64 (a * w64 b) = w64 (a * b) := by rw [Int.mul_comm a, w64_mul, Int.mul_comm]
/-- the sum of the first n -/
def sumZ (g : Int → Int) : Nat → Int
  | 0 => 0
  | n + 1 => sumZ g n + g n
/-- without sign, as longs go -/
def absw (x : Int) : Int := if x < 0 then w64 (-x) else x
set_option maxRecDepth 100000 in
set_option maxHeartbeats 4000000 in
theorem lp_X0_radius {E : Ev} {M : Mm} {N : Nn} {f j : Nat} (hu : M (15, f, j) 2 ≤ 63) : ∀ (n : Nat) (i acc : Int), 0 ≤ i → i + n = M (15, f, j) 2 → acc = w64 (sumZ (fun k => absw (M (16, f, j) k)) i.toNat) →
    Go E RX0 cX0_radius 4 ((some .long)) (rmH 1) 0 0 (zM E (ql (fun r M1 N1 => r = w64 (sumZ (fun k => absw (M (16, f, j) k)) (M (15, f, j) 2).toNat) ∧ M = M1 ∧ N = N1))) 4 [vr (15, f, j), vl acc, vn, vi i] [] M N := by
  intro n
  induction n with
  | zero =>
    intro i acc h0 h1 h2
    refine go_iload_n dX0_radius_4 rfl ?_
    refine go_aload_n dX0_radius_5 rfl rfl ?_
    refine g0_15 dX0_radius_6 ?_
    refine go_icmp_ge (tgt := 48) dX0_radius_9 rfl (fun h9 => ?_) (fun h9 => ?_)
    · refine go_lload_n dX0_radius_48 rfl ?_
      exact go_retl dX0_radius_49 ⟨by rw [h2, show i = M (15, f, j) 2 by omega], rfl, rfl⟩
    · exact absurd h1 (by omega)
  | succ n ih =>
    intro i acc h0 h1 h2
    refine go_iload_n dX0_radius_4 rfl ?_
    refine go_aload_n dX0_radius_5 rfl rfl ?_
    refine g0_15 dX0_radius_6 ?_
    refine go_icmp_ge (tgt := 48) dX0_radius_9 rfl (fun h9 => ?_) (fun h9 => ?_)
    · exact absurd h9 (by omega)
    · refine go_lload_n dX0_radius_12 rfl ?_
      refine go_aload_n dX0_radius_13 rfl rfl ?_
      refine g0_9 dX0_radius_14 ?_
      refine go_iload_n dX0_radius_17 rfl ?_
      refine go_lald dX0_radius_18 rfl (by omega) (by omega) ?_
      refine go_lconst (x := 0) dX0_radius_19 rfl ?_
      refine go_lcmp_ge (tgt := 34) dX0_radius_20 dX0_radius_21 rfl (fun h20 => ?_) (fun h20 => ?_)
      · refine go_aload_n dX0_radius_34 rfl rfl ?_
        refine g0_9 dX0_radius_35 ?_
        refine go_iload_n dX0_radius_38 rfl ?_
        refine go_lald dX0_radius_39 rfl (by omega) (by omega) ?_
        refine go_ladd dX0_radius_40 ?_
        refine go_lst1 dX0_radius_41 rfl rfl ?_
        refine go_iinc3c dX0_radius_42 rfl rfl ⟨by omega, by omega⟩ ?_
        refine go_goto (tgt := 4) dX0_radius_45 rfl ?_
        exact ih (i + 1) _ (by omega) (by omega) (by
          rw [h2, show (i + 1).toNat = i.toNat + 1 by omega]
          show _ = w64 (_ + absw (M (16, f, j) (i.toNat : Int)))
          rw [Int.toNat_of_nonneg h0, w64_add]
          unfold absw
          first | rw [if_pos (by omega)] | rw [if_neg (by omega)])
      · refine go_aload_n dX0_radius_24 rfl rfl ?_
        refine g0_9 dX0_radius_25 ?_
        refine go_iload_n dX0_radius_28 rfl ?_
        refine go_lald dX0_radius_29 rfl (by omega) (by omega) ?_
        refine go_lneg dX0_radius_30 ?_
        refine go_goto (tgt := 40) dX0_radius_31 rfl ?_
        refine go_ladd dX0_radius_40 ?_
        refine go_lst1 dX0_radius_41 rfl rfl ?_
        refine go_iinc3c dX0_radius_42 rfl rfl ⟨by omega, by omega⟩ ?_
        refine go_goto (tgt := 4) dX0_radius_45 rfl ?_
        exact ih (i + 1) _ (by omega) (by omega) (by
          rw [h2, show (i + 1).toNat = i.toNat + 1 by omega]
          show _ = w64 (_ + absw (M (16, f, j) (i.toNat : Int)))
          rw [Int.toNat_of_nonneg h0, w64_add]
          unfold absw
          first | rw [if_pos (by omega)] | rw [if_neg (by omega)])

set_option maxRecDepth 100000 in
set_option maxHeartbeats 4000000 in
theorem ct_X0_radius {E : Ev} {M : Mm} {N : Nn} {f j : Nat} (h0 : 0 ≤ M (15, f, j) 2) (hu : M (15, f, j) 2 ≤ 63) : Ct E yX0_radius cX0_radius 4 ((some .long)) (rmH 1) [vr (15, f, j)] M N (ql (fun r M1 N1 => r = w64 (sumZ (fun k => absw (M (16, f, j) k)) (M (15, f, j) 2).toNat) ∧ M = M1 ∧ N = N1)) := by
  refine ct_of (own := RX0) (L0 := [vr (15, f, j), vn, vn, vn]) rfl (by decide +kernel) rfl rfl ?_
  refine go_lconst (x := 0) dX0_radius_0 rfl ?_
  refine go_lst1 dX0_radius_1 rfl rfl ?_
  refine go_iconst dX0_radius_2 (R32_lit rfl) ?_
  refine go_ist3 dX0_radius_3 rfl rfl ?_
  exact lp_X0_radius hu (M (15, f, j) 2).toNat 0 0 (by omega) (by omega) rfl
