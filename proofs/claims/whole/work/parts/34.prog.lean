/-! a program: 0 sort, 1 name, 2 from, 3 to, 4 grid, 5 fine, 6 weight, 7 needs, 8 operand, 9 number, 10 inputAt, 11 how many, 12 inputs -/
abbrev Pg : Type := Nat → Int → Int
def pgC (M : Mm) (p : Nat) : Pg := fun k i => if k = 11 then M (18, p, 0) 11 else if k = 12 then M (18, p, 0) 12 else M (19, p, k) i
/-- how often 2 goes into it -/
def two8 : Nat → Int → Int
  | 0, _ => 0
  | k + 1, x => if x.tmod 2 = 0 then 1 + two8 k (x.tdiv 2) else 0
/-- of an operand: of a variable by the table, of a number its own -/
def opF (S : Pg) (tab : Int → Int) (i : Int) : Int := if 0 ≤ S 8 i then tab (S 8 i) else two8 8 (S 9 i)
def rfS (S : Pg) (tab : Int → Int) (v : Int) : Int := if S 0 v = 3 then min (opF S tab (4 * v + 2)) (opF S tab (4 * v + 3)) else if S 0 v = 2 then min (opF S tab (4 * v) + opF S tab (4 * v + 1)) 8 else min (opF S tab (4 * v)) (opF S tab (4 * v + 1))
def opW (S : Pg) (tab : Int → Int) (i : Int) : Int := if 0 ≤ S 8 i then tab (S 8 i) else max (S 9 i) (-(S 9 i))
def rwS (S : Pg) (tab : Int → Int) (v : Int) : Int := if S 0 v = 3 then 2 * (opW S tab (4 * v + 2) + opW S tab (4 * v + 3)) else if S 0 v = 2 then opW S tab (4 * v) * opW S tab (4 * v + 1) else opW S tab (4 * v) + opW S tab (4 * v + 1)
theorem two8_le : ∀ (k : Nat) (x : Int), 0 ≤ two8 k x ∧ two8 k x ≤ k
  | 0, _ => by simp [two8]
  | k + 1, x => by
    unfold two8
    have := two8_le k (x.tdiv 2)
    split <;> omega
set_option maxRecDepth 100000 in
set_option maxHeartbeats 4000000 in
theorem ct_X3_steps {E : Ev} {M : Mm} {N : Nn} {p : Nat} (hb : R32 (pgC M p 11 0 - pgC M p 12 0)) : Ct E yX3_steps cX3_steps 1 ((some .int)) (rmH 1) [vr (18, p, 0)] M N (qi (fun r M1 N1 => r = pgC M p 11 0 - pgC M p 12 0 ∧ M = M1 ∧ N = N1)) := by
  refine ct_of (own := RX3) (L0 := [vr (18, p, 0)]) rfl (by decide +kernel) rfl rfl ?_
  refine go_aload_n dX3_steps_0 rfl rfl ?_
  refine g3_52 dX3_steps_1 ?_
  refine go_aload_n dX3_steps_4 rfl rfl ?_
  refine g3_56 dX3_steps_5 ?_
  refine go_isubc dX3_steps_8 hb ?_
  exact go_reti dX3_steps_9 ⟨rfl, rfl, rfl⟩
set_option maxRecDepth 100000 in
set_option maxHeartbeats 4000000 in
theorem ct_X3_has {E : Ev} {M : Mm} {N : Nn} {p : Nat} {v : Int}  : Ct E yX3_has cX3_has 2 ((some .boolean)) (rmH 1) [vr (18, p, 0), vi v] M N (qi (fun r M1 N1 => r = (if 0 ≤ v ∧ v < pgC M p 11 0 then 1 else 0) ∧ M = M1 ∧ N = N1)) := by
  refine ct_of (own := RX3) (L0 := [vr (18, p, 0), vi v]) rfl (by decide +kernel) rfl rfl ?_
  refine go_iload_n dX3_has_0 rfl ?_
  refine go_if_lt (tgt := 16) dX3_has_1 rfl (fun h1 => ?_) (fun h1 => ?_)
  · refine go_iconst dX3_has_16 (R32_lit rfl) ?_
    exact go_retz dX3_has_17 (by first | exact Or.inl rfl | exact Or.inr rfl | omega) ⟨by first | rw [if_pos (by omega)] | rw [if_neg (by omega)], rfl, rfl⟩
  · refine go_iload_n dX3_has_4 rfl ?_
    refine go_aload_n dX3_has_5 rfl rfl ?_
    refine g3_52 dX3_has_6 ?_
    refine go_nmi (fun n6 e6 => ?_)
    have e6 : n6 = pgC M p 11 0 := e6
    refine go_icmp_ge (tgt := 16) dX3_has_9 rfl (fun h9 => ?_) (fun h9 => ?_)
    · refine go_iconst dX3_has_16 (R32_lit rfl) ?_
      exact go_retz dX3_has_17 (by first | exact Or.inl rfl | exact Or.inr rfl | omega) ⟨by first | rw [if_pos (by omega)] | rw [if_neg (by omega)], rfl, rfl⟩
    · refine go_iconst dX3_has_12 (R32_lit rfl) ?_
      refine go_goto (tgt := 17) dX3_has_13 rfl ?_
      exact go_retz dX3_has_17 (by first | exact Or.inl rfl | exact Or.inr rfl | omega) ⟨by first | rw [if_pos (by omega)] | rw [if_neg (by omega)], rfl, rfl⟩
set_option maxRecDepth 100000 in
set_option maxHeartbeats 4000000 in
theorem ct_X3_isInput {E : Ev} {M : Mm} {N : Nn} {p : Nat} {v : Int} (hc : pgC M p 11 0 ≤ 15) : Ct E yX3_isInput cX3_isInput 2 ((some .boolean)) (rmH 1) [vr (18, p, 0), vi v] M N (qi (fun r M1 N1 => r = (if 0 ≤ v ∧ v < pgC M p 11 0 ∧ pgC M p 0 v = -2 then 1 else 0) ∧ M = M1 ∧ N = N1)) := by
  refine ct_of (own := RX3) (L0 := [vr (18, p, 0), vi v]) rfl (by decide +kernel) rfl rfl ?_
  refine go_iload_n dX3_isInput_0 rfl ?_
  refine go_if_lt (tgt := 27) dX3_isInput_1 rfl (fun h1 => ?_) (fun h1 => ?_)
  · refine go_iconst dX3_isInput_27 (R32_lit rfl) ?_
    exact go_retz dX3_isInput_28 (by first | exact Or.inl rfl | exact Or.inr rfl | omega) ⟨by first | rw [if_pos (by omega)] | rw [if_neg (by omega)], rfl, rfl⟩
  · refine go_iload_n dX3_isInput_4 rfl ?_
    refine go_aload_n dX3_isInput_5 rfl rfl ?_
    refine g3_52 dX3_isInput_6 ?_
    refine go_nmi (fun n6 e6 => ?_)
    have e6 : n6 = pgC M p 11 0 := e6
    refine go_icmp_ge (tgt := 27) dX3_isInput_9 rfl (fun h9 => ?_) (fun h9 => ?_)
    · refine go_iconst dX3_isInput_27 (R32_lit rfl) ?_
      exact go_retz dX3_isInput_28 (by first | exact Or.inl rfl | exact Or.inr rfl | omega) ⟨by first | rw [if_pos (by omega)] | rw [if_neg (by omega)], rfl, rfl⟩
    · refine go_aload_n dX3_isInput_12 rfl rfl ?_
      refine g3_9 dX3_isInput_13 ?_
      refine go_iload_n dX3_isInput_16 rfl ?_
      refine go_iald dX3_isInput_17 rfl (by omega) (by omega) ?_
      refine go_nmi (fun s0 es => ?_)
      have es : s0 = pgC M p 0 v := es
      refine go_bipush dX3_isInput_18 ⟨by decide, by decide⟩ ?_
      refine go_icmp_ne (tgt := 27) dX3_isInput_20 rfl (fun h20 => ?_) (fun h20 => ?_)
      · refine go_iconst dX3_isInput_27 (R32_lit rfl) ?_
        exact go_retz dX3_isInput_28 (by first | exact Or.inl rfl | exact Or.inr rfl | omega) ⟨by first | rw [if_pos (by omega)] | rw [if_neg (by omega)], rfl, rfl⟩
      · refine go_iconst dX3_isInput_23 (R32_lit rfl) ?_
        refine go_goto (tgt := 28) dX3_isInput_24 rfl ?_
        exact go_retz dX3_isInput_28 (by first | exact Or.inl rfl | exact Or.inr rfl | omega) ⟨by first | rw [if_pos (by omega)] | rw [if_neg (by omega)], rfl, rfl⟩
set_option maxRecDepth 100000 in
set_option maxHeartbeats 4000000 in
theorem ct_X3_isStep {E : Ev} {M : Mm} {N : Nn} {p : Nat} {v : Int} (hc : pgC M p 11 0 ≤ 15) : Ct E yX3_isStep cX3_isStep 2 ((some .boolean)) (rmH 1) [vr (18, p, 0), vi v] M N (qi (fun r M1 N1 => r = (if 0 ≤ v ∧ v < pgC M p 11 0 ∧ pgC M p 0 v ≠ -2 then 1 else 0) ∧ M = M1 ∧ N = N1)) := by
  refine ct_of (own := RX3) (L0 := [vr (18, p, 0), vi v]) rfl (by decide +kernel) rfl rfl ?_
  refine go_iload_n dX3_isStep_0 rfl ?_
  refine go_if_lt (tgt := 27) dX3_isStep_1 rfl (fun h1 => ?_) (fun h1 => ?_)
  · refine go_iconst dX3_isStep_27 (R32_lit rfl) ?_
    exact go_retz dX3_isStep_28 (by first | exact Or.inl rfl | exact Or.inr rfl | omega) ⟨by first | rw [if_pos (by omega)] | rw [if_neg (by omega)], rfl, rfl⟩
  · refine go_iload_n dX3_isStep_4 rfl ?_
    refine go_aload_n dX3_isStep_5 rfl rfl ?_
    refine g3_52 dX3_isStep_6 ?_
    refine go_nmi (fun n6 e6 => ?_)
    have e6 : n6 = pgC M p 11 0 := e6
    refine go_icmp_ge (tgt := 27) dX3_isStep_9 rfl (fun h9 => ?_) (fun h9 => ?_)
    · refine go_iconst dX3_isStep_27 (R32_lit rfl) ?_
      exact go_retz dX3_isStep_28 (by first | exact Or.inl rfl | exact Or.inr rfl | omega) ⟨by first | rw [if_pos (by omega)] | rw [if_neg (by omega)], rfl, rfl⟩
    · refine go_aload_n dX3_isStep_12 rfl rfl ?_
      refine g3_9 dX3_isStep_13 ?_
      refine go_iload_n dX3_isStep_16 rfl ?_
      refine go_iald dX3_isStep_17 rfl (by omega) (by omega) ?_
      refine go_nmi (fun s0 es => ?_)
      have es : s0 = pgC M p 0 v := es
      refine go_bipush dX3_isStep_18 ⟨by decide, by decide⟩ ?_
      refine go_icmp_eq (tgt := 27) dX3_isStep_20 rfl (fun h20 => ?_) (fun h20 => ?_)
      · refine go_iconst dX3_isStep_27 (R32_lit rfl) ?_
        exact go_retz dX3_isStep_28 (by first | exact Or.inl rfl | exact Or.inr rfl | omega) ⟨by first | rw [if_pos (by omega)] | rw [if_neg (by omega)], rfl, rfl⟩
      · refine go_iconst dX3_isStep_23 (R32_lit rfl) ?_
        refine go_goto (tgt := 28) dX3_isStep_24 rfl ?_
        exact go_retz dX3_isStep_28 (by first | exact Or.inl rfl | exact Or.inr rfl | omega) ⟨by first | rw [if_pos (by omega)] | rw [if_neg (by omega)], rfl, rfl⟩
set_option maxRecDepth 100000 in
set_option maxHeartbeats 4000000 in
theorem ct_X3_isPick {E : Ev} {M : Mm} {N : Nn} {p : Nat} {v : Int} (hc : pgC M p 11 0 ≤ 15) : Ct E yX3_isPick cX3_isPick 2 ((some .boolean)) (rmH 1) [vr (18, p, 0), vi v] M N (qi (fun r M1 N1 => r = (if 0 ≤ v ∧ v < pgC M p 11 0 ∧ pgC M p 0 v = 3 then 1 else 0) ∧ M = M1 ∧ N = N1)) := by
  refine ct_of (own := RX3) (L0 := [vr (18, p, 0), vi v]) rfl (by decide +kernel) rfl rfl ?_
  refine go_iload_n dX3_isPick_0 rfl ?_
  refine go_if_lt (tgt := 26) dX3_isPick_1 rfl (fun h1 => ?_) (fun h1 => ?_)
  · refine go_iconst dX3_isPick_26 (R32_lit rfl) ?_
    exact go_retz dX3_isPick_27 (by first | exact Or.inl rfl | exact Or.inr rfl | omega) ⟨by first | rw [if_pos (by omega)] | rw [if_neg (by omega)], rfl, rfl⟩
  · refine go_iload_n dX3_isPick_4 rfl ?_
    refine go_aload_n dX3_isPick_5 rfl rfl ?_
    refine g3_52 dX3_isPick_6 ?_
    refine go_nmi (fun n6 e6 => ?_)
    have e6 : n6 = pgC M p 11 0 := e6
    refine go_icmp_ge (tgt := 26) dX3_isPick_9 rfl (fun h9 => ?_) (fun h9 => ?_)
    · refine go_iconst dX3_isPick_26 (R32_lit rfl) ?_
      exact go_retz dX3_isPick_27 (by first | exact Or.inl rfl | exact Or.inr rfl | omega) ⟨by first | rw [if_pos (by omega)] | rw [if_neg (by omega)], rfl, rfl⟩
    · refine go_aload_n dX3_isPick_12 rfl rfl ?_
      refine g3_9 dX3_isPick_13 ?_
      refine go_iload_n dX3_isPick_16 rfl ?_
      refine go_iald dX3_isPick_17 rfl (by omega) (by omega) ?_
      refine go_nmi (fun s0 es => ?_)
      have es : s0 = pgC M p 0 v := es
      refine go_iconst dX3_isPick_18 (R32_lit rfl) ?_
      refine go_icmp_ne (tgt := 26) dX3_isPick_19 rfl (fun h19 => ?_) (fun h19 => ?_)
      · refine go_iconst dX3_isPick_26 (R32_lit rfl) ?_
        exact go_retz dX3_isPick_27 (by first | exact Or.inl rfl | exact Or.inr rfl | omega) ⟨by first | rw [if_pos (by omega)] | rw [if_neg (by omega)], rfl, rfl⟩
      · refine go_iconst dX3_isPick_22 (R32_lit rfl) ?_
        refine go_goto (tgt := 27) dX3_isPick_23 rfl ?_
        exact go_retz dX3_isPick_27 (by first | exact Or.inl rfl | exact Or.inr rfl | omega) ⟨by first | rw [if_pos (by omega)] | rw [if_neg (by omega)], rfl, rfl⟩
set_option maxRecDepth 100000 in
set_option maxHeartbeats 4000000 in
theorem ct_X3_operands {E : Ev} {M : Mm} {N : Nn} {p : Nat} {v : Int} (hc : pgC M p 11 0 ≤ 15) : Ct E yX3_operands cX3_operands 2 ((some .int)) (rmH 2) [vr (18, p, 0), vi v] M N (qi (fun r M1 N1 => r = (if 0 ≤ v ∧ v < pgC M p 11 0 ∧ pgC M p 0 v = 3 then 4 else 2) ∧ M = M1 ∧ N = N1)) := by
  refine ct_of (own := RX3) (L0 := [vr (18, p, 0), vi v]) rfl (by decide +kernel) rfl rfl ?_
  refine go_aload_n dX3_operands_0 rfl rfl ?_
  refine go_iload_n dX3_operands_1 rfl ?_
  refine v3_59 dX3_operands_2 rfl ⟨rfl, rfl⟩ ⟨rfl, rfl⟩ (ct_X3_isPick hc) (fun r1 M1 N1 hr1 hq1 => ?_)
  obtain ⟨rfl, rfl, rfl⟩ := hq1
  refine go_if_eq (tgt := 12) dX3_operands_5 rfl (fun h5 => ?_) (fun h5 => ?_)
  · refine go_iconst dX3_operands_12 (R32_lit rfl) ?_
    refine go_reti dX3_operands_13 ?_
    refine ⟨?_, rfl, rfl⟩
    by_cases hb : 0 ≤ v ∧ v < pgC M p 11 0 ∧ pgC M p 0 v = 3
    · rw [if_pos hb] at h5 ⊢
      first | done | exact absurd h5 (by decide)
    · rw [if_neg hb] at h5 ⊢
      first | done | exact absurd rfl h5
  · refine go_iconst dX3_operands_8 (R32_lit rfl) ?_
    refine go_goto (tgt := 13) dX3_operands_9 rfl ?_
    refine go_reti dX3_operands_13 ?_
    refine ⟨?_, rfl, rfl⟩
    by_cases hb : 0 ≤ v ∧ v < pgC M p 11 0 ∧ pgC M p 0 v = 3
    · rw [if_pos hb] at h5 ⊢
      first | done | exact absurd h5 (by decide)
    · rw [if_neg hb] at h5 ⊢
      first | done | exact absurd rfl h5
set_option maxRecDepth 100000 in
set_option maxHeartbeats 4000000 in
theorem ct_X3_needs {E : Ev} {M : Mm} {N : Nn} {p : Nat} {v w : Int} (h0 : 0 ≤ v) (h1 : v < 15) : Ct E yX3_needs cX3_needs 3 ((some .boolean)) (rmH 1) [vr (18, p, 0), vi v, vi w] M N (qi (fun r M1 N1 => r = (if iand (ishr (pgC M p 7 v) w) 1 ≠ 0 then 1 else 0) ∧ M = M1 ∧ N = N1)) := by
  refine ct_of (own := RX3) (L0 := [vr (18, p, 0), vi v, vi w]) rfl (by decide +kernel) rfl rfl ?_
  refine go_aload_n dX3_needs_0 rfl rfl ?_
  refine g3_34 dX3_needs_1 ?_
  refine go_iload_n dX3_needs_4 rfl ?_
  refine go_iald dX3_needs_5 rfl (by omega) (by omega) ?_
  refine go_iload_n dX3_needs_6 rfl ?_
  refine go_ishr dX3_needs_7 ?_
  refine go_iconst dX3_needs_8 (R32_lit rfl) ?_
  refine go_iand dX3_needs_9 ?_
  refine go_if_eq (tgt := 17) dX3_needs_10 rfl (fun h10 => ?_) (fun h10 => ?_)
  · refine go_iconst dX3_needs_17 (R32_lit rfl) ?_
    exact go_retz dX3_needs_18 (by first | exact Or.inl rfl | exact Or.inr rfl | omega) ⟨by first | rw [if_pos (show iand (ishr (pgC M p 7 v) w) 1 ≠ 0 from h10)] | rw [if_neg (fun h => h (show iand (ishr (pgC M p 7 v) w) 1 = 0 from h10))], rfl, rfl⟩
  · refine go_iconst dX3_needs_13 (R32_lit rfl) ?_
    refine go_goto (tgt := 18) dX3_needs_14 rfl ?_
    exact go_retz dX3_needs_18 (by first | exact Or.inl rfl | exact Or.inr rfl | omega) ⟨by first | rw [if_pos (show iand (ishr (pgC M p 7 v) w) 1 ≠ 0 from h10)] | rw [if_neg (fun h => h (show iand (ishr (pgC M p 7 v) w) 1 = 0 from h10))], rfl, rfl⟩
set_option maxRecDepth 100000 in
set_option maxHeartbeats 4000000 in
theorem ct_X3_operandIn {E : Ev} {M : Mm} {N : Nn} {p : Nat} {kn : Nm} {v k : Int} (hk : shp kn = (22, 15)) (hk0 : Nat.beq kn.1 0 = false) (h0 : 0 ≤ v) (h1 : v < 15) (k0 : 0 ≤ k) (k1 : k < 4) (ho : pgC M p 8 (4 * v + k) < 15) : Ct E yX3_operandIn cX3_operandIn 5 ((some .long)) (rmH 1) [vr (18, p, 0), vr kn, vi v, vi k] M N (ql (fun r M1 N1 => r = (if 0 ≤ pgC M p 8 (4 * v + k) then M kn (pgC M p 8 (4 * v + k)) else pgC M p 9 (4 * v + k)) ∧ M = M1 ∧ N = N1)) := by
  refine ct_of (own := RX3) (L0 := [vr (18, p, 0), vr kn, vi v, vi k, vn]) rfl (by decide +kernel) rfl rfl ?_
  refine go_aload_n dX3_operandIn_0 rfl rfl ?_
  refine g3_37 dX3_operandIn_1 ?_
  refine go_iload_n dX3_operandIn_4 rfl ?_
  refine go_iconst dX3_operandIn_5 (R32_lit rfl) ?_
  refine go_imulc dX3_operandIn_6 ⟨by omega, by omega⟩ ?_
  refine go_iload_n dX3_operandIn_7 rfl ?_
  refine go_iaddc dX3_operandIn_8 ⟨by omega, by omega⟩ ?_
  refine go_iald dX3_operandIn_9 rfl (by omega) (by omega) ?_
  rw [show v * 4 + k = 4 * v + k by omega]
  refine go_nmi (fun w ew => ?_)
  have ew : w = pgC M p 8 (4 * v + k) := ew
  refine go_ist4 dX3_operandIn_10 rfl rfl ?_
  refine go_iload dX3_operandIn_12 rfl ?_
  refine go_if_lt (tgt := 24) dX3_operandIn_14 rfl (fun h14 => ?_) (fun h14 => ?_)
  · refine go_aload_n dX3_operandIn_24 rfl rfl ?_
    refine g3_40 dX3_operandIn_25 ?_
    refine go_iload_n dX3_operandIn_28 rfl ?_
    refine go_iconst dX3_operandIn_29 (R32_lit rfl) ?_
    refine go_imulc dX3_operandIn_30 ⟨by omega, by omega⟩ ?_
    refine go_iload_n dX3_operandIn_31 rfl ?_
    refine go_iaddc dX3_operandIn_32 ⟨by omega, by omega⟩ ?_
    refine go_iald dX3_operandIn_33 rfl (by omega) (by omega) ?_
    rw [show v * 4 + k = 4 * v + k by omega]
    refine go_i2l dX3_operandIn_34 ?_
    have hh := h14
    exact go_retl dX3_operandIn_35 ⟨by rw [← ew]; first | rw [if_pos (by omega)] | (rw [if_neg (by omega)]; rfl), rfl, rfl⟩
  · refine go_aload_n dX3_operandIn_17 rfl hk0 ?_
    refine go_iload dX3_operandIn_18 rfl ?_
    refine go_lald dX3_operandIn_20 hk (by omega) (by omega) ?_
    refine go_goto (tgt := 35) dX3_operandIn_21 rfl ?_
    have hh := h14
    exact go_retl dX3_operandIn_35 ⟨by rw [← ew]; first | rw [if_pos (by omega)] | (rw [if_neg (by omega)]; rfl), rfl, rfl⟩
