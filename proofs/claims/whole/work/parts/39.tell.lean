def toS (S : Pg) (i w x : Int) : Pg := pst (pst S 8 (4 * S 11 0 + i) w) 9 (4 * S 11 0 + i) x
def tiS (S : Pg) (nm a b : Int) : Pg := psk (psk (pst (pst (pst (pst (pst (pst S 0 (S 11 0) (-2)) 1 (S 11 0) nm) 2 (S 11 0) a) 3 (S 11 0) b) 4 (S 11 0) 0) 10 (S 12 0) (S 11 0)) 12 (S 12 0 + 1)) 11 (S 11 0 + 1)
def tsS (S : Pg) (nm by_ g : Int) : Pg := psk (pst (pst (pst (pst (pst S 0 (S 11 0) by_) 1 (S 11 0) nm) 2 (S 11 0) 0) 3 (S 11 0) 0) 4 (S 11 0) g) 11 (S 11 0 + 1)
set_option maxRecDepth 100000 in
set_option maxHeartbeats 4000000 in
theorem ct_X3_tellOperand {E : Ev} {M : Mm} {N : Nn} {p : Nat} {i w x : Int} (hc : 0 ≤ pgC M p 11 0 ∧ pgC M p 11 0 < 15) (hi0 : 0 ≤ i) (hi1 : i < 4) : Ct E yX3_tellOperand cX3_tellOperand 4 (none) (rmH 1) [vr (18, p, 0), vi i, vi w, vi x] M N (qv (fun M1 N1 => pgC M1 p = toS (pgC M p) i w x ∧ Pf p M M1 ∧ N = N1)) := by
  refine ct_of (own := RX3) (L0 := [vr (18, p, 0), vi i, vi w, vi x]) rfl (by decide +kernel) rfl rfl ?_
  have hc0 : 0 ≤ M (18, p, 0) 11 := hc.1
  have hc1 : M (18, p, 0) 11 < 15 := hc.2
  refine go_aload_n dX3_tellOperand_0 rfl rfl ?_
  refine g3_52 dX3_tellOperand_1 ?_
  refine go_bipush dX3_tellOperand_4 ⟨by decide, by decide⟩ ?_
  refine go_icmp_ge (tgt := 18) dX3_tellOperand_6 rfl (fun h6 => ?_) (fun h6 => ?_)
  · first | exact absurd h6 (by omega) | exact absurd h10 (by omega) | exact absurd h15 (by omega)
  · refine go_iload_n dX3_tellOperand_9 rfl ?_
    refine go_if_lt (tgt := 18) dX3_tellOperand_10 rfl (fun h10 => ?_) (fun h10 => ?_)
    · first | exact absurd h6 (by omega) | exact absurd h10 (by omega) | exact absurd h15 (by omega)
    · refine go_iload_n dX3_tellOperand_13 rfl ?_
      refine go_iconst dX3_tellOperand_14 (R32_lit rfl) ?_
      refine go_icmp_lt (tgt := 19) dX3_tellOperand_15 rfl (fun h15 => ?_) (fun h15 => ?_)
      · refine go_aload_n dX3_tellOperand_19 rfl rfl ?_
        refine g3_37 dX3_tellOperand_20 ?_
        refine go_aload_n dX3_tellOperand_23 rfl rfl ?_
        refine g3_52 dX3_tellOperand_24 ?_
        refine go_iconst dX3_tellOperand_27 (R32_lit rfl) ?_
        refine go_imulc dX3_tellOperand_28 ⟨by omega, by omega⟩ ?_
        refine go_iload_n dX3_tellOperand_29 rfl ?_
        refine go_iaddc dX3_tellOperand_30 ⟨by omega, by omega⟩ ?_
        refine go_iload_n dX3_tellOperand_31 rfl ?_
        refine go_iast dX3_tellOperand_32 rfl (by omega) (by omega) ?_
        refine go_aload_n dX3_tellOperand_33 rfl rfl ?_
        refine g3_40 dX3_tellOperand_34 ?_
        refine go_aload_n dX3_tellOperand_37 rfl rfl ?_
        refine g3_52 dX3_tellOperand_38 ?_
        rw [show wr M (19, p, 8) (M (18, p, 0) 11 * 4 + i) w (18, p, 0) 11 = M (18, p, 0) 11 from wr_nn (nm_ne1 (by decide))]
        refine go_iconst dX3_tellOperand_41 (R32_lit rfl) ?_
        refine go_imulc dX3_tellOperand_42 ⟨by omega, by omega⟩ ?_
        refine go_iload_n dX3_tellOperand_43 rfl ?_
        refine go_iaddc dX3_tellOperand_44 ⟨by omega, by omega⟩ ?_
        refine go_iload_n dX3_tellOperand_45 rfl ?_
        refine go_iast dX3_tellOperand_46 rfl (by omega) (by omega) ?_
        refine go_retv dX3_tellOperand_47 ?_
        refine ⟨?_, Pf.rf.wr19.wr19, rfl⟩
        rw [pgC_wr (by decide) (by decide), pgC_wr (by decide) (by decide)]
        unfold toS
        rw [show M (18, p, 0) 11 * 4 + i = 4 * pgC M p 11 0 + i by show M (18, p, 0) 11 * 4 + i = 4 * M (18, p, 0) 11 + i; omega]
      · first | exact absurd h6 (by omega) | exact absurd h10 (by omega) | exact absurd h15 (by omega)
set_option maxRecDepth 100000 in
set_option maxHeartbeats 4000000 in
theorem ct_X3_tellStep {E : Ev} {M : Mm} {N : Nn} {p : Nat} {nm b g : Int} (hc : 0 ≤ pgC M p 11 0 ∧ pgC M p 11 0 < 15) (hv : Sv (tsS (pgC M p) nm b g) (pgC M p 11 0)) : Ct E yX3_tellStep cX3_tellStep 5 ((some .boolean)) (rmH 5) [vr (18, p, 0), vi nm, vi b, vi g] M N (qi (fun r M1 N1 => r = (if 1000000 < wtS (tsS (pgC M p) nm b g) (pgC M p 11 0) then 0 else 1) ∧ pgC M1 p = stS (tsS (pgC M p) nm b g) (pgC M p 11 0) ∧ Pf p M M1 ∧ N = N1)) := by
  refine ct_of (own := RX3) (L0 := [vr (18, p, 0), vi nm, vi b, vi g, vn]) rfl (by decide +kernel) rfl rfl ?_
  have hc0 : 0 ≤ M (18, p, 0) 11 := hc.1
  have hc1 : M (18, p, 0) 11 < 15 := hc.2
  refine go_rg (fun hRg _ _ => ?_)
  refine go_aload_n dX3_tellStep_0 rfl rfl ?_
  refine g3_52 dX3_tellStep_1 ?_
  refine go_bipush dX3_tellStep_4 ⟨by decide, by decide⟩ ?_
  refine go_icmp_lt (tgt := 11) dX3_tellStep_6 rfl (fun h6 => ?_) (fun h6 => ?_)
  · refine go_aload_n dX3_tellStep_11 rfl rfl ?_
    refine g3_52 dX3_tellStep_12 ?_
    refine go_nmi (fun c ec => ?_)
    have ec : c = M (18, p, 0) 11 := ec
    refine go_ist4 dX3_tellStep_15 rfl rfl ?_
    refine go_aload_n dX3_tellStep_17 rfl rfl ?_
    refine g3_9 dX3_tellStep_18 ?_
    refine go_iload dX3_tellStep_21 rfl ?_
    refine go_iload_n dX3_tellStep_23 rfl ?_
    refine go_iast dX3_tellStep_24 rfl (by omega) (by omega) ?_
    refine go_aload_n dX3_tellStep_25 rfl rfl ?_
    refine g3_15 dX3_tellStep_26 ?_
    refine go_iload dX3_tellStep_29 rfl ?_
    refine go_iload_n dX3_tellStep_31 rfl ?_
    refine go_iast dX3_tellStep_32 rfl (by omega) (by omega) ?_
    refine go_aload_n dX3_tellStep_33 rfl rfl ?_
    refine g3_18 dX3_tellStep_34 ?_
    refine go_iload dX3_tellStep_37 rfl ?_
    refine go_iconst dX3_tellStep_39 (R32_lit rfl) ?_
    refine go_iast dX3_tellStep_40 rfl (by omega) (by omega) ?_
    refine go_aload_n dX3_tellStep_41 rfl rfl ?_
    refine g3_21 dX3_tellStep_42 ?_
    refine go_iload dX3_tellStep_45 rfl ?_
    refine go_iconst dX3_tellStep_47 (R32_lit rfl) ?_
    refine go_iast dX3_tellStep_48 rfl (by omega) (by omega) ?_
    refine go_aload_n dX3_tellStep_49 rfl rfl ?_
    refine g3_24 dX3_tellStep_50 ?_
    refine go_iload dX3_tellStep_53 rfl ?_
    refine go_iload_n dX3_tellStep_55 rfl ?_
    refine go_iast dX3_tellStep_56 rfl (by omega) (by omega) ?_
    refine go_nmM (fun M5 eM5 => ?_)
    have h18 : M5 (18, p, 0) 11 = M (18, p, 0) 11 := by rw [eM5]; rfl
    refine go_aload_n dX3_tellStep_57 rfl rfl ?_
    first | refine go_dup_r dX3_tellStep_58 ?_ | refine go_dup_i dX3_tellStep_58 ?_
    refine g3_52 dX3_tellStep_59 ?_
    refine go_iconst dX3_tellStep_62 (R32_lit rfl) ?_
    refine go_iaddc dX3_tellStep_63 ⟨by omega, by omega⟩ ?_
    refine p3_52 dX3_tellStep_64 ?_
    refine go_nmM (fun M6 eM6 => ?_)
    have hS6 : pgC M6 p = tsS (pgC M p) nm b g := by
      rw [eM6, pgC_w11, eM5, pgC_wr (by decide) (by decide), pgC_wr (by decide) (by decide), pgC_wr (by decide) (by decide), pgC_wr (by decide) (by decide), pgC_wr (by decide) (by decide), ← eM5, h18, ec]
      rfl
    have hF6 : Pf p M M6 := by rw [eM6, eM5]; exact Pf.rf.wr19.wr19.wr19.wr19.wr19.wr18
    refine go_aload_n dX3_tellStep_67 rfl rfl ?_
    refine go_iload dX3_tellStep_68 rfl ?_
    refine v3_63 dX3_tellStep_70 rfl ⟨rfl, rfl⟩ ⟨rfl, rfl⟩ (ct_X3_settle (by rw [hS6, ec]; exact hv)) (fun r1 M1 N1 hr1 hq1 => ?_)
    obtain ⟨er, hS7, hF7, rfl⟩ := hq1
    rw [hS6, ec] at er hS7
    refine go_retz dX3_tellStep_73 (by first | exact Or.inl rfl | exact Or.inr rfl | omega) ?_
    exact ⟨er, hS7, hF6.tr hF7, rfl⟩
  · exact absurd h6 (by omega)
set_option maxRecDepth 100000 in
set_option maxHeartbeats 4000000 in
theorem ct_X3_tellInput {E : Ev} {M : Mm} {N : Nn} {p : Nat} {nm a b : Int} (hc : 0 ≤ pgC M p 11 0 ∧ pgC M p 11 0 < 15) (hd : 0 ≤ pgC M p 12 0 ∧ pgC M p 12 0 < 3) (hv : Sv (tiS (pgC M p) nm a b) (pgC M p 11 0)) : Ct E yX3_tellInput cX3_tellInput 5 (none) (rmH 5) [vr (18, p, 0), vi nm, vi a, vi b] M N (qv (fun M1 N1 => pgC M1 p = stS (tiS (pgC M p) nm a b) (pgC M p 11 0) ∧ Pf p M M1 ∧ N = N1)) := by
  refine ct_of (own := RX3) (L0 := [vr (18, p, 0), vi nm, vi a, vi b, vn]) rfl (by decide +kernel) rfl rfl ?_
  have hc0 : 0 ≤ M (18, p, 0) 11 := hc.1
  have hc1 : M (18, p, 0) 11 < 15 := hc.2
  refine go_rg (fun hRg _ _ => ?_)
  have hd0 : 0 ≤ M (18, p, 0) 12 := hd.1
  have hd1 : M (18, p, 0) 12 < 3 := hd.2
  refine go_aload_n dX3_tellInput_0 rfl rfl ?_
  refine g3_52 dX3_tellInput_1 ?_
  refine go_bipush dX3_tellInput_4 ⟨by decide, by decide⟩ ?_
  refine go_icmp_ge (tgt := 17) dX3_tellInput_6 rfl (fun h6 => ?_) (fun h6 => ?_)
  · first | exact absurd h6 (by omega) | exact absurd h14 (by omega)
  · refine go_aload_n dX3_tellInput_9 rfl rfl ?_
    refine g3_56 dX3_tellInput_10 ?_
    refine go_iconst dX3_tellInput_13 (R32_lit rfl) ?_
    refine go_icmp_lt (tgt := 18) dX3_tellInput_14 rfl (fun h14 => ?_) (fun h14 => ?_)
    · refine go_aload_n dX3_tellInput_18 rfl rfl ?_
      refine g3_52 dX3_tellInput_19 ?_
      refine go_nmi (fun c ec => ?_)
      have ec : c = M (18, p, 0) 11 := ec
      refine go_ist4 dX3_tellInput_22 rfl rfl ?_
      refine go_aload_n dX3_tellInput_24 rfl rfl ?_
      refine g3_9 dX3_tellInput_25 ?_
      refine go_iload dX3_tellInput_28 rfl ?_
      refine go_bipush dX3_tellInput_30 ⟨by decide, by decide⟩ ?_
      refine go_iast dX3_tellInput_32 rfl (by omega) (by omega) ?_
      refine go_aload_n dX3_tellInput_33 rfl rfl ?_
      refine g3_15 dX3_tellInput_34 ?_
      refine go_iload dX3_tellInput_37 rfl ?_
      refine go_iload_n dX3_tellInput_39 rfl ?_
      refine go_iast dX3_tellInput_40 rfl (by omega) (by omega) ?_
      refine go_aload_n dX3_tellInput_41 rfl rfl ?_
      refine g3_18 dX3_tellInput_42 ?_
      refine go_iload dX3_tellInput_45 rfl ?_
      refine go_iload_n dX3_tellInput_47 rfl ?_
      refine go_iast dX3_tellInput_48 rfl (by omega) (by omega) ?_
      refine go_aload_n dX3_tellInput_49 rfl rfl ?_
      refine g3_21 dX3_tellInput_50 ?_
      refine go_iload dX3_tellInput_53 rfl ?_
      refine go_iload_n dX3_tellInput_55 rfl ?_
      refine go_iast dX3_tellInput_56 rfl (by omega) (by omega) ?_
      refine go_aload_n dX3_tellInput_57 rfl rfl ?_
      refine g3_24 dX3_tellInput_58 ?_
      refine go_iload dX3_tellInput_61 rfl ?_
      refine go_iconst dX3_tellInput_63 (R32_lit rfl) ?_
      refine go_iast dX3_tellInput_64 rfl (by omega) (by omega) ?_
      refine go_nmM (fun M4 eM4 => ?_)
      have h12 : M4 (18, p, 0) 12 = M (18, p, 0) 12 := by rw [eM4]; rfl
      have h11 : M4 (18, p, 0) 11 = M (18, p, 0) 11 := by rw [eM4]; rfl
      refine go_aload_n dX3_tellInput_65 rfl rfl ?_
      refine g3_43 dX3_tellInput_66 ?_
      refine go_aload_n dX3_tellInput_69 rfl rfl ?_
      refine g3_56 dX3_tellInput_70 ?_
      refine go_iload dX3_tellInput_73 rfl ?_
      refine go_iast dX3_tellInput_75 rfl (by omega) (by omega) ?_
      refine go_nmM (fun M5 eM5 => ?_)
      have h12b : M5 (18, p, 0) 12 = M (18, p, 0) 12 := by rw [eM5]; exact h12
      have h11b : M5 (18, p, 0) 11 = M (18, p, 0) 11 := by rw [eM5]; exact h11
      refine go_aload_n dX3_tellInput_76 rfl rfl ?_
      first | refine go_dup_r dX3_tellInput_77 ?_ | refine go_dup_i dX3_tellInput_77 ?_
      refine g3_56 dX3_tellInput_78 ?_
      refine go_iconst dX3_tellInput_81 (R32_lit rfl) ?_
      refine go_iaddc dX3_tellInput_82 ⟨by omega, by omega⟩ ?_
      refine p3_56 dX3_tellInput_83 ?_
      refine go_nmM (fun M6 eM6 => ?_)
      have h11c : M6 (18, p, 0) 11 = M (18, p, 0) 11 := by rw [eM6, wr_nk (by decide)]; exact h11b
      refine go_aload_n dX3_tellInput_86 rfl rfl ?_
      first | refine go_dup_r dX3_tellInput_87 ?_ | refine go_dup_i dX3_tellInput_87 ?_
      refine g3_52 dX3_tellInput_88 ?_
      refine go_iconst dX3_tellInput_91 (R32_lit rfl) ?_
      refine go_iaddc dX3_tellInput_92 ⟨by omega, by omega⟩ ?_
      refine p3_52 dX3_tellInput_93 ?_
      refine go_nmM (fun M7 eM7 => ?_)
      have hS7 : pgC M7 p = tiS (pgC M p) nm a b := by
        rw [eM7, pgC_w11, h11c, eM6, pgC_w12, h12b, eM5, pgC_wr (by decide) (by decide), h12, eM4, pgC_wr (by decide) (by decide), pgC_wr (by decide) (by decide), pgC_wr (by decide) (by decide), pgC_wr (by decide) (by decide), pgC_wr (by decide) (by decide), ec]
        rfl
      have hF7 : Pf p M M7 := by rw [eM7, eM6, eM5, eM4]; exact Pf.rf.wr19.wr19.wr19.wr19.wr19.wr19.wr18.wr18
      refine go_aload_n dX3_tellInput_96 rfl rfl ?_
      refine go_iload dX3_tellInput_97 rfl ?_
      refine v3_63 dX3_tellInput_99 rfl ⟨rfl, rfl⟩ ⟨rfl, rfl⟩ (ct_X3_settle (by rw [hS7, ec]; exact hv)) (fun r1 M1 N1 hr1 hq1 => ?_)
      obtain ⟨er, hS8, hF8, rfl⟩ := hq1
      rw [hS7, ec] at hS8
      first | refine go_pop_i dX3_tellInput_102 ?_ | refine go_pop_r dX3_tellInput_102 ?_
      refine go_retv dX3_tellInput_103 ?_
      exact ⟨hS8, hF7.tr hF8, rfl⟩
    · first | exact absurd h6 (by omega) | exact absurd h14 (by omega)
set_option maxRecDepth 100000 in
set_option maxHeartbeats 4000000 in
theorem lp_X3_named {E : Ev} {M : Mm} {N : Nn} {p : Nat} {x : Int} (hc0 : 0 ≤ pgC M p 11 0) (hc1 : pgC M p 11 0 ≤ 15) : ∀ (n : Nat) (i : Int), (i + n = pgC M p 11 0) → (0 ≤ i) → (∀ w, 0 ≤ w → w < i → pgC M p 1 w ≠ x) → Go E RX3 cX3_named 3 ((some .int)) (rmH 1) 0 0 (zM E (qi (fun r M1 N1 => ((0 ≤ r ∧ r < pgC M p 11 0 ∧ pgC M p 1 r = x ∧ ∀ w, 0 ≤ w → w < r → pgC M p 1 w ≠ x) ∨ (r = -1 ∧ ∀ w, 0 ≤ w → w < pgC M p 11 0 → pgC M p 1 w ≠ x)) ∧ M = M1 ∧ N = N1))) 2 [vr (18, p, 0), vi x, vi i] [] M N := by
  intro n
  induction n using Nat.strongRecOn with
  | ind n ih =>
  intro i hn h0 hW
  refine go_iload_n dX3_named_2 rfl ?_
  refine go_aload_n dX3_named_3 rfl rfl ?_
  refine g3_52 dX3_named_4 ?_
  refine go_nmi (fun c ec => ?_)
  have ec : c = pgC M p 11 0 := ec
  refine go_icmp_ge (tgt := 28) dX3_named_7 rfl (fun h7 => ?_) (fun h7 => ?_)
  · refine go_iconst dX3_named_28 (R32_lit rfl) ?_
    exact go_reti dX3_named_29 ⟨Or.inr ⟨rfl, fun w w0 w1 => hW w w0 (by omega)⟩, rfl, rfl⟩
  · refine go_aload_n dX3_named_10 rfl rfl ?_
    refine g3_15 dX3_named_11 ?_
    refine go_iload_n dX3_named_14 rfl ?_
    refine go_iald dX3_named_15 rfl (by omega) (by omega) ?_
    refine go_nmi (fun y ey => ?_)
    have ey : y = pgC M p 1 i := ey
    refine go_iload_n dX3_named_16 rfl ?_
    refine go_icmp_ne (tgt := 22) dX3_named_17 rfl (fun h17 => ?_) (fun h17 => ?_)
    · refine go_iinc2c dX3_named_22 rfl rfl ⟨by omega, by omega⟩ ?_
      refine go_goto (tgt := 2) dX3_named_25 rfl ?_
      exact ih (n - 1) (by omega) (i + 1) (by omega) (by omega) (fun w w0 w1 => by
        by_cases e : w = i
        · rw [e, ← ey]; exact h17
        · exact hW w w0 (by omega))
    · refine go_iload_n dX3_named_20 rfl ?_
      exact go_reti dX3_named_21 ⟨Or.inl ⟨h0, by omega, by rw [← ey]; exact h17, hW⟩, rfl, rfl⟩
set_option maxRecDepth 100000 in
set_option maxHeartbeats 4000000 in
theorem ct_X3_named {E : Ev} {M : Mm} {N : Nn} {p : Nat} {x : Int} (hc0 : 0 ≤ pgC M p 11 0) (hc1 : pgC M p 11 0 ≤ 15) : Ct E yX3_named cX3_named 3 ((some .int)) (rmH 1) [vr (18, p, 0), vi x] M N (qi (fun r M1 N1 => ((0 ≤ r ∧ r < pgC M p 11 0 ∧ pgC M p 1 r = x ∧ ∀ w, 0 ≤ w → w < r → pgC M p 1 w ≠ x) ∨ (r = -1 ∧ ∀ w, 0 ≤ w → w < pgC M p 11 0 → pgC M p 1 w ≠ x)) ∧ M = M1 ∧ N = N1)) := by
  refine ct_of (own := RX3) (L0 := [vr (18, p, 0), vi x, vn]) rfl (by decide +kernel) rfl rfl ?_
  refine go_iconst dX3_named_0 (R32_lit rfl) ?_
  refine go_ist2 dX3_named_1 rfl rfl ?_
  exact lp_X3_named hc0 hc1 (pgC M p 11 0).toNat 0 (by omega) (by omega) (fun w w0 w1 => absurd w1 (by omega))
def ptI (S : Pg) : Nat → Int
  | 0 => 1
  | k + 1 => ptI S k * (S 3 (S 10 k) - S 2 (S 10 k) + 1)
/-- the inputs' rows -/
def IW (S : Pg) : Prop := 0 ≤ S 12 0 ∧ S 12 0 ≤ 3 ∧ ∀ i, 0 ≤ i → i < S 12 0 → 0 ≤ S 10 i ∧ S 10 i < S 11 0 ∧ S 11 0 ≤ 15 ∧ -1000 ≤ S 2 (S 10 i) ∧ S 2 (S 10 i) ≤ S 3 (S 10 i) ∧ S 3 (S 10 i) ≤ 1000
theorem ptI_bd {S : Pg} (h : IW S) : ∀ k : Nat, (k : Int) ≤ S 12 0 → 1 ≤ ptI S k ∧ ptI S k ≤ 2001 ^ k
  | 0, _ => by show (1 : Int) ≤ 1 ∧ (1 : Int) ≤ 1; decide
  | k + 1, hk => by
    have ih := ptI_bd h k (by omega)
    have hb := h.2.2 k (by omega) (by omega)
    show 1 ≤ ptI S k * _ ∧ ptI S k * _ ≤ _
    have h1 : 1 ≤ S 3 (S 10 k) - S 2 (S 10 k) + 1 ∧ S 3 (S 10 k) - S 2 (S 10 k) + 1 ≤ 2001 := by omega
    generalize S 3 (S 10 k) - S 2 (S 10 k) + 1 = y at h1 ⊢
    constructor
    · have : 1 * 1 ≤ ptI S k * y := Int.mul_le_mul ih.1 h1.1 (by decide) (by omega)
      omega
    · rw [Int.pow_succ]
      exact Int.mul_le_mul ih.2 h1.2 (by omega) (Int.pow_nonneg (by decide))
theorem ptI_bd3 {S : Pg} (h : IW S) (k : Nat) (hk : (k : Int) ≤ S 12 0) : 1 ≤ ptI S k ∧ ptI S k ≤ 8012006001 := by
  have h1 := ptI_bd h k hk
  have h3 := h.2.1
  refine ⟨h1.1, Int.le_trans h1.2 ?_⟩
  have hz : k = 0 ∨ k = 1 ∨ k = 2 ∨ k = 3 := by omega
  rcases hz with rfl | rfl | rfl | rfl <;> decide
set_option maxRecDepth 100000 in
set_option maxHeartbeats 4000000 in
theorem lp_X3_points {E : Ev} {M : Mm} {N : Nn} {p : Nat} (hw : IW (pgC M p)) : ∀ (n : Nat) (i : Int) (x4 : Vv), (i + n = pgC M p 12 0) → (0 ≤ i) → Go E RX3 cX3_points 5 ((some .long)) (rmH 1) 0 0 (zM E (ql (fun r M1 N1 => r = ptI (pgC M p) (pgC M p 12 0).toNat ∧ M = M1 ∧ N = N1))) 4 [vr (18, p, 0), vl (ptI (pgC M p) i.toNat), vn, vi i, x4] [] M N := by
  intro n
  induction n using Nat.strongRecOn with
  | ind n ih =>
  intro i x4 hn h0
  refine go_iload_n dX3_points_4 rfl ?_
  refine go_aload_n dX3_points_5 rfl rfl ?_
  refine g3_56 dX3_points_6 ?_
  refine go_nmi (fun c ec => ?_)
  have ec : c = pgC M p 12 0 := ec
  refine go_icmp_ge (tgt := 47) dX3_points_9 rfl (fun h9 => ?_) (fun h9 => ?_)
  · refine go_lload_n dX3_points_47 rfl ?_
    exact go_retl dX3_points_48 ⟨by rw [show i = pgC M p 12 0 by omega], rfl, rfl⟩
  · have hb := hw.2.2 i h0 (by omega)
    have h12 := hw.2.1
    have hp := ptI_bd3 hw i.toNat (by omega)
    have hp2 := ptI_bd3 hw (i.toNat + 1) (by omega)
    refine go_aload_n dX3_points_12 rfl rfl ?_
    refine g3_43 dX3_points_13 ?_
    refine go_iload_n dX3_points_16 rfl ?_
    refine go_iald dX3_points_17 rfl (by omega) (by omega) ?_
    refine go_nmi (fun v ev => ?_)
    have ev : v = pgC M p 10 i := ev
    rw [← ev] at hb
    refine go_ist4 dX3_points_18 rfl rfl ?_
    refine go_lload_n dX3_points_20 rfl ?_
    refine go_aload_n dX3_points_21 rfl rfl ?_
    refine g3_21 dX3_points_22 ?_
    refine go_iload dX3_points_25 rfl ?_
    refine go_iald dX3_points_27 rfl (by omega) (by omega) ?_
    refine go_nmi (fun t et => ?_)
    have et : t = pgC M p 3 v := et
    refine go_aload_n dX3_points_28 rfl rfl ?_
    refine g3_18 dX3_points_29 ?_
    refine go_iload dX3_points_32 rfl ?_
    refine go_iald dX3_points_34 rfl (by omega) (by omega) ?_
    refine go_nmi (fun f ef => ?_)
    have ef : f = pgC M p 2 v := ef
    refine go_isubc dX3_points_35 ⟨by omega, by omega⟩ ?_
    refine go_iconst dX3_points_36 (R32_lit rfl) ?_
    refine go_iaddc dX3_points_37 ⟨by omega, by omega⟩ ?_
    refine go_i2l dX3_points_38 ?_
    have hm : ptI (pgC M p) i.toNat * (t - f + 1) = ptI (pgC M p) (i + 1).toNat := by
      rw [show (i + 1).toNat = i.toNat + 1 by omega]
      show _ = _ * (pgC M p 3 (pgC M p 10 (i.toNat : Int)) - pgC M p 2 (pgC M p 10 (i.toNat : Int)) + 1)
      rw [Int.toNat_of_nonneg h0, ← ev, et, ef]
    refine go_lmulc dX3_points_39 (by rw [hm, show (i + 1).toNat = i.toNat + 1 by omega]; exact ⟨by omega, by omega⟩) ?_
    rw [hm]
    refine go_lst1 dX3_points_40 rfl rfl ?_
    refine go_iinc3c dX3_points_41 rfl rfl ⟨by omega, by omega⟩ ?_
    refine go_goto (tgt := 4) dX3_points_44 rfl ?_
    exact ih (n - 1) (by omega) (i + 1) _ (by omega) (by omega)
set_option maxRecDepth 100000 in
set_option maxHeartbeats 4000000 in
theorem ct_X3_points {E : Ev} {M : Mm} {N : Nn} {p : Nat} (hw : IW (pgC M p)) : Ct E yX3_points cX3_points 5 ((some .long)) (rmH 1) [vr (18, p, 0)] M N (ql (fun r M1 N1 => r = ptI (pgC M p) (pgC M p 12 0).toNat ∧ M = M1 ∧ N = N1)) := by
  refine ct_of (own := RX3) (L0 := [vr (18, p, 0), vn, vn, vn, vn]) rfl (by decide +kernel) rfl rfl ?_
  refine go_lconst (x := 1) dX3_points_0 rfl ?_
  refine go_lst1 dX3_points_1 rfl rfl ?_
  refine go_iconst dX3_points_2 (R32_lit rfl) ?_
  refine go_ist3 dX3_points_3 rfl rfl ?_
  exact lp_X3_points hw (pgC M p 12 0).toNat 0 _ (by have := hw.1; omega) (by omega)
