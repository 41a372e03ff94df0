set_option maxRecDepth 100000 in
set_option maxHeartbeats 4000000 in
theorem ct_X7_range {E : Ev} {M : Mm} {N : Nn} {p q : Nat} {v a b : Int} {φ : Nat → FV} {ν : Nu} {ma : Int → Int} (hC : N (3, 0, 0) 6 = (18, p, 0)) (hc : (pgC M p) 11 0 ≤ 15) (hD : N (3, 0, 0) 7 = (18, q, 0)) (hpq : p ≠ q) (hF : FS M 0 φ ν ma) (hRW : 0 ≤ v ∧ v < (pgC M p) 11 0 ∧ (pgC M p) 0 v = -2 ∧ -1000 ≤ a ∧ a ≤ 1000 ∧ -1000 ≤ b ∧ b ≤ 1000 ∧ a ≤ b ∧ (b - a).tmod 2 = 0 → RW (pst (pst (pgC M p) 2 v a) 3 v b)) (hRC : 0 ≤ v ∧ v < (pgC M p) 11 0 ∧ (pgC M p) 0 v = -2 ∧ -1000 ≤ a ∧ a ≤ 1000 ∧ -1000 ≤ b ∧ b ≤ 1000 ∧ a ≤ b ∧ (b - a).tmod 2 = 0 → okW (pst (pst (pgC M p) 2 v a) 3 v b) → RC (stA (pst (pst (pgC M p) 2 v a) 3 v b) ((pgC M p) 11 0).toNat)) : Ct E yX7_range cX7_range 4 ((some .boolean)) (rmH 8) [vr (3, 0, 0), vi v, vi a, vi b] M N (qi (fun r M1 N1 => ((0 ≤ v ∧ v < (pgC M p) 11 0 ∧ (pgC M p) 0 v = -2 ∧ -1000 ≤ a ∧ a ≤ 1000 ∧ -1000 ≤ b ∧ b ≤ 1000 ∧ a ≤ b ∧ (b - a).tmod 2 = 0) ∧ okW (pst (pst (pgC M p) 2 v a) 3 v b) ∧ r = 1 ∧ M1 (5, 0, 0) = upI (M (5, 0, 0)) v a ∧ pgC M1 q = (stA (pst (pst (pgC M p) 2 v a) 3 v b) ((pgC M p) 11 0).toNat) ∧ Fm M1 (stA (pst (pst (pgC M p) 2 v a) 3 v b) ((pgC M p) 11 0).toNat) ∧ Ch q M M1 ∧ (∀ j, j ≠ 9 → M1 (3, 0, 0) j = M (3, 0, 0) j) ∧ M1 (3, 0, 0) 9 = 0 ∧ Tk p q N N1 ∨ (0 ≤ v ∧ v < (pgC M p) 11 0 ∧ (pgC M p) 0 v = -2 ∧ -1000 ≤ a ∧ a ≤ 1000 ∧ -1000 ≤ b ∧ b ≤ 1000 ∧ a ≤ b ∧ (b - a).tmod 2 = 0) ∧ ¬ okW (pst (pst (pgC M p) 2 v a) 3 v b) ∧ r = 0 ∧ (∃ M0, Pf q M M0 ∧ M1 = tr M0 5) ∧ N = N1 ∨ (0 ≤ v ∧ v < (pgC M p) 11 0 ∧ (pgC M p) 0 v = -2 ∧ ¬ (-1000 ≤ a ∧ a ≤ 1000 ∧ -1000 ≤ b ∧ b ≤ 1000 ∧ a ≤ b ∧ (b - a).tmod 2 = 0)) ∧ r = 0 ∧ M1 = tr M 2 ∧ N = N1 ∨ ¬ (0 ≤ v ∧ v < (pgC M p) 11 0 ∧ (pgC M p) 0 v = -2) ∧ r = 0 ∧ M1 = tr M 1 ∧ N = N1))) := by
  refine ct_of (own := RX7) (L0 := [vr (3, 0, 0), vi v, vi a, vi b]) rfl (by decide +kernel) rfl rfl ?_
  refine go_aload_n dX7_range_0 rfl rfl ?_
  refine g7_50 dX7_range_1 ?_
  rw [hC]
  refine go_iload_n dX7_range_4 rfl ?_
  refine v7_126 dX7_range_5 rfl ⟨rfl, rfl⟩ ⟨rfl, rfl⟩ (ct_X3_isInput hc) (fun r1 M1 N1 hr1 hq1 => ?_)
  obtain ⟨e1, rfl, rfl⟩ := hq1
  have z1 := b1_iff e1
  refine go_if_ne (tgt := 17) dX7_range_8 rfl (fun h8 => ?_) (fun h8 => ?_)
  · refine go_iload_n dX7_range_17 rfl ?_
    refine v7_282 dX7_range_18 rfl ⟨rfl, rfl⟩ ⟨rfl, rfl⟩ ct_X7_isNumber (fun r2 M2 N2 hr2 hq2 => ?_)
    obtain ⟨e2, rfl, rfl⟩ := hq2
    have z2 := b1_iff e2
    refine go_if_eq (tgt := 32) dX7_range_21 rfl (fun h21 => ?_) (fun h21 => ?_)
    · refine go_aload_n dX7_range_32 rfl rfl ?_
      refine go_iconst dX7_range_33 (R32_lit rfl) ?_
      refine v7_156 dX7_range_34 rfl ⟨rfl, rfl⟩ ⟨rfl, rfl⟩ ct_X7_refused (fun r9 M9 N9 hr9 hq9 => ?_)
      refine go_retz dX7_range_37 (by first | exact Or.inl rfl | exact Or.inr rfl | omega) ?_
      obtain ⟨y1, y2, rfl⟩ := hq9
      exact Or.inr (Or.inr (Or.inl ⟨by omega, y1, y2, rfl⟩))
    · refine go_iload_n dX7_range_24 rfl ?_
      refine go_iload_n dX7_range_25 rfl ?_
      refine v7_285 dX7_range_26 rfl ⟨rfl, rfl⟩ ⟨rfl, rfl⟩ (ct_X7_isEndOf (by omega)) (fun r3 M3 N3 hr3 hq3 => ?_)
      obtain ⟨e3, rfl, rfl⟩ := hq3
      have z3 := b1_iff e3
      refine go_if_ne (tgt := 38) dX7_range_29 rfl (fun h29 => ?_) (fun h29 => ?_)
      · have hok : 0 ≤ v ∧ v < (pgC M p) 11 0 ∧ (pgC M p) 0 v = -2 ∧ -1000 ≤ a ∧ a ≤ 1000 ∧ -1000 ≤ b ∧ b ≤ 1000 ∧ a ≤ b ∧ (b - a).tmod 2 = 0 := by omega
        refine go_aload_n dX7_range_38 rfl rfl ?_
        refine g7_54 dX7_range_39 ?_
        rw [hD]
        refine go_aload_n dX7_range_42 rfl rfl ?_
        refine g7_50 dX7_range_43 ?_
        rw [hC]
        refine v7_269 dX7_range_46 rfl ⟨rfl, rfl⟩ ⟨rfl, rfl⟩ (ct_X3_copy (p := q) (q := p) hpq) (fun M6 N6 hq6 => ?_)
        obtain ⟨g1, g2, rfl⟩ := hq6
        refine go_aload_n dX7_range_49 rfl rfl ?_
        refine g7_54 dX7_range_50 ?_
        rw [hD]
        refine g7_93 dX7_range_53 ?_
        refine go_iload_n dX7_range_56 rfl ?_
        refine go_iload_n dX7_range_57 rfl ?_
        refine go_iast dX7_range_58 rfl (by omega) (by omega) ?_
        refine go_aload_n dX7_range_59 rfl rfl ?_
        refine g7_54 dX7_range_60 ?_
        rw [hD]
        refine g7_129 dX7_range_63 ?_
        refine go_iload_n dX7_range_66 rfl ?_
        refine go_iload_n dX7_range_67 rfl ?_
        refine go_iast dX7_range_68 rfl (by omega) (by omega) ?_
        refine go_nmM (fun M3 eM3 => ?_)
        have hf3 : Pf q M M3 := by rw [eM3]; exact g2.wr19.wr19
        have hg3 : pgC M3 q = (pst (pst (pgC M p) 2 v a) 3 v b) := by rw [eM3, pgC_wr (by decide) (by decide), pgC_wr (by decide) (by decide), g1]
        refine go_aload_n dX7_range_69 rfl rfl ?_
        refine g7_54 dX7_range_70 ?_
        rw [hD]
        refine v7_279 dX7_range_73 rfl ⟨rfl, rfl⟩ ⟨rfl, rfl⟩ (ct_X3_settleAll (by rw [hg3]; exact hRW hok)) (fun r4 M4 N4 hr4 hq4 => ?_)
        obtain ⟨s1, s2, rfl⟩ := hq4
        rw [hg3] at s1
        refine go_if_ne (tgt := 85) dX7_range_76 rfl (fun h76 => ?_) (fun h76 => ?_)
        · have hFS : FS M4 0 φ ν ma := Pf.fs hF (hf3.tr s2)
          have hrc : RC (pgC M4 q) := by
            rcases s1 with ⟨e1', e2', e3'⟩ | ⟨e1', _⟩
            · rw [e3']; exact hRC hok e2'
            · exact absurd e1' h76
          refine go_aload_n dX7_range_85 rfl rfl ?_
          refine v7_84 dX7_range_86 rfl ⟨rfl, rfl⟩ ⟨rfl, rfl⟩ (ct_X7_takeSpare hC hD hFS hrc) (fun M5 N5 hq5 => ?_)
          refine go_aload_n dX7_range_89 rfl rfl ?_
          refine g7_15 dX7_range_90 ?_
          refine go_iload_n dX7_range_93 rfl ?_
          refine go_iload_n dX7_range_94 rfl ?_
          refine go_iast dX7_range_95 rfl (by omega) (by omega) ?_
          refine go_aload_n dX7_range_96 rfl rfl ?_
          refine go_iconst dX7_range_97 (R32_lit rfl) ?_
          refine p7_61 dX7_range_98 ?_
          refine go_iconst dX7_range_101 (R32_lit rfl) ?_
          refine go_retz dX7_range_102 (by first | exact Or.inl rfl | exact Or.inr rfl | omega) ?_
          obtain ⟨t1, t2, t3⟩ := hq5
          rcases s1 with ⟨e1', e2', e3'⟩ | ⟨e1', _⟩
          · have hf4 : Pf q M M4 := hf3.tr s2
            refine Or.inl ⟨by omega, e2', rfl, ?_, ?_, ?_, ?_, ?_, ?_, t3⟩
            · rw [wr_nf (nm_ne1 (by decide)), upI_wr, t2 _ (fun z => absurd z.2.1 (by show ¬ 7 ≤ 5; decide)), hf4 _ (nm_ne1 (by decide)) (fun z => absurd z.1 (by show ¬ 5 = 19; decide))]
            · rw [pg_tr, pgC_w (by decide) (by decide), t2.pg]; exact e3'
            · rw [e3'] at t1
              obtain ⟨φ1, ma1, u1, u2⟩ := t1
              exact Fm.tr ⟨φ1, ma1, u1.fr (fun a b a0 a1 => wr_nf (nm_ne1 (by omega))), u2⟩
            · intro n n3 n5 nq nr nf
              rw [wr_nf n3, wr_nf n5, t2 n nf, hf4 n nq nr]
            · intro j hj
              rw [wr_nk hj, wr_nf (nm_ne1 (by decide)), t2 _ (fun z => absurd z.2.1 (by show ¬ 7 ≤ 3; decide)), hf4 _ (nm_ne1 (by decide)) (fun z => absurd z.1 (by show ¬ 3 = 19; decide))]
            · rw [wr_eq]
          · exact absurd e1' h76
        · refine go_aload_n dX7_range_79 rfl rfl ?_
          refine go_iconst dX7_range_80 (R32_lit rfl) ?_
          refine v7_156 dX7_range_81 rfl ⟨rfl, rfl⟩ ⟨rfl, rfl⟩ ct_X7_refused (fun r9 M9 N9 hr9 hq9 => ?_)
          refine go_retz dX7_range_84 (by first | exact Or.inl rfl | exact Or.inr rfl | omega) ?_
          obtain ⟨y1, y2, rfl⟩ := hq9
          rcases s1 with ⟨e1', _⟩ | ⟨e1', e2'⟩
          · exact absurd h76 (by omega)
          · exact Or.inr (Or.inl ⟨by omega, e2', y1, ⟨M4, hf3.tr s2, y2⟩, rfl⟩)
      · refine go_aload_n dX7_range_32 rfl rfl ?_
        refine go_iconst dX7_range_33 (R32_lit rfl) ?_
        refine v7_156 dX7_range_34 rfl ⟨rfl, rfl⟩ ⟨rfl, rfl⟩ ct_X7_refused (fun r9 M9 N9 hr9 hq9 => ?_)
        refine go_retz dX7_range_37 (by first | exact Or.inl rfl | exact Or.inr rfl | omega) ?_
        obtain ⟨y1, y2, rfl⟩ := hq9
        exact Or.inr (Or.inr (Or.inl ⟨by omega, y1, y2, rfl⟩))
  · refine go_aload_n dX7_range_11 rfl rfl ?_
    refine go_iconst dX7_range_12 (R32_lit rfl) ?_
    refine v7_156 dX7_range_13 rfl ⟨rfl, rfl⟩ ⟨rfl, rfl⟩ ct_X7_refused (fun r9 M9 N9 hr9 hq9 => ?_)
    refine go_retz dX7_range_16 (by first | exact Or.inl rfl | exact Or.inr rfl | omega) ?_
    obtain ⟨y1, y2, rfl⟩ := hq9
    exact Or.inr (Or.inr (Or.inr (⟨by omega, y1, y2, rfl⟩)))
