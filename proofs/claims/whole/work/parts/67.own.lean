def pb1 (x : Int) (b : Int → Int) (l : Int) : Int → Int := (pbS x 4 24 b l).1
theorem Pf.fs {M M1 : Mm} {q : Nat} {φ : Nat → FV} {ν : Nu} {ma : Int → Int} {f : Nat} (h : FS M f φ ν ma) (hf : Pf q M M1) : FS M1 f φ ν ma := h.fr (fun a b a0 a1 => hf _ (nm_ne1 (by omega)) (fun z => absurd z.1 (by show ¬ a = 19; omega)))
/-- what a change of the program touches -/
def Ch (q : Nat) (M M1 : Mm) : Prop := ∀ n : Nm, n ≠ (3, 0, 0) → n ≠ (5, 0, 0) → n ≠ (18, q, 0) → ¬ (n.1 = 19 ∧ n.2.1 = q) → ¬ (n.2.1 = 0 ∧ 7 ≤ n.1 ∧ n.1 ≤ 16) → M1 n = M n
theorem Fm.tr {M : Mm} {S : Pg} {k : Int} (h : Fm M S) : Fm (wr M (3, 0, 0) 9 k) S := by
  obtain ⟨φ, ma, h1, h2⟩ := h; exact ⟨φ, ma, h1.tr, h2⟩
set_option maxRecDepth 100000 in
set_option maxHeartbeats 4000000 in
theorem ct_X7_feed {E : Ev} {M : Mm} {N : Nn} {a b c d e : Int} (l0 : 0 ≤ M (3, 0, 0) 8) (l1 : M (3, 0, 0) 8 ≤ 500) : Ct E yX7_feed cX7_feed 6 ((some .int)) (rmH 2) [vr (3, 0, 0), vi a, vi b, vi c, vi d, vi e] M N (qi (fun r M1 N1 => (((M (3, 0, 0) 8) + 20 ≤ 500 ∧ r = (M (3, 0, 0) 8) + 20 ∧ M1 (4, 0, 0) = (pb1 e (pb1 d (pb1 c (pb1 b (pb1 a (M (4, 0, 0)) (M (3, 0, 0) 8)) ((M (3, 0, 0) 8) + 4)) ((M (3, 0, 0) 8) + 8)) ((M (3, 0, 0) 8) + 12)) ((M (3, 0, 0) 8) + 16)) ∧ M1 (3, 0, 0) 8 = (M (3, 0, 0) 8) + 20 ∧ Tf M M1) ∨ (500 < (M (3, 0, 0) 8) + 20 ∧ r = -1 ∧ M = M1)) ∧ N = N1)) := by
  refine ct_of (own := RX7) (L0 := [vr (3, 0, 0), vi a, vi b, vi c, vi d, vi e]) rfl (by decide +kernel) rfl rfl ?_
  refine go_aload_n dX7_feed_0 rfl rfl ?_
  refine g7_57 dX7_feed_1 ?_
  refine go_bipush dX7_feed_4 ⟨by decide, by decide⟩ ?_
  refine go_iaddc dX7_feed_6 ⟨by omega, by omega⟩ ?_
  refine go_sipush dX7_feed_7 ⟨by decide, by decide⟩ ?_
  refine go_icmp_le (tgt := 15) dX7_feed_10 rfl (fun h10 => ?_) (fun h10 => ?_)
  · refine go_aload_n dX7_feed_15 rfl rfl ?_
    refine go_iload_n dX7_feed_16 rfl ?_
    refine v7_70 dX7_feed_17 rfl ⟨rfl, rfl⟩ ⟨rfl, rfl⟩ (ct_X7_putBytes (by omega) (by omega)) (fun M1 N1 hq1 => ?_)
    obtain ⟨a1, b1, c1, rfl⟩ := hq1
    refine go_aload_n dX7_feed_20 rfl rfl ?_
    refine go_iload_n dX7_feed_21 rfl ?_
    refine v7_70 dX7_feed_22 rfl ⟨rfl, rfl⟩ ⟨rfl, rfl⟩ (ct_X7_putBytes (by omega) (by omega)) (fun M2 N2 hq2 => ?_)
    obtain ⟨a2, b2, c2, rfl⟩ := hq2
    refine go_aload_n dX7_feed_25 rfl rfl ?_
    refine go_iload_n dX7_feed_26 rfl ?_
    refine v7_70 dX7_feed_27 rfl ⟨rfl, rfl⟩ ⟨rfl, rfl⟩ (ct_X7_putBytes (by omega) (by omega)) (fun M3 N3 hq3 => ?_)
    obtain ⟨a3, b3, c3, rfl⟩ := hq3
    refine go_aload_n dX7_feed_30 rfl rfl ?_
    refine go_iload dX7_feed_31 rfl ?_
    refine v7_70 dX7_feed_33 rfl ⟨rfl, rfl⟩ ⟨rfl, rfl⟩ (ct_X7_putBytes (by omega) (by omega)) (fun M4 N4 hq4 => ?_)
    obtain ⟨a4, b4, c4, rfl⟩ := hq4
    refine go_aload_n dX7_feed_36 rfl rfl ?_
    refine go_iload dX7_feed_37 rfl ?_
    refine v7_70 dX7_feed_39 rfl ⟨rfl, rfl⟩ ⟨rfl, rfl⟩ (ct_X7_putBytes (by omega) (by omega)) (fun M5 N5 hq5 => ?_)
    obtain ⟨a5, b5, c5, rfl⟩ := hq5
    refine go_aload_n dX7_feed_42 rfl rfl ?_
    refine g7_57 dX7_feed_43 ?_
    refine go_reti dX7_feed_46 ?_
    refine ⟨Or.inl ⟨by omega, by omega, ?_, by omega, c1.tr (c2.tr (c3.tr (c4.tr c5)))⟩, rfl⟩
    rw [a5, a4, a3, a2, a1, show M4 (3, 0, 0) 8 = (M (3, 0, 0) 8) + 16 by omega, show M3 (3, 0, 0) 8 = (M (3, 0, 0) 8) + 12 by omega, show M2 (3, 0, 0) 8 = (M (3, 0, 0) 8) + 8 by omega, b1]
    rfl
  · refine go_iconst dX7_feed_13 (R32_lit rfl) ?_
    exact go_reti dX7_feed_14 ⟨Or.inr ⟨by omega, rfl, rfl⟩, rfl⟩
set_option maxRecDepth 100000 in
set_option maxHeartbeats 4000000 in
theorem ct_X7_grid {E : Ev} {M : Mm} {N : Nn} {p q : Nat} {v k : Int} {φ : Nat → FV} {ν : Nu} {ma : Int → Int} (hC : N (3, 0, 0) 6 = (18, p, 0)) (hc : (pgC M p) 11 0 ≤ 15) (hD : N (3, 0, 0) 7 = (18, q, 0)) (hpq : p ≠ q) (hF : FS M 0 φ ν ma) (hRW : 0 ≤ k → k ≤ 8 → RW (pst (pgC M p) 4 v k)) (hRC : 0 ≤ k → k ≤ 8 → okW (pst (pgC M p) 4 v k) → RC (stA (pst (pgC M p) 4 v k) ((pgC M p) 11 0).toNat)) : Ct E yX7_grid cX7_grid 4 ((some .int)) (rmH 8) [vr (3, 0, 0), vi v, vi k] M N (qi (fun r M1 N1 => ((0 ≤ v ∧ v < (pgC M p) 11 0 ∧ (pgC M p) 0 v ≠ -2 ∧ 0 ≤ k ∧ k ≤ 8) ∧ okW (pst (pgC M p) 4 v k) ∧ r = (pgC M p) 4 v ∧ M1 (5, 0, 0) = M (5, 0, 0) ∧ pgC M1 q = (stA (pst (pgC M p) 4 v k) ((pgC M p) 11 0).toNat) ∧ Fm M1 (stA (pst (pgC M p) 4 v k) ((pgC M p) 11 0).toNat) ∧ Ch q M M1 ∧ (∀ j, j ≠ 9 → M1 (3, 0, 0) j = M (3, 0, 0) j) ∧ M1 (3, 0, 0) 9 = 0 ∧ Tk p q N N1 ∨ (0 ≤ v ∧ v < (pgC M p) 11 0 ∧ (pgC M p) 0 v ≠ -2 ∧ 0 ≤ k ∧ k ≤ 8) ∧ ¬ okW (pst (pgC M p) 4 v k) ∧ r = -1 ∧ (∃ M0, Pf q M M0 ∧ M1 = tr M0 5) ∧ N = N1 ∨ (0 ≤ v ∧ v < (pgC M p) 11 0 ∧ (pgC M p) 0 v ≠ -2 ∧ ¬ (0 ≤ k ∧ k ≤ 8)) ∧ r = -1 ∧ M1 = tr M 2 ∧ N = N1 ∨ ¬ (0 ≤ v ∧ v < (pgC M p) 11 0 ∧ (pgC M p) 0 v ≠ -2) ∧ r = -1 ∧ M1 = tr M 1 ∧ N = N1))) := by
  refine ct_of (own := RX7) (L0 := [vr (3, 0, 0), vi v, vi k, vn]) rfl (by decide +kernel) rfl rfl ?_
  refine go_aload_n dX7_grid_0 rfl rfl ?_
  refine g7_50 dX7_grid_1 ?_
  rw [hC]
  refine go_iload_n dX7_grid_4 rfl ?_
  refine v7_147 dX7_grid_5 rfl ⟨rfl, rfl⟩ ⟨rfl, rfl⟩ (ct_X3_isStep hc) (fun r1 M1 N1 hr1 hq1 => ?_)
  obtain ⟨e1, rfl, rfl⟩ := hq1
  have z1 := b1_iff e1
  refine go_if_ne (tgt := 17) dX7_grid_8 rfl (fun h8 => ?_) (fun h8 => ?_)
  · refine go_iload_n dX7_grid_17 rfl ?_
    refine go_if_lt (tgt := 27) dX7_grid_18 rfl (fun h18 => ?_) (fun h18 => ?_)
    · refine go_aload_n dX7_grid_27 rfl rfl ?_
      refine go_iconst dX7_grid_28 (R32_lit rfl) ?_
      refine v7_74 dX7_grid_29 rfl ⟨rfl, rfl⟩ ⟨rfl, rfl⟩ ct_X7_none (fun r9 M9 N9 hr9 hq9 => ?_)
      refine go_reti dX7_grid_32 ?_
      obtain ⟨y1, y2, rfl⟩ := hq9
      exact Or.inr (Or.inr (Or.inl ⟨by omega, y1, y2, rfl⟩))
    · refine go_iload_n dX7_grid_21 rfl ?_
      refine go_bipush dX7_grid_22 ⟨by decide, by decide⟩ ?_
      refine go_icmp_le (tgt := 33) dX7_grid_24 rfl (fun h24 => ?_) (fun h24 => ?_)
      · refine go_aload_n dX7_grid_33 rfl rfl ?_
        refine g7_50 dX7_grid_34 ?_
        rw [hC]
        refine g7_137 dX7_grid_37 ?_
        refine go_iload_n dX7_grid_40 rfl ?_
        refine go_iald dX7_grid_41 rfl (by omega) (by omega) ?_
        refine go_ist3 dX7_grid_42 rfl rfl ?_
        refine go_aload_n dX7_grid_43 rfl rfl ?_
        
        refine g7_54 dX7_grid_44 ?_
        rw [hD]
        refine go_aload_n dX7_grid_47 rfl rfl ?_
        refine g7_50 dX7_grid_48 ?_
        rw [hC]
        refine v7_269 dX7_grid_51 rfl ⟨rfl, rfl⟩ ⟨rfl, rfl⟩ (ct_X3_copy (p := q) (q := p) hpq) (fun M2 N2 hq2 => ?_)
        obtain ⟨g1, g2, rfl⟩ := hq2
        refine go_aload_n dX7_grid_54 rfl rfl ?_
        refine g7_54 dX7_grid_55 ?_
        rw [hD]
        refine g7_137 dX7_grid_58 ?_
        refine go_iload_n dX7_grid_61 rfl ?_
        refine go_iload_n dX7_grid_62 rfl ?_
        refine go_iast dX7_grid_63 rfl (by omega) (by omega) ?_
        refine go_nmM (fun M3 eM3 => ?_)
        have hf3 : Pf q M M3 := by rw [eM3]; exact g2.wr19
        have hg3 : pgC M3 q = (pst (pgC M p) 4 v k) := by rw [eM3, pgC_wr (by decide) (by decide), g1]
        refine go_aload_n dX7_grid_64 rfl rfl ?_
        refine g7_54 dX7_grid_65 ?_
        rw [hD]
        refine v7_279 dX7_grid_68 rfl ⟨rfl, rfl⟩ ⟨rfl, rfl⟩ (ct_X3_settleAll (by rw [hg3]; exact hRW (by omega) (by omega))) (fun r4 M4 N4 hr4 hq4 => ?_)
        obtain ⟨s1, s2, rfl⟩ := hq4
        rw [hg3] at s1
        refine go_if_ne (tgt := 80) dX7_grid_71 rfl (fun h71 => ?_) (fun h71 => ?_)
        · have hFS : FS M4 0 φ ν ma := Pf.fs hF (hf3.tr s2)
          have hrc : RC (pgC M4 q) := by
            rcases s1 with ⟨e1', e2', e3'⟩ | ⟨e1', _⟩
            · rw [e3']; exact hRC (by omega) (by omega) e2'
            · exact absurd e1' h71
          refine go_aload_n dX7_grid_80 rfl rfl ?_
          refine v7_84 dX7_grid_81 rfl ⟨rfl, rfl⟩ ⟨rfl, rfl⟩ (ct_X7_takeSpare hC hD hFS hrc) (fun M5 N5 hq5 => ?_)
          refine go_aload_n dX7_grid_84 rfl rfl ?_
          refine go_iconst dX7_grid_85 (R32_lit rfl) ?_
          refine p7_61 dX7_grid_86 ?_
          refine go_iload_n dX7_grid_89 rfl ?_
          refine go_reti dX7_grid_90 ?_
          obtain ⟨t1, t2, t3⟩ := hq5
          rcases s1 with ⟨e1', e2', e3'⟩ | ⟨e1', _⟩
          · have hf4 : Pf q M M4 := hf3.tr s2
            refine Or.inl ⟨by omega, e2', rfl, ?_, ?_, ?_, ?_, ?_, ?_, t3⟩
            · rw [wr_nf (nm_ne1 (by decide)), t2 _ (fun z => absurd z.2.1 (by show ¬ 7 ≤ 5; decide)), hf4 _ (nm_ne1 (by decide)) (fun z => absurd z.1 (by show ¬ 5 = 19; decide))]
            · rw [pg_tr, t2.pg]; exact e3'
            · rw [e3'] at t1; exact t1.tr
            · intro n n3 n5 nq nr nf
              rw [wr_nf n3, t2 n nf, hf4 n nq nr]
            · intro j hj
              rw [wr_nk hj, t2 _ (fun z => absurd z.2.1 (by show ¬ 7 ≤ 3; decide)), hf4 _ (nm_ne1 (by decide)) (fun z => absurd z.1 (by show ¬ 3 = 19; decide))]
            · rw [wr_eq]
          · exact absurd e1' h71
        · refine go_aload_n dX7_grid_74 rfl rfl ?_
          refine go_iconst dX7_grid_75 (R32_lit rfl) ?_
          refine v7_74 dX7_grid_76 rfl ⟨rfl, rfl⟩ ⟨rfl, rfl⟩ ct_X7_none (fun r9 M9 N9 hr9 hq9 => ?_)
          refine go_reti dX7_grid_79 ?_
          obtain ⟨y1, y2, rfl⟩ := hq9
          rcases s1 with ⟨e1', _⟩ | ⟨e1', e2'⟩
          · exact absurd h71 (by omega)
          · exact Or.inr (Or.inl ⟨by omega, e2', y1, ⟨M4, hf3.tr s2, y2⟩, rfl⟩)
      · refine go_aload_n dX7_grid_27 rfl rfl ?_
        refine go_iconst dX7_grid_28 (R32_lit rfl) ?_
        refine v7_74 dX7_grid_29 rfl ⟨rfl, rfl⟩ ⟨rfl, rfl⟩ ct_X7_none (fun r9 M9 N9 hr9 hq9 => ?_)
        refine go_reti dX7_grid_32 ?_
        obtain ⟨y1, y2, rfl⟩ := hq9
        exact Or.inr (Or.inr (Or.inl ⟨by omega, y1, y2, rfl⟩))
  · refine go_aload_n dX7_grid_11 rfl rfl ?_
    refine go_iconst dX7_grid_12 (R32_lit rfl) ?_
    refine v7_74 dX7_grid_13 rfl ⟨rfl, rfl⟩ ⟨rfl, rfl⟩ ct_X7_none (fun r9 M9 N9 hr9 hq9 => ?_)
    refine go_reti dX7_grid_16 ?_
    obtain ⟨y1, y2, rfl⟩ := hq9
    exact Or.inr (Or.inr (Or.inr (⟨by omega, y1, y2, rfl⟩)))
