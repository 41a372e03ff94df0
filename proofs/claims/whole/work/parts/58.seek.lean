set_option maxRecDepth 100000 in
set_option maxHeartbeats 4000000 in
theorem lp_X6_moved {E : Ev} {M : Mm} {N : Nn} {p : Nat} {a e : Int} (hk : SkH (pgC M p) a) (ho : PtO (pgC M p) (M (25, 0, 0))) : ∀ (n : Nat) (i : Int) (M' : Mm) (x6 x7 x8 x9 x10 x11 : Vv), (i + n = (pgC M p) 12 0) → (0 ≤ i) → (Vf M M') → (PtO (pgC M p) (M' (25, 0, 0))) → ((mvS (pgC M p) a e n i (M' (25, 0, 0))) = (mvS (pgC M p) a e ((pgC M p) 12 0).toNat 0 (M (25, 0, 0)))) → Go E RX6 cX6_moved 12 ((some .long)) (rmH 5) 0 0 (zM E (ql (fun r M1 N1 => r = (mvS (pgC M p) a e ((pgC M p) 12 0).toNat 0 (M (25, 0, 0))).2.1 ∧ M1 (25, 0, 0) = (mvS (pgC M p) a e ((pgC M p) 12 0).toNat 0 (M (25, 0, 0))).2.2 ∧ PtO (pgC M p) (M1 (25, 0, 0)) ∧ Vf M M1 ∧ N = N1))) 3 [vr (23, 0, 0), vr (18, p, 0), vi a, vl e, vn, vi i, x6, x7, x8, x9, x10, x11] [] M' N := by
  intro n
  induction n using Nat.strongRecOn with
  | ind n ih =>
  intro i M' x6 x7 x8 x9 x10 x11 hn h0 hf ho' he
  obtain ⟨hc, hW, ha, a0, a1⟩ := id hk
  obtain ⟨hn0, hn1, hm0, hm1, hcn, hin, hin2, hin3, hst⟩ := id hc
  have hg : pgC M' p = (pgC M p) := hf.pg
  have h12 : M' (18, p, 0) 12 = (pgC M p) 12 0 := congrFun (congrFun hg 12) 0
  have e10 : ∀ j, M' (19, p, 10) j = (pgC M p) 10 j := fun j => congrFun (congrFun hg 10) j
  refine go_iload dX6_moved_3 rfl ?_
  refine go_aload_n dX6_moved_5 rfl rfl ?_
  refine g6_49 dX6_moved_6 ?_
  rw [h12]
  refine go_icmp_ge (tgt := 161) dX6_moved_9 rfl (fun h9 => ?_) (fun h9 => ?_)
  · refine go_lload_n dX6_moved_161 rfl ?_
    refine go_retl dX6_moved_162 ?_
    have es : (mvS (pgC M p) a e n i (M' (25, 0, 0))) = (0, e, M' (25, 0, 0)) := by
      rw [show n = 0 by omega]; rfl
    rw [es] at he
    exact ⟨by rw [← he], by rw [← he], ho', hf, rfl⟩
  · have hvb := hin i h0 (by omega)
    have hob := ho' i h0 (by omega)
    have es : (mvS (pgC M p) a e n i (M' (25, 0, 0))) = if wB ((pgC M p) 7 a) ((pgC M p) 10 i) = true then (if (tryI (pgC M p) a e ((pgC M p) 10 i) (M' (25, 0, 0) ((pgC M p) 10 i)) 9 (M' (25, 0, 0))).1 = 1 then (tryI (pgC M p) a e ((pgC M p) 10 i) (M' (25, 0, 0) ((pgC M p) 10 i)) 9 (M' (25, 0, 0))) else (mvS (pgC M p) a e (n - 1) (i + 1) (upI (tryI (pgC M p) a e ((pgC M p) 10 i) (M' (25, 0, 0) ((pgC M p) 10 i)) 9 (M' (25, 0, 0))).2.2 ((pgC M p) 10 i) (M' (25, 0, 0) ((pgC M p) 10 i))))) else (mvS (pgC M p) a e (n - 1) (i + 1) (M' (25, 0, 0))) := by
      rw [show n = (n - 1) + 1 by omega]; rfl
    refine go_aload_n dX6_moved_12 rfl rfl ?_
    refine g6_54 dX6_moved_13 ?_
    refine go_iload dX6_moved_16 rfl ?_
    refine go_iald dX6_moved_18 rfl (by omega) (by omega) ?_
    rw [e10]
    refine go_ist6 dX6_moved_19 rfl rfl ?_
    refine go_aload_n dX6_moved_21 rfl rfl ?_
    refine go_iload_n dX6_moved_22 rfl ?_
    refine go_iload dX6_moved_23 rfl ?_
    refine v6_99 dX6_moved_25 rfl ⟨rfl, rfl⟩ ⟨rfl, rfl⟩ (ct_X3_needs a0 (by omega)) (fun r1 M1 N1 hr1 hq1 => ?_)
    obtain ⟨e1, rfl, rfl⟩ := hq1
    rw [hg] at e1
    refine go_if_ne (tgt := 34) dX6_moved_28 rfl (fun h28 => ?_) (fun h28 => ?_)
    · refine go_aload_n dX6_moved_34 rfl rfl ?_
      refine g6_15 dX6_moved_35 ?_
      refine go_iload dX6_moved_38 rfl ?_
      refine go_iald dX6_moved_40 rfl (by omega) (by omega) ?_
      refine go_ist7 dX6_moved_41 rfl rfl ?_
      refine go_sipush dX6_moved_43 ⟨by decide, by decide⟩ ?_
      rw [show (256 : Int) = fr 9 from rfl]
      refine go_ist8 dX6_moved_46 rfl rfl ?_
      have hwi : wB ((pgC M p) 7 a) ((pgC M p) 10 i) = true := by
        unfold wB
        rw [decide_eq_true_eq]
        exact Classical.byContradiction (fun q => by rw [if_neg q] at e1; omega)
      rw [if_pos hwi] at es
      refine mv_far hk hvb.1 (by omega) hob.1 hob.2 9 M' _ _ _ (by omega) hf (fun M2 f x y z g1 g2 g3 => ?_) (fun M2 g1 g2 g3 => ?_)
      · rw [if_neg (by omega)] at es
        have ho2 : PtO (pgC M p) (M2 (25, 0, 0)) := by rw [g2]; exact tryI_o hvb.2.2.1 hvb.2.2.2.2 9 ho'
        refine go_aload_n dX6_moved_146 rfl rfl ?_
        refine g6_15 dX6_moved_147 ?_
        refine go_iload dX6_moved_150 rfl ?_
        refine go_iload dX6_moved_152 rfl ?_
        refine go_iast dX6_moved_154 rfl (by omega) (by omega) ?_
        refine go_iinc5c dX6_moved_155 rfl rfl ⟨by omega, by omega⟩ ?_
        refine go_goto (tgt := 3) dX6_moved_158 rfl ?_
        exact ih (n - 1) (by omega) (i + 1) _ _ _ _ _ _ _ (by omega) (by omega) g1.w25 (by rw [upI_wr]; exact ho2.up hob.1 hob.2) (by rw [upI_wr, g2, ← es]; exact he)
      · rw [if_pos g3] at es
        rw [es] at he
        exact ⟨by rw [← he], by rw [← he]; exact g2, by rw [g2]; exact tryI_o hvb.2.2.1 hvb.2.2.2.2 9 ho', g1, rfl⟩
    · refine go_goto (tgt := 155) dX6_moved_31 rfl ?_
      refine go_iinc5c dX6_moved_155 rfl rfl ⟨by omega, by omega⟩ ?_
      refine go_goto (tgt := 3) dX6_moved_158 rfl ?_
      rw [if_neg (fun z => by unfold wB at z; rw [decide_eq_true_eq] at z; rw [if_pos z] at e1; omega)] at es
      exact ih (n - 1) (by omega) (i + 1) _ _ _ _ _ _ _ (by omega) (by omega) hf ho' (by rw [← es]; exact he)
set_option maxRecDepth 100000 in
set_option maxHeartbeats 4000000 in
theorem ct_X6_moved {E : Ev} {M : Mm} {N : Nn} {p : Nat} {a e : Int} (hk : SkH (pgC M p) a) (ho : PtO (pgC M p) (M (25, 0, 0))) : Ct E yX6_moved cX6_moved 12 ((some .long)) (rmH 5) [vr (23, 0, 0), vr (18, p, 0), vi a, vl e] M N (ql (fun r M1 N1 => r = (mvS (pgC M p) a e ((pgC M p) 12 0).toNat 0 (M (25, 0, 0))).2.1 ∧ M1 (25, 0, 0) = (mvS (pgC M p) a e ((pgC M p) 12 0).toNat 0 (M (25, 0, 0))).2.2 ∧ PtO (pgC M p) (M1 (25, 0, 0)) ∧ Vf M M1 ∧ N = N1)) := by
  refine ct_of (own := RX6) (L0 := [vr (23, 0, 0), vr (18, p, 0), vi a, vl e, vn, vn, vn, vn, vn, vn, vn, vn]) rfl (by decide +kernel) rfl rfl ?_
  refine go_iconst dX6_moved_0 (R32_lit rfl) ?_
  refine go_ist5 dX6_moved_1 rfl rfl ?_
  exact lp_X6_moved hk ho ((pgC M p) 12 0).toNat 0 M _ _ _ _ _ _ (by have := hk.1.2.2.1; omega) (by omega) Vf.rf ho rfl
def cbS (S : Pg) (a : Int) : Nat → (Int → Int) → Int → Int × (Int → Int)
  | 0, pt, e => (e, pt)
  | k + 1, pt, e => if (mvS S a e (S 12 0).toNat 0 pt).2.1 ≤ e then (e, (mvS S a e (S 12 0).toNat 0 pt).2.2) else cbS S a k (mvS S a e (S 12 0).toNat 0 pt).2.2 (mvS S a e (S 12 0).toNat 0 pt).2.1
theorem dpS_o {S : Pg} (hS : RC S) (pt : Int → Int) {s : Int} (h0 : 0 ≤ s) (h1 : s ≤ 65536) : ∀ k : Nat, (k : Int) ≤ S 12 0 → ∀ i : Int, 0 ≤ i → i < k → -1000 ≤ (dpS S pt s k).1 (S 10 i) ∧ (dpS S pt s k).1 (S 10 i) ≤ 1000
  | 0, _, i, i0, i1 => absurd i1 (by omega)
  | k + 1, hk, i, i0, i1 => by
    have ih := dpS_o hS pt h0 h1 k (by omega)
    have hb := hS.2.2.2.2.2.1 k (by omega) (by omega)
    have hs := dpS_bd S pt h0 h1 k
    have hd := drw_bd (s := sdN (dpS S pt s k).2) (m := S 3 (S 10 k) - S 2 (S 10 k) + 1) (sdN_bd hs.1).1
    have hd2 := hd.2 (by omega)
    show -1000 ≤ upI (dpS S pt s k).1 (S 10 k) (S 2 (S 10 k) + drw (sdN (dpS S pt s k).2) (S 3 (S 10 k) - S 2 (S 10 k) + 1)) (S 10 i) ∧ upI (dpS S pt s k).1 (S 10 k) (S 2 (S 10 k) + drw (sdN (dpS S pt s k).2) (S 3 (S 10 k) - S 2 (S 10 k) + 1)) (S 10 i) ≤ 1000
    unfold upI
    split
    · omega
    · rename_i q
      exact ih i i0 (by rcases Classical.em (i = k) with z | z; exact absurd (by rw [z]) q; omega)
theorem dpS_O {S : Pg} (hS : RC S) (pt : Int → Int) {s : Int} (h0 : 0 ≤ s) (h1 : s ≤ 65536) : PtO S (dpS S pt s (S 12 0).toNat).1 := fun i i0 i1 => dpS_o hS pt h0 h1 _ (by omega) i i0 (by omega)
set_option maxRecDepth 100000 in
set_option maxHeartbeats 4000000 in
theorem lp_X6_climbed {E : Ev} {M : Mm} {N : Nn} {p : Nat} {a : Int} (hk : SkH (pgC M p) a) (ho : PtO (pgC M p) (M (25, 0, 0))) : ∀ (n : Nat) (i e : Int) (M' : Mm) (x6 x7 : Vv), (i + n = 40) → (0 ≤ i) → (Vf M M') → (PtO (pgC M p) (M' (25, 0, 0))) → ((cbS (pgC M p) a n (M' (25, 0, 0)) e) = (cbS (pgC M p) a 40 (M (25, 0, 0)) (erS (pgC M p) (M (25, 0, 0)) a))) → Go E RX6 cX6_climbed 8 ((some .long)) (rmH 6) 0 0 (zM E (ql (fun r M1 N1 => r = (cbS (pgC M p) a 40 (M (25, 0, 0)) (erS (pgC M p) (M (25, 0, 0)) a)).1 ∧ M1 (25, 0, 0) = (cbS (pgC M p) a 40 (M (25, 0, 0)) (erS (pgC M p) (M (25, 0, 0)) a)).2 ∧ PtO (pgC M p) (M1 (25, 0, 0)) ∧ Vf M M1 ∧ N = N1))) 10 [vr (23, 0, 0), vr (18, p, 0), vi a, vl e, vn, vi i, x6, x7] [] M' N := by
  intro n
  induction n using Nat.strongRecOn with
  | ind n ih =>
  intro i e M' x6 x7 hn h0 hf ho' he
  obtain ⟨hc, hW, ha, a0, a1⟩ := id hk
  have hg : pgC M' p = (pgC M p) := hf.pg
  refine go_iload dX6_climbed_10 rfl ?_
  refine go_bipush dX6_climbed_12 ⟨by decide, by decide⟩ ?_
  refine go_icmp_ge (tgt := 44) dX6_climbed_14 rfl (fun h14 => ?_) (fun h14 => ?_)
  · refine go_lload_n dX6_climbed_44 rfl ?_
    refine go_retl dX6_climbed_45 ?_
    have es : (cbS (pgC M p) a n (M' (25, 0, 0)) e) = (e, M' (25, 0, 0)) := by
      rw [show n = 0 by omega]; rfl
    rw [es] at he
    exact ⟨by rw [← he], by rw [← he], ho', hf, rfl⟩
  · have es : (cbS (pgC M p) a n (M' (25, 0, 0)) e) = if (mvS (pgC M p) a e ((pgC M p) 12 0).toNat 0 (M' (25, 0, 0))).2.1 ≤ e then (e, (mvS (pgC M p) a e ((pgC M p) 12 0).toNat 0 (M' (25, 0, 0))).2.2) else cbS (pgC M p) a (n - 1) (mvS (pgC M p) a e ((pgC M p) 12 0).toNat 0 (M' (25, 0, 0))).2.2 (mvS (pgC M p) a e ((pgC M p) 12 0).toNat 0 (M' (25, 0, 0))).2.1 := by
      rw [show n = (n - 1) + 1 by omega]; rfl
    refine go_aload_n dX6_climbed_17 rfl rfl ?_
    refine go_aload_n dX6_climbed_18 rfl rfl ?_
    refine go_iload_n dX6_climbed_19 rfl ?_
    refine go_lload_n dX6_climbed_20 rfl ?_
    refine v6_95 dX6_climbed_21 rfl ⟨rfl, rfl⟩ ⟨rfl, rfl⟩ (ct_X6_moved (by rw [hg]; exact hk) (by rw [hg]; exact ho')) (fun r1 M1 N1 hr1 hq1 => ?_)
    obtain ⟨g1, g2, g3, g4, rfl⟩ := hq1
    rw [hg] at g1 g2 g3
    refine go_lst6 dX6_climbed_24 rfl rfl ?_
    refine go_lload dX6_climbed_26 rfl ?_
    refine go_lload_n dX6_climbed_28 rfl ?_
    refine go_lcmp_gt (tgt := 35) dX6_climbed_29 dX6_climbed_30 rfl (fun h29 => ?_) (fun h29 => ?_)
    · refine go_lload dX6_climbed_35 rfl ?_
      refine go_lst3 dX6_climbed_37 rfl rfl ?_
      refine go_iinc5c dX6_climbed_38 rfl rfl ⟨by omega, by omega⟩ ?_
      refine go_goto (tgt := 10) dX6_climbed_41 rfl ?_
      rw [if_neg (by omega)] at es
      exact ih (n - 1) (by omega) (i + 1) _ _ _ _ (by omega) (by omega) (hf.tr g4) g3 (by rw [g2, g1, ← es]; exact he)
    · refine go_lload_n dX6_climbed_33 rfl ?_
      refine go_retl dX6_climbed_34 ?_
      rw [if_pos (by omega)] at es
      rw [es] at he
      exact ⟨by rw [← he], by rw [← he]; exact g2, g3, hf.tr g4, rfl⟩
set_option maxRecDepth 100000 in
set_option maxHeartbeats 4000000 in
theorem ct_X6_climbed {E : Ev} {M : Mm} {N : Nn} {p : Nat} {a : Int} (hk : SkH (pgC M p) a) (ho : PtO (pgC M p) (M (25, 0, 0))) : Ct E yX6_climbed cX6_climbed 8 ((some .long)) (rmH 6) [vr (23, 0, 0), vr (18, p, 0), vi a] M N (ql (fun r M1 N1 => r = (cbS (pgC M p) a 40 (M (25, 0, 0)) (erS (pgC M p) (M (25, 0, 0)) a)).1 ∧ M1 (25, 0, 0) = (cbS (pgC M p) a 40 (M (25, 0, 0)) (erS (pgC M p) (M (25, 0, 0)) a)).2 ∧ PtO (pgC M p) (M1 (25, 0, 0)) ∧ Vf M M1 ∧ N = N1)) := by
  refine ct_of (own := RX6) (L0 := [vr (23, 0, 0), vr (18, p, 0), vi a, vn, vn, vn, vn, vn]) rfl (by decide +kernel) rfl rfl ?_
  refine go_aload_n dX6_climbed_0 rfl rfl ?_
  refine go_aload_n dX6_climbed_1 rfl rfl ?_
  refine go_iload_n dX6_climbed_2 rfl ?_
  refine v6_60 dX6_climbed_3 rfl ⟨rfl, rfl⟩ ⟨rfl, rfl⟩ (ct_X6_errorHere hk) (fun r1 M1 N1 hr1 hq1 => ?_)
  obtain ⟨e1, g1, rfl⟩ := hq1
  refine go_lst3 dX6_climbed_6 rfl rfl ?_
  refine go_iconst dX6_climbed_7 (R32_lit rfl) ?_
  refine go_ist5 dX6_climbed_8 rfl rfl ?_
  exact lp_X6_climbed hk ho 40 0 _ _ _ _ (by omega) (by omega) g1.vf (by rw [g1.pt]; exact ho) (by rw [g1.pt, e1])
def cpB (pt b : Int → Int) : Int → Int := fun j => if 0 ≤ j ∧ j < 15 then pt j else b j
/-- the seeking: point, seed, the greatest error, its point -/
abbrev Sk : Type := (Int → Int) × Int × Int × (Int → Int)
def skD (S : Pg) (s : Sk) : (Int → Int) × Int := dpS S s.1 s.2.1 (S 12 0).toNat
def skC (S : Pg) (a : Int) (s : Sk) : Int × (Int → Int) := cbS S a 40 (skD S s).1 (erS S (skD S s).1 a)
def skN (S : Pg) (a : Int) (s : Sk) : Sk := ((skC S a s).2, (skD S s).2, if s.2.2.1 < (skC S a s).1 then (skC S a s).1 else s.2.2.1, if s.2.2.1 < (skC S a s).1 then cpB (skC S a s).2 s.2.2.2 else s.2.2.2)
def skS (S : Pg) (a : Int) (s : Sk) : Nat → Sk
  | 0 => s
  | k + 1 => skN S a (skS S a s k)
def SkM (M : Mm) (s : Sk) : Prop := M (25, 0, 0) = s.1 ∧ M (23, 0, 0) 4 = s.2.1 ∧ M (23, 0, 0) 0 = s.2.2.1 ∧ M (24, 0, 0) = s.2.2.2
theorem skS_bd (S : Pg) (a : Int) {s : Sk} (h0 : 0 ≤ s.2.1) (h1 : s.2.1 ≤ 65536) : ∀ k : Nat, 0 ≤ (skS S a s k).2.1 ∧ (skS S a s k).2.1 ≤ 65536
  | 0 => ⟨h0, h1⟩
  | k + 1 => dpS_bd S _ (skS_bd S a h0 h1 k).1 (skS_bd S a h0 h1 k).2 _
theorem skS_s (S : Pg) (a : Int) (s : Sk) {i : Int} (h : 0 ≤ i) : skS S a s (i + 1).toNat = skN S a (skS S a s i.toNat) := by
  rw [show (i + 1).toNat = i.toNat + 1 by omega]; rfl
/-- what seeking touches -/
def Sf (M M1 : Mm) : Prop := ∀ n : Nm, n ≠ (23, 0, 0) → n ≠ (24, 0, 0) → n ≠ (25, 0, 0) → n ≠ (27, 0, 0) → n ≠ (28, 0, 0) → M1 n = M n
theorem Sf.rf {M : Mm} : Sf M M := fun _ _ _ _ _ _ => rfl
theorem Sf.tr {M M1 M2 : Mm} (h : Sf M M1) (h2 : Sf M1 M2) : Sf M M2 := fun n a b c d e => (h2 n a b c d e).trans (h n a b c d e)
theorem Sf.w23 {M M1 : Mm} {i x : Int} (h : Sf M M1) : Sf M (wr M1 (23, 0, 0) i x) := fun n a b c d e => by rw [wr_nf a]; exact h n a b c d e
theorem Df.sf {M M1 : Mm} (h : Df M M1) : Sf M M1 := fun n a _ c _ _ => h.1 n a c
theorem Vf.sf {M M1 : Mm} (h : Vf M M1) : Sf M M1 := fun n _ _ c d e => h n c d e
theorem Uf.sf {M M1 : Mm} (h : Uf M M1) : Sf M M1 := h.vf.sf
theorem Sf.pg {M M1 : Mm} {p : Nat} (h : Sf M M1) : pgC M1 p = pgC M p := by
  funext k j
  unfold pgC
  rw [h (18, p, 0) (nm_ne1 (by decide)) (nm_ne1 (by decide)) (nm_ne1 (by decide)) (nm_ne1 (by decide)) (nm_ne1 (by decide)), h (19, p, k) (nm_ne1 (by decide)) (nm_ne1 (by decide)) (nm_ne1 (by decide)) (nm_ne1 (by decide)) (nm_ne1 (by decide))]
theorem cp_best {M : Mm} : cpM M (25, 0, 0) 0 (24, 0, 0) 0 15 (24, 0, 0) = cpB (M (25, 0, 0)) (M (24, 0, 0)) := by
  funext j
  unfold cpM cpB
  by_cases q : 0 ≤ j ∧ j < 15
  · rw [if_pos ⟨rfl, q.1, by omega⟩, if_pos q, show (0 : Int) + (j - 0) = j by omega]
  · rw [if_neg (fun z => q ⟨z.2.1, by omega⟩), if_neg q]
theorem cp_else {M : Mm} {n : Nm} (h : n ≠ (24, 0, 0)) : cpM M (25, 0, 0) 0 (24, 0, 0) 0 15 n = M n := by
  funext j
  exact if_neg (fun z => h z.1)
set_option maxRecDepth 100000 in
set_option maxHeartbeats 4000000 in
theorem lp_X6_seek {E : Ev} {M : Mm} {N : Nn} {p : Nat} {a k sd : Int} (hk : SkH (pgC M p) a) (d0 : 0 ≤ sd) (d1 : sd ≤ 65536) (k0 : 0 ≤ k) (k1 : k ≤ 1000000) : ∀ (n : Nat) (i : Int) (M' : Mm) (x6 x7 : Vv), (i + n = k) → (0 ≤ i) → (Sf M M') → (SkM M' (skS (pgC M p) a (M (25, 0, 0), sd, -1, M (24, 0, 0)) i.toNat)) → Go E RX6 cX6_seek 8 (none) (rmH 7) 0 0 (zM E (qv (fun M1 N1 => SkM M1 (skS (pgC M p) a (M (25, 0, 0), sd, -1, M (24, 0, 0)) k.toNat) ∧ Sf M M1 ∧ N = N1))) 16 [vr (23, 0, 0), vr (18, p, 0), vi a, vi k, vi sd, vi i, x6, x7] [] M' N := by
  intro n
  induction n using Nat.strongRecOn with
  | ind n ih =>
  intro i M' x6 x7 hn h0 hf hm
  obtain ⟨hc, hW, ha, a0, a1⟩ := id hk
  have hg : pgC M' p = (pgC M p) := hf.pg
  obtain ⟨m1, m2, m3, m4⟩ := id hm
  have hsb := skS_bd (pgC M p) a (s := (M (25, 0, 0), sd, -1, M (24, 0, 0))) d0 d1 i.toNat
  refine go_iload dX6_seek_16 rfl ?_
  refine go_iload_n dX6_seek_18 rfl ?_
  refine go_icmp_ge (tgt := 72) dX6_seek_19 rfl (fun h19 => ?_) (fun h19 => ?_)
  · exact go_retv dX6_seek_72 ⟨by rw [show k = i by omega]; exact hm, hf, rfl⟩
  · refine go_aload_n dX6_seek_22 rfl rfl ?_
    refine go_aload_n dX6_seek_23 rfl rfl ?_
    refine v6_35 dX6_seek_24 rfl ⟨rfl, rfl⟩ ⟨rfl, rfl⟩ (ct_X6_drawPoint (by rw [hg]; exact hc) (by rw [m2]; exact hsb.1) (by rw [m2]; exact hsb.2)) (fun M1 N1 hq1 => ?_)
    obtain ⟨g1, g2, g3, rfl⟩ := hq1
    rw [hg, m1, m2] at g1 g2
    have g1 : M1 (25, 0, 0) = (skD (pgC M p) (skS (pgC M p) a (M (25, 0, 0), sd, -1, M (24, 0, 0)) i.toNat)).1 := g1
    have g2 : M1 (23, 0, 0) 4 = (skD (pgC M p) (skS (pgC M p) a (M (25, 0, 0), sd, -1, M (24, 0, 0)) i.toNat)).2 := g2
    have hg1 : pgC M1 p = (pgC M p) := g3.pg.trans hg
    have hpo : PtO (pgC M p) (M1 (25, 0, 0)) := by rw [g1]; exact dpS_O hc _ hsb.1 hsb.2
    refine go_aload_n dX6_seek_27 rfl rfl ?_
    refine go_aload_n dX6_seek_28 rfl rfl ?_
    refine go_iload_n dX6_seek_29 rfl ?_
    refine v6_39 dX6_seek_30 rfl ⟨rfl, rfl⟩ ⟨rfl, rfl⟩ (ct_X6_climbed (by rw [hg1]; exact hk) (by rw [hg1]; exact hpo)) (fun r2 M2 N2 hr2 hq2 => ?_)
    obtain ⟨u1, u2, u3, u4, rfl⟩ := hq2
    rw [hg1, g1] at u1 u2
    have u1 : r2 = (skC (pgC M p) a (skS (pgC M p) a (M (25, 0, 0), sd, -1, M (24, 0, 0)) i.toNat)).1 := u1
    have u2 : M2 (25, 0, 0) = (skC (pgC M p) a (skS (pgC M p) a (M (25, 0, 0), sd, -1, M (24, 0, 0)) i.toNat)).2 := u2
    have w23 : M2 (23, 0, 0) = M1 (23, 0, 0) := u4 _ (nm_ne1 (by decide)) (nm_ne1 (by decide)) (nm_ne1 (by decide))
    have w24 : M2 (24, 0, 0) = (skS (pgC M p) a (M (25, 0, 0), sd, -1, M (24, 0, 0)) i.toNat).2.2.2 := by rw [u4 _ (nm_ne1 (by decide)) (nm_ne1 (by decide)) (nm_ne1 (by decide)), g3.1 _ (nm_ne1 (by decide)) (nm_ne1 (by decide))]; exact m4
    have w4 : M2 (23, 0, 0) 4 = (skD (pgC M p) (skS (pgC M p) a (M (25, 0, 0), sd, -1, M (24, 0, 0)) i.toNat)).2 := by rw [w23]; exact g2
    have w0 : M2 (23, 0, 0) 0 = (skS (pgC M p) a (M (25, 0, 0), sd, -1, M (24, 0, 0)) i.toNat).2.2.1 := by rw [w23, g3.2 0 (by decide)]; exact m3
    have hf2 : Sf M M2 := hf.tr (g3.sf.tr u4.sf)
    have es := skS_s (pgC M p) a (M (25, 0, 0), sd, -1, M (24, 0, 0)) h0
    refine go_lst6 dX6_seek_33 rfl rfl ?_
    refine go_lload dX6_seek_35 rfl ?_
    refine go_aload_n dX6_seek_37 rfl rfl ?_
    refine g6_31 dX6_seek_38 ?_
    rw [w0]
    refine go_lcmp_le (tgt := 66) dX6_seek_41 dX6_seek_42 rfl (fun h41 => ?_) (fun h41 => ?_)
    · refine go_iinc5c dX6_seek_66 rfl rfl ⟨by omega, by omega⟩ ?_
      refine go_goto (tgt := 16) dX6_seek_69 rfl ?_
      first
      | (have hno : ¬ (skS (pgC M p) a (M (25, 0, 0), sd, -1, M (24, 0, 0)) i.toNat).2.2.1 < (skC (pgC M p) a (skS (pgC M p) a (M (25, 0, 0), sd, -1, M (24, 0, 0)) i.toNat)).1 := by omega
         exact ih (n - 1) (by omega) (i + 1) _ _ _ (by omega) (by omega) hf2 (by
           rw [es]
           refine ⟨u2, w4, ?_, ?_⟩
           · show _ = if (skS (pgC M p) a (M (25, 0, 0), sd, -1, M (24, 0, 0)) i.toNat).2.2.1 < (skC (pgC M p) a (skS (pgC M p) a (M (25, 0, 0), sd, -1, M (24, 0, 0)) i.toNat)).1 then _ else _
             rw [if_neg hno]; exact w0
           · show _ = if (skS (pgC M p) a (M (25, 0, 0), sd, -1, M (24, 0, 0)) i.toNat).2.2.1 < (skC (pgC M p) a (skS (pgC M p) a (M (25, 0, 0), sd, -1, M (24, 0, 0)) i.toNat)).1 then _ else _
             rw [if_neg hno]; exact w24))
      | (have hye : (skS (pgC M p) a (M (25, 0, 0), sd, -1, M (24, 0, 0)) i.toNat).2.2.1 < (skC (pgC M p) a (skS (pgC M p) a (M (25, 0, 0), sd, -1, M (24, 0, 0)) i.toNat)).1 := by omega
         exact ih (n - 1) (by omega) (i + 1) _ _ _ (by omega) (by omega) (fun n a b c d e => by rw [cp_else b]; exact hf2.w23 n a b c d e) (by
           rw [es]
           refine ⟨?_, ?_, ?_, ?_⟩
           · rw [cp_else (nm_ne1 (by decide)), wr_nf (nm_ne1 (by decide))]; exact u2
           · rw [cp_else (nm_ne1 (by decide)), wr_nk (by decide)]; exact w4
           · show _ = if (skS (pgC M p) a (M (25, 0, 0), sd, -1, M (24, 0, 0)) i.toNat).2.2.1 < (skC (pgC M p) a (skS (pgC M p) a (M (25, 0, 0), sd, -1, M (24, 0, 0)) i.toNat)).1 then _ else _
             rw [if_pos hye, cp_else (nm_ne1 (by decide)), wr_eq]; exact u1
           · show _ = if (skS (pgC M p) a (M (25, 0, 0), sd, -1, M (24, 0, 0)) i.toNat).2.2.1 < (skC (pgC M p) a (skS (pgC M p) a (M (25, 0, 0), sd, -1, M (24, 0, 0)) i.toNat)).1 then _ else _
             rw [if_pos hye, cp_best, wr_nf (nm_ne1 (by decide)), wr_nf (nm_ne1 (by decide)), u2, w24]))
    · refine go_aload_n dX6_seek_45 rfl rfl ?_
      refine go_lload dX6_seek_46 rfl ?_
      refine p6_31 dX6_seek_48 ?_
      refine go_aload_n dX6_seek_51 rfl rfl ?_
      refine g6_15 dX6_seek_52 ?_
      refine go_iconst dX6_seek_55 (R32_lit rfl) ?_
      refine go_aload_n dX6_seek_56 rfl rfl ?_
      refine g6_9 dX6_seek_57 ?_
      refine go_iconst dX6_seek_60 (R32_lit rfl) ?_
      refine go_bipush dX6_seek_61 ⟨by decide, by decide⟩ ?_
      refine go_copyi dX6_seek_63 a6_43 rfl rfl (by omega) (by omega) (by omega) (by omega) (by omega) ⟨Nat.le_of_ble_eq_true rfl, Nat.le_of_ble_eq_true rfl⟩ ?_
      refine go_iinc5c dX6_seek_66 rfl rfl ⟨by omega, by omega⟩ ?_
      refine go_goto (tgt := 16) dX6_seek_69 rfl ?_
      first
      | (have hno : ¬ (skS (pgC M p) a (M (25, 0, 0), sd, -1, M (24, 0, 0)) i.toNat).2.2.1 < (skC (pgC M p) a (skS (pgC M p) a (M (25, 0, 0), sd, -1, M (24, 0, 0)) i.toNat)).1 := by omega
         exact ih (n - 1) (by omega) (i + 1) _ _ _ (by omega) (by omega) hf2 (by
           rw [es]
           refine ⟨u2, w4, ?_, ?_⟩
           · show _ = if (skS (pgC M p) a (M (25, 0, 0), sd, -1, M (24, 0, 0)) i.toNat).2.2.1 < (skC (pgC M p) a (skS (pgC M p) a (M (25, 0, 0), sd, -1, M (24, 0, 0)) i.toNat)).1 then _ else _
             rw [if_neg hno]; exact w0
           · show _ = if (skS (pgC M p) a (M (25, 0, 0), sd, -1, M (24, 0, 0)) i.toNat).2.2.1 < (skC (pgC M p) a (skS (pgC M p) a (M (25, 0, 0), sd, -1, M (24, 0, 0)) i.toNat)).1 then _ else _
             rw [if_neg hno]; exact w24))
      | (have hye : (skS (pgC M p) a (M (25, 0, 0), sd, -1, M (24, 0, 0)) i.toNat).2.2.1 < (skC (pgC M p) a (skS (pgC M p) a (M (25, 0, 0), sd, -1, M (24, 0, 0)) i.toNat)).1 := by omega
         exact ih (n - 1) (by omega) (i + 1) _ _ _ (by omega) (by omega) (fun n a b c d e => by rw [cp_else b]; exact hf2.w23 n a b c d e) (by
           rw [es]
           refine ⟨?_, ?_, ?_, ?_⟩
           · rw [cp_else (nm_ne1 (by decide)), wr_nf (nm_ne1 (by decide))]; exact u2
           · rw [cp_else (nm_ne1 (by decide)), wr_nk (by decide)]; exact w4
           · show _ = if (skS (pgC M p) a (M (25, 0, 0), sd, -1, M (24, 0, 0)) i.toNat).2.2.1 < (skC (pgC M p) a (skS (pgC M p) a (M (25, 0, 0), sd, -1, M (24, 0, 0)) i.toNat)).1 then _ else _
             rw [if_pos hye, cp_else (nm_ne1 (by decide)), wr_eq]; exact u1
           · show _ = if (skS (pgC M p) a (M (25, 0, 0), sd, -1, M (24, 0, 0)) i.toNat).2.2.1 < (skC (pgC M p) a (skS (pgC M p) a (M (25, 0, 0), sd, -1, M (24, 0, 0)) i.toNat)).1 then _ else _
             rw [if_pos hye, cp_best, wr_nf (nm_ne1 (by decide)), wr_nf (nm_ne1 (by decide)), u2, w24]))
set_option maxRecDepth 100000 in
set_option maxHeartbeats 4000000 in
theorem ct_X6_seek {E : Ev} {M : Mm} {N : Nn} {p : Nat} {a k sd : Int} (hk : SkH (pgC M p) a) (d0 : 0 ≤ sd) (d1 : sd ≤ 65536) (k0 : 0 ≤ k) (k1 : k ≤ 1000000) : Ct E yX6_seek cX6_seek 8 (none) (rmH 7) [vr (23, 0, 0), vr (18, p, 0), vi a, vi k, vi sd] M N (qv (fun M1 N1 => SkM M1 (skS (pgC M p) a (M (25, 0, 0), sd, -1, M (24, 0, 0)) k.toNat) ∧ Sf M M1 ∧ N = N1)) := by
  refine ct_of (own := RX6) (L0 := [vr (23, 0, 0), vr (18, p, 0), vi a, vi k, vi sd, vn, vn, vn]) rfl (by decide +kernel) rfl rfl ?_
  refine go_aload_n dX6_seek_0 rfl rfl ?_
  refine go_iload dX6_seek_1 rfl ?_
  refine p6_25 dX6_seek_3 ?_
  refine go_aload_n dX6_seek_6 rfl rfl ?_
  refine c6_29 dX6_seek_7 ?_
  refine p6_31 dX6_seek_10 ?_
  refine go_iconst dX6_seek_13 (R32_lit rfl) ?_
  refine go_ist5 dX6_seek_14 rfl rfl ?_
  exact lp_X6_seek hk d0 d1 k0 k1 k.toNat 0 _ _ _ (by omega) (by omega) Sf.rf.w23.w23 (by
    refine ⟨?_, ?_, ?_, ?_⟩
    · rw [wr_nf (nm_ne1 (by decide)), wr_nf (nm_ne1 (by decide))]; rfl
    · rw [wr_nk (by decide), wr_eq]; rfl
    · rw [wr_eq]; rfl
    · rw [wr_nf (nm_ne1 (by decide)), wr_nf (nm_ne1 (by decide))]; rfl)
/-- which ways a pick goes at a point -/
def wyP (S : Pg) (pt : Int → Int) (a : Int) : Int := b2 (opE S (tbE S pt (a + 1).toNat) a 0 < opE S (tbE S pt (a + 1).toNat) a 1) 1 + b2 (opE S (tbC S pt (a + 1).toNat) a 0 < opE S (tbC S pt (a + 1).toNat) a 1) 2
def fpS (S : Pg) (a : Int) : Nat → Int → (Int → Int) → Int → Int
  | 0, _, _, _ => -2
  | k + 1, i, pt, s => if wyP S (dpS S pt s (S 12 0).toNat).1 a = 1 ∨ wyP S (dpS S pt s (S 12 0).toNat).1 a = 2 then i else fpS S a k (i + 1) (dpS S pt s (S 12 0).toNat).1 (dpS S pt s (S 12 0).toNat).2
theorem wy_tb {S : Pg} {pt : Int → Int} {a : Int} {M : Mm} (hk : SkH S a) (hs : S 0 a ≠ -2) (h : Tb S (wB (S 7 a)) pt (a + 1) M) : b2 (opE S (M (27, 0, 0)) a 0 < opE S (M (27, 0, 0)) a 1) 1 + b2 (opE S (M (28, 0, 0)) a 0 < opE S (M (28, 0, 0)) a 1) 2 = wyP S pt a := by
  obtain ⟨hc, hW, ha, a0, a1⟩ := hk
  have hst := hc.2.2.2.2.2.2.2.2 a a0 a1 hs
  have h2 := opn_ge S a
  have hz : ∀ k, 0 ≤ k → k < 2 → 0 ≤ S 8 (4 * a + k) → M (27, 0, 0) (S 8 (4 * a + k)) = tbE S pt (a + 1).toNat (S 8 (4 * a + k)) ∧ M (28, 0, 0) (S 8 (4 * a + k)) = tbC S pt (a + 1).toNat (S 8 (4 * a + k)) := fun k k0 k1 q => by
    have := ((hst.1 k k0 (by omega)).1 q).1
    exact h _ q (by omega) (hW a a0 a1 hs ha k k0 (by omega) q)
  unfold wyP
  rw [opE_congr (fun q => (hz 0 (by decide) (by decide) q).1), opE_congr (k := 1) (fun q => (hz 1 (by decide) (by decide) q).1), opE_congr (k := 0) (fun q => (hz 0 (by decide) (by decide) q).2), opE_congr (k := 1) (fun q => (hz 1 (by decide) (by decide) q).2)]
set_option maxRecDepth 100000 in
set_option maxHeartbeats 4000000 in
theorem lp_X6_firstParting {E : Ev} {M : Mm} {N : Nn} {p : Nat} {a k sd : Int} (hk : SkH (pgC M p) a) (hs : (pgC M p) 0 a ≠ -2) (d0 : 0 ≤ sd) (d1 : sd ≤ 65536) (k0 : 0 ≤ k) (k1 : k ≤ 1000000) : ∀ (n : Nat) (i : Int) (M' : Mm) (x6 : Vv), (i + n = k) → (0 ≤ i) → (Sf M M') → (0 ≤ M' (23, 0, 0) 4) → (M' (23, 0, 0) 4 ≤ 65536) → ((fpS (pgC M p) a n i (M' (25, 0, 0)) (M' (23, 0, 0) 4)) = (fpS (pgC M p) a k.toNat 0 (M (25, 0, 0)) sd)) → Go E RX6 cX6_firstParting 7 ((some .int)) (rmH 5) 0 0 (zM E (qi (fun r M1 N1 => r = (fpS (pgC M p) a k.toNat 0 (M (25, 0, 0)) sd) ∧ Sf M M1 ∧ N = N1))) 9 [vr (23, 0, 0), vr (18, p, 0), vi a, vi k, vi sd, vi i, x6] [] M' N := by
  intro n
  induction n using Nat.strongRecOn with
  | ind n ih =>
  intro i M' x6 hn h0 hf e0 e1 he
  obtain ⟨hc, hW, ha, a0, a1⟩ := id hk
  have hn1 := hc.2.1
  have hg : pgC M' p = (pgC M p) := hf.pg
  refine go_iload dX6_firstParting_9 rfl ?_
  refine go_iload_n dX6_firstParting_11 rfl ?_
  refine go_icmp_ge (tgt := 65) dX6_firstParting_12 rfl (fun h12 => ?_) (fun h12 => ?_)
  · refine go_bipush dX6_firstParting_65 ⟨by decide, by decide⟩ ?_
    refine go_reti dX6_firstParting_67 ?_
    have es : (fpS (pgC M p) a n i (M' (25, 0, 0)) (M' (23, 0, 0) 4)) = -2 := by
      rw [show n = 0 by omega]; rfl
    exact ⟨by rw [← he]; exact es.symm, hf, rfl⟩
  · have es : (fpS (pgC M p) a n i (M' (25, 0, 0)) (M' (23, 0, 0) 4)) = if wyP (pgC M p) (dpS (pgC M p) (M' (25, 0, 0)) (M' (23, 0, 0) 4) ((pgC M p) 12 0).toNat).1 a = 1 ∨ wyP (pgC M p) (dpS (pgC M p) (M' (25, 0, 0)) (M' (23, 0, 0) 4) ((pgC M p) 12 0).toNat).1 a = 2 then i else fpS (pgC M p) a (n - 1) (i + 1) (dpS (pgC M p) (M' (25, 0, 0)) (M' (23, 0, 0) 4) ((pgC M p) 12 0).toNat).1 (dpS (pgC M p) (M' (25, 0, 0)) (M' (23, 0, 0) 4) ((pgC M p) 12 0).toNat).2 := by
      rw [show n = (n - 1) + 1 by omega]; rfl
    refine go_aload_n dX6_firstParting_15 rfl rfl ?_
    refine go_aload_n dX6_firstParting_16 rfl rfl ?_
    refine v6_35 dX6_firstParting_17 rfl ⟨rfl, rfl⟩ ⟨rfl, rfl⟩ (ct_X6_drawPoint (by rw [hg]; exact hc) e0 e1) (fun M1 N1 hq1 => ?_)
    obtain ⟨g1, g2, g3, rfl⟩ := hq1
    rw [hg] at g1 g2
    have hg1 : pgC M1 p = (pgC M p) := g3.pg.trans hg
    have hdb := dpS_bd (pgC M p) (M' (25, 0, 0)) e0 e1 ((pgC M p) 12 0).toNat
    rw [← g2] at hdb
    refine go_aload_n dX6_firstParting_20 rfl rfl ?_
    refine g6_21 dX6_firstParting_21 ?_
    refine go_aload_n dX6_firstParting_24 rfl rfl ?_
    refine go_aload_n dX6_firstParting_25 rfl rfl ?_
    refine g6_15 dX6_firstParting_26 ?_
    refine go_iload_n dX6_firstParting_29 rfl ?_
    refine v6_75 dX6_firstParting_30 rfl ⟨rfl, rfl⟩ ⟨rfl, rfl⟩ (ct_X5_reckonAt (kn := (25, 0, 0)) rfl rfl (by rw [hg1]; exact hc) (by rw [hg1]; exact hW) a0 (by rw [hg1]; exact a1)) (fun M2 N2 hq2 => ?_)
    obtain ⟨t1, t2, rfl⟩ := hq2
    rw [hg1] at t1
    have hg2 : pgC M2 p = (pgC M p) := t2.pg.trans hg1
    have hst := hc.2.2.2.2.2.2.2.2 a a0 a1 hs
    refine go_aload_n dX6_firstParting_33 rfl rfl ?_
    refine g6_21 dX6_firstParting_34 ?_
    refine go_aload_n dX6_firstParting_37 rfl rfl ?_
    refine go_iload_n dX6_firstParting_38 rfl ?_
    refine v6_79 dX6_firstParting_39 rfl ⟨rfl, rfl⟩ ⟨rfl, rfl⟩ (ct_X5_ways a0 (by omega) (fun k k0 k1 => by rw [hg2] at k1 ⊢; by_cases q : 0 ≤ (pgC M p) 8 (4 * a + k); (have := ((hst.1 k k0 k1).1 q).1; omega); omega)) (fun r3 M3 N3 hr3 hq3 => ?_)
    obtain ⟨y1, rfl, rfl⟩ := hq3
    rw [hg2, wy_tb hk hs t1, g1] at y1
    have k23 : M2 (23, 0, 0) = M1 (23, 0, 0) := t2 _ (nm_ne1 (by decide)) (nm_ne1 (by decide))
    have hf2 : Sf M M2 := hf.tr (g3.sf.tr t2.sf)
    refine go_ist6 dX6_firstParting_42 rfl rfl ?_
    refine go_iload dX6_firstParting_44 rfl ?_
    refine go_iconst dX6_firstParting_46 (R32_lit rfl) ?_
    refine go_icmp_eq (tgt := 56) dX6_firstParting_47 rfl (fun h47 => ?_) (fun h47 => ?_)
    · refine go_iload dX6_firstParting_56 rfl ?_
      refine go_reti dX6_firstParting_58 ?_
      rw [if_pos (by omega)] at es
      exact ⟨by rw [← he]; exact es.symm, hf2, rfl⟩
    · refine go_iload dX6_firstParting_50 rfl ?_
      refine go_iconst dX6_firstParting_52 (R32_lit rfl) ?_
      refine go_icmp_ne (tgt := 59) dX6_firstParting_53 rfl (fun h53 => ?_) (fun h53 => ?_)
      · refine go_iinc5c dX6_firstParting_59 rfl rfl ⟨by omega, by omega⟩ ?_
        refine go_goto (tgt := 9) dX6_firstParting_62 rfl ?_
        rw [if_neg (by omega)] at es
        exact ih (n - 1) (by omega) (i + 1) _ _ (by omega) (by omega) hf2 (by rw [k23]; exact hdb.1) (by rw [k23]; exact hdb.2) (by rw [t2.pt, k23, g1, g2, ← es]; exact he)
      · refine go_iload dX6_firstParting_56 rfl ?_
        refine go_reti dX6_firstParting_58 ?_
        rw [if_pos (by omega)] at es
        exact ⟨by rw [← he]; exact es.symm, hf2, rfl⟩
set_option maxRecDepth 100000 in
set_option maxHeartbeats 4000000 in
theorem ct_X6_firstParting {E : Ev} {M : Mm} {N : Nn} {p : Nat} {a k sd : Int} (hk : SkH (pgC M p) a) (hs : (pgC M p) 0 a ≠ -2) (d0 : 0 ≤ sd) (d1 : sd ≤ 65536) (k0 : 0 ≤ k) (k1 : k ≤ 1000000) : Ct E yX6_firstParting cX6_firstParting 7 ((some .int)) (rmH 5) [vr (23, 0, 0), vr (18, p, 0), vi a, vi k, vi sd] M N (qi (fun r M1 N1 => r = (fpS (pgC M p) a k.toNat 0 (M (25, 0, 0)) sd) ∧ Sf M M1 ∧ N = N1)) := by
  refine ct_of (own := RX6) (L0 := [vr (23, 0, 0), vr (18, p, 0), vi a, vi k, vi sd, vn, vn]) rfl (by decide +kernel) rfl rfl ?_
  refine go_aload_n dX6_firstParting_0 rfl rfl ?_
  refine go_iload dX6_firstParting_1 rfl ?_
  refine p6_25 dX6_firstParting_3 ?_
  refine go_iconst dX6_firstParting_6 (R32_lit rfl) ?_
  refine go_ist5 dX6_firstParting_7 rfl rfl ?_
  exact lp_X6_firstParting hk hs d0 d1 k0 k1 k.toNat 0 _ _ (by omega) (by omega) Sf.rf.w23 (by rw [wr_eq]; exact d0) (by rw [wr_eq]; exact d1) (by rw [wr_eq, wr_nf (nm_ne1 (by decide))])
