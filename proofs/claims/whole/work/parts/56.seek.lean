def sdN (s : Int) : Int := (75 * s + 74).tmod 65537
theorem sdN_bd {s : Int} (h0 : 0 ≤ s) : 0 ≤ sdN s ∧ sdN s ≤ 65536 := by
  unfold sdN
  rw [Int.tmod_eq_emod_of_nonneg (by omega)]
  omega
def drw (s m : Int) : Int := if 0 < m then s.tmod m else 0
theorem drw_bd {s m : Int} (h0 : 0 ≤ s) : 0 ≤ drw s m ∧ (0 < m → drw s m < m) := by
  unfold drw
  by_cases q : 0 < m
  · rw [if_pos q, Int.tmod_eq_emod_of_nonneg h0]
    exact ⟨Int.emod_nonneg _ (by omega), fun _ => Int.emod_lt_of_pos _ q⟩
  · rw [if_neg q]
    exact ⟨Int.le_refl 0, fun z => absurd z q⟩
/-- a point drawn, and the seed behind it -/
def dpS (S : Pg) (pt : Int → Int) (s : Int) : Nat → (Int → Int) × Int
  | 0 => (pt, s)
  | i + 1 => (upI (dpS S pt s i).1 (S 10 i) (S 2 (S 10 i) + drw (sdN (dpS S pt s i).2) (S 3 (S 10 i) - S 2 (S 10 i) + 1)), sdN (dpS S pt s i).2)
theorem dpS_s (S : Pg) (pt : Int → Int) (s : Int) {i : Int} (h : 0 ≤ i) : dpS S pt s (i + 1).toNat = (upI (dpS S pt s i.toNat).1 (S 10 i) (S 2 (S 10 i) + drw (sdN (dpS S pt s i.toNat).2) (S 3 (S 10 i) - S 2 (S 10 i) + 1)), sdN (dpS S pt s i.toNat).2) := by
  rw [show (i + 1).toNat = i.toNat + 1 by omega]
  show (upI _ (S 10 ((i.toNat : Nat) : Int)) (S 2 (S 10 ((i.toNat : Nat) : Int)) + drw _ (S 3 (S 10 ((i.toNat : Nat) : Int)) - S 2 (S 10 ((i.toNat : Nat) : Int)) + 1)), _) = _
  rw [Int.toNat_of_nonneg h]
theorem dpS_bd (S : Pg) (pt : Int → Int) {s : Int} (h0 : 0 ≤ s) (h1 : s ≤ 65536) : ∀ i : Nat, 0 ≤ (dpS S pt s i).2 ∧ (dpS S pt s i).2 ≤ 65536
  | 0 => ⟨h0, h1⟩
  | i + 1 => sdN_bd (dpS_bd S pt h0 h1 i).1
/-- what drawing touches -/
def Df (M M1 : Mm) : Prop := (∀ n : Nm, n ≠ (23, 0, 0) → n ≠ (25, 0, 0) → M1 n = M n) ∧ ∀ j, j ≠ 4 → M1 (23, 0, 0) j = M (23, 0, 0) j
theorem Df.rf {M : Mm} : Df M M := ⟨fun _ _ _ => rfl, fun _ _ => rfl⟩
theorem Df.tr {M M1 M2 : Mm} (h : Df M M1) (h2 : Df M1 M2) : Df M M2 := ⟨fun n a b => (h2.1 n a b).trans (h.1 n a b), fun j a => (h2.2 j a).trans (h.2 j a)⟩
theorem Df.w25 {M M1 : Mm} {i x : Int} (h : Df M M1) : Df M (wr M1 (25, 0, 0) i x) := ⟨fun n a b => by rw [wr_nf b]; exact h.1 n a b, fun j a => by rw [wr_nf (nm_ne1 (by decide))]; exact h.2 j a⟩
theorem Df.w4 {M M1 : Mm} {x : Int} (h : Df M M1) : Df M (wr M1 (23, 0, 0) 4 x) := ⟨fun n a b => by rw [wr_nf a]; exact h.1 n a b, fun j a => by rw [wr_nk a]; exact h.2 j a⟩
theorem Df.pg {M M1 : Mm} {p : Nat} (h : Df M M1) : pgC M1 p = pgC M p := by
  funext k j
  unfold pgC
  rw [h.1 (18, p, 0) (nm_ne1 (by decide)) (nm_ne1 (by decide)), h.1 (19, p, k) (nm_ne1 (by decide)) (nm_ne1 (by decide))]
/-- what moving touches -/
def Vf (M M1 : Mm) : Prop := ∀ n : Nm, n ≠ (25, 0, 0) → n ≠ (27, 0, 0) → n ≠ (28, 0, 0) → M1 n = M n
theorem Vf.rf {M : Mm} : Vf M M := fun _ _ _ _ => rfl
theorem Vf.tr {M M1 M2 : Mm} (h : Vf M M1) (h2 : Vf M1 M2) : Vf M M2 := fun n a b c => (h2 n a b c).trans (h n a b c)
theorem Vf.w25 {M M1 : Mm} {i x : Int} (h : Vf M M1) : Vf M (wr M1 (25, 0, 0) i x) := fun n a b c => by rw [wr_nf a]; exact h n a b c
theorem Uf.vf {M M1 : Mm} (h : Uf M M1) : Vf M M1 := fun n _ b c => h n b c
theorem Uf.pt {M M1 : Mm} (h : Uf M M1) : M1 (25, 0, 0) = M (25, 0, 0) := h _ (nm_ne1 (by decide)) (nm_ne1 (by decide))
theorem Vf.pg {M M1 : Mm} {p : Nat} (h : Vf M M1) : pgC M1 p = pgC M p := by
  funext k j
  unfold pgC
  rw [h (18, p, 0) (nm_ne1 (by decide)) (nm_ne1 (by decide)) (nm_ne1 (by decide)), h (19, p, k) (nm_ne1 (by decide)) (nm_ne1 (by decide)) (nm_ne1 (by decide))]
/-- the error at a point -/
def erS (S : Pg) (pt : Int → Int) (a : Int) : Int := absw (w64 (tbC S pt (a + 1).toNat a - tbE S pt (a + 1).toNat a))
/-- what may be sought -/
def SkH (S : Pg) (a : Int) : Prop := RC S ∧ Cl2 S (wB (S 7 a)) ∧ wB (S 7 a) a = true ∧ 0 ≤ a ∧ a < S 11 0
/-- a point that may be moved -/
def PtO (S : Pg) (pt : Int → Int) : Prop := ∀ i, 0 ≤ i → i < S 12 0 → -1000 ≤ pt (S 10 i) ∧ pt (S 10 i) ≤ 1000
theorem PtO.up {S : Pg} {pt : Int → Int} {v x : Int} (h : PtO S pt) (h0 : -1000 ≤ x) (h1 : x ≤ 1000) : PtO S (upI pt v x) := fun i i0 i1 => by
  unfold upI
  split
  · exact ⟨h0, h1⟩
  · exact h i i0 i1
set_option maxRecDepth 100000 in
set_option maxHeartbeats 4000000 in
theorem ct_X6_draw {E : Ev} {M : Mm} {N : Nn} {s m : Int} (hs : M (23, 0, 0) 4 = s) (s0 : 0 ≤ s) (s1 : s ≤ 65536) : Ct E yX6_draw cX6_draw 2 ((some .int)) (rmH 1) [vr (23, 0, 0), vi m] M N (qi (fun r M1 N1 => r = drw (sdN s) m ∧ M1 = wr M (23, 0, 0) 4 (sdN s) ∧ N = N1)) := by
  refine ct_of (own := RX6) (L0 := [vr (23, 0, 0), vi m]) rfl (by decide +kernel) rfl rfl ?_
  refine go_aload_n dX6_draw_0 rfl rfl ?_
  refine go_bipush dX6_draw_1 ⟨by decide, by decide⟩ ?_
  refine go_aload_n dX6_draw_3 rfl rfl ?_
  refine g6_25 dX6_draw_4 ?_
  rw [hs]
  refine go_imulc dX6_draw_7 ⟨by omega, by omega⟩ ?_
  refine go_bipush dX6_draw_8 ⟨by decide, by decide⟩ ?_
  refine go_iaddc dX6_draw_10 ⟨by omega, by omega⟩ ?_
  refine c6_83 dX6_draw_11 ?_
  refine go_irem dX6_draw_13 (by decide) ?_
  refine p6_25 dX6_draw_14 ?_
  refine go_iload_n dX6_draw_17 rfl ?_
  refine go_if_le (tgt := 30) dX6_draw_18 rfl (fun h18 => ?_) (fun h18 => ?_)
  · refine go_iconst dX6_draw_30 (R32_lit rfl) ?_
    refine go_reti dX6_draw_31 ?_
    refine ⟨?_, rfl, rfl⟩
    unfold drw
    first
    | (rw [if_pos (by omega)]; rfl)
    | (rw [if_neg (by omega)])
  · refine go_aload_n dX6_draw_21 rfl rfl ?_
    
    refine g6_25 dX6_draw_22 ?_
    rw [wr_eq]
    refine go_iload_n dX6_draw_25 rfl ?_
    refine go_irem dX6_draw_26 (by omega) ?_
    refine go_goto (tgt := 31) dX6_draw_27 rfl ?_
    refine go_reti dX6_draw_31 ?_
    refine ⟨?_, rfl, rfl⟩
    unfold drw
    first
    | (rw [if_pos (by omega)]; rfl)
    | (rw [if_neg (by omega)])
set_option maxRecDepth 100000 in
set_option maxHeartbeats 4000000 in
theorem lp_X6_drawPoint {E : Ev} {M : Mm} {N : Nn} {p : Nat} (hc : RC (pgC M p)) (s0 : 0 ≤ M (23, 0, 0) 4) (s1 : M (23, 0, 0) 4 ≤ 65536) : ∀ (n : Nat) (i : Int) (M' : Mm) (x3 : Vv), (i + n = (pgC M p) 12 0) → (0 ≤ i) → (Df M M') → (M' (25, 0, 0) = (dpS (pgC M p) (M (25, 0, 0)) (M (23, 0, 0) 4) i.toNat).1) → (M' (23, 0, 0) 4 = (dpS (pgC M p) (M (25, 0, 0)) (M (23, 0, 0) 4) i.toNat).2) → Go E RX6 cX6_drawPoint 4 (none) (rmH 2) 0 0 (zM E (qv (fun M1 N1 => M1 (25, 0, 0) = (dpS (pgC M p) (M (25, 0, 0)) (M (23, 0, 0) 4) ((pgC M p) 12 0).toNat).1 ∧ M1 (23, 0, 0) 4 = (dpS (pgC M p) (M (25, 0, 0)) (M (23, 0, 0) 4) ((pgC M p) 12 0).toNat).2 ∧ Df M M1 ∧ N = N1))) 2 [vr (23, 0, 0), vr (18, p, 0), vi i, x3] [] M' N := by
  intro n
  induction n using Nat.strongRecOn with
  | ind n ih =>
  intro i M' x3 hn h0 hf hp hs
  obtain ⟨hn0, hn1, hm0, hm1, hcn, hin, hin2, hin3, hst⟩ := id hc
  have hg : pgC M' p = (pgC M p) := hf.pg
  have h12 : M' (18, p, 0) 12 = (pgC M p) 12 0 := congrFun (congrFun hg 12) 0
  have e10 : ∀ j, M' (19, p, 10) j = (pgC M p) 10 j := fun j => congrFun (congrFun hg 10) j
  have e2 : ∀ j, M' (19, p, 2) j = (pgC M p) 2 j := fun j => congrFun (congrFun hg 2) j
  have e3 : ∀ j, M' (19, p, 3) j = (pgC M p) 3 j := fun j => congrFun (congrFun hg 3) j
  have hsd := dpS_bd (pgC M p) (M (25, 0, 0)) s0 s1 i.toNat
  refine go_iload_n dX6_drawPoint_2 rfl ?_
  refine go_aload_n dX6_drawPoint_3 rfl rfl ?_
  refine g6_49 dX6_drawPoint_4 ?_
  rw [h12]
  refine go_icmp_ge (tgt := 55) dX6_drawPoint_7 rfl (fun h7 => ?_) (fun h7 => ?_)
  · exact go_retv dX6_drawPoint_55 ⟨by rw [show (pgC M p) 12 0 = i by omega]; exact hp, by rw [show (pgC M p) 12 0 = i by omega]; exact hs, hf, rfl⟩
  · have hvb := hin i h0 (by omega)
    refine go_aload_n dX6_drawPoint_10 rfl rfl ?_
    refine g6_54 dX6_drawPoint_11 ?_
    refine go_iload_n dX6_drawPoint_14 rfl ?_
    refine go_iald dX6_drawPoint_15 rfl (by omega) (by omega) ?_
    rw [e10]
    refine go_ist3 dX6_drawPoint_16 rfl rfl ?_
    refine go_aload_n dX6_drawPoint_17 rfl rfl ?_
    refine g6_15 dX6_drawPoint_18 ?_
    refine go_iload_n dX6_drawPoint_21 rfl ?_
    refine go_aload_n dX6_drawPoint_22 rfl rfl ?_
    refine g6_57 dX6_drawPoint_23 ?_
    refine go_iload_n dX6_drawPoint_26 rfl ?_
    refine go_iald dX6_drawPoint_27 rfl (by omega) (by omega) ?_
    rw [e2]
    refine go_aload_n dX6_drawPoint_28 rfl rfl ?_
    refine go_aload_n dX6_drawPoint_29 rfl rfl ?_
    refine g6_84 dX6_drawPoint_30 ?_
    refine go_iload_n dX6_drawPoint_33 rfl ?_
    refine go_iald dX6_drawPoint_34 rfl (by omega) (by omega) ?_
    rw [e3]
    refine go_aload_n dX6_drawPoint_35 rfl rfl ?_
    refine g6_57 dX6_drawPoint_36 ?_
    refine go_iload_n dX6_drawPoint_39 rfl ?_
    refine go_iald dX6_drawPoint_40 rfl (by omega) (by omega) ?_
    rw [e2]
    refine go_isubc dX6_drawPoint_41 ⟨by omega, by omega⟩ ?_
    refine go_iconst dX6_drawPoint_42 (R32_lit rfl) ?_
    refine go_iaddc dX6_drawPoint_43 ⟨by omega, by omega⟩ ?_
    refine v6_87 dX6_drawPoint_44 rfl ⟨rfl, rfl⟩ ⟨rfl, rfl⟩ (ct_X6_draw hs hsd.1 hsd.2) (fun r1 M1 N1 hr1 hq1 => ?_)
    obtain ⟨rfl, rfl, rfl⟩ := hq1
    have hdb := drw_bd (s := sdN (dpS (pgC M p) (M (25, 0, 0)) (M (23, 0, 0) 4) i.toNat).2) (m := (pgC M p) 3 ((pgC M p) 10 i) - (pgC M p) 2 ((pgC M p) 10 i) + 1) (sdN_bd hsd.1).1
    have hdc := hdb.2 (by omega)
    refine go_iaddc dX6_drawPoint_47 ⟨by omega, by omega⟩ ?_
    refine go_iast dX6_drawPoint_48 rfl (by omega) (by omega) ?_
    refine go_iinc2c dX6_drawPoint_49 rfl rfl ⟨by omega, by omega⟩ ?_
    refine go_goto (tgt := 2) dX6_drawPoint_52 rfl ?_
    exact ih (n - 1) (by omega) (i + 1) _ _ (by omega) (by omega) hf.w4.w25 (by
      rw [dpS_s _ _ _ h0, upI_wr, wr_nf (nm_ne1 (by decide)), hp]) (by
      rw [dpS_s _ _ _ h0, wr_nn (nm_ne1 (by decide)), wr_eq])
set_option maxRecDepth 100000 in
set_option maxHeartbeats 4000000 in
theorem ct_X6_drawPoint {E : Ev} {M : Mm} {N : Nn} {p : Nat} (hc : RC (pgC M p)) (s0 : 0 ≤ M (23, 0, 0) 4) (s1 : M (23, 0, 0) 4 ≤ 65536) : Ct E yX6_drawPoint cX6_drawPoint 4 (none) (rmH 2) [vr (23, 0, 0), vr (18, p, 0)] M N (qv (fun M1 N1 => M1 (25, 0, 0) = (dpS (pgC M p) (M (25, 0, 0)) (M (23, 0, 0) 4) ((pgC M p) 12 0).toNat).1 ∧ M1 (23, 0, 0) 4 = (dpS (pgC M p) (M (25, 0, 0)) (M (23, 0, 0) 4) ((pgC M p) 12 0).toNat).2 ∧ Df M M1 ∧ N = N1)) := by
  refine ct_of (own := RX6) (L0 := [vr (23, 0, 0), vr (18, p, 0), vn, vn]) rfl (by decide +kernel) rfl rfl ?_
  refine go_iconst dX6_drawPoint_0 (R32_lit rfl) ?_
  refine go_ist2 dX6_drawPoint_1 rfl rfl ?_
  exact lp_X6_drawPoint hc s0 s1 ((pgC M p) 12 0).toNat 0 M _ (by have := hc.2.2.1; omega) (by omega) Df.rf rfl rfl
set_option maxRecDepth 100000 in
set_option maxHeartbeats 4000000 in
theorem ct_X6_errorHere {E : Ev} {M : Mm} {N : Nn} {p : Nat} {a : Int} (hk : SkH (pgC M p) a) : Ct E yX6_errorHere cX6_errorHere 3 ((some .long)) (rmH 4) [vr (23, 0, 0), vr (18, p, 0), vi a] M N (ql (fun r M1 N1 => r = erS (pgC M p) (M (25, 0, 0)) a ∧ Uf M M1 ∧ N = N1)) := by
  refine ct_of (own := RX6) (L0 := [vr (23, 0, 0), vr (18, p, 0), vi a]) rfl (by decide +kernel) rfl rfl ?_
  obtain ⟨hc, hW, ha, a0, a1⟩ := id hk
  have hn1 := hc.2.1
  refine go_aload_n dX6_errorHere_0 rfl rfl ?_
  refine g6_21 dX6_errorHere_1 ?_
  refine go_aload_n dX6_errorHere_4 rfl rfl ?_
  refine go_aload_n dX6_errorHere_5 rfl rfl ?_
  refine g6_15 dX6_errorHere_6 ?_
  refine go_iload_n dX6_errorHere_9 rfl ?_
  refine v6_75 dX6_errorHere_10 rfl ⟨rfl, rfl⟩ ⟨rfl, rfl⟩ (ct_X5_reckonAt (kn := (25, 0, 0)) rfl rfl hc hW a0 a1) (fun M1 N1 hq1 => ?_)
  obtain ⟨g1, g2, rfl⟩ := hq1
  have hz := g1 a a0 (by omega) ha
  refine go_aload_n dX6_errorHere_13 rfl rfl ?_
  refine g6_21 dX6_errorHere_14 ?_
  refine go_iload_n dX6_errorHere_17 rfl ?_
  refine v6_91 dX6_errorHere_18 rfl ⟨rfl, rfl⟩ ⟨rfl, rfl⟩ (ct_X5_errorSize a0 (by omega)) (fun r2 M2 N2 hr2 hq2 => ?_)
  refine go_retl dX6_errorHere_21 ?_
  obtain ⟨e, rfl, rfl⟩ := hq2
  refine ⟨?_, g2, rfl⟩
  rw [e, hz.1, hz.2]
  rfl
/-- the point behind one -/
def goF (S : Pg) : Nat → Int → (Int → Int) → Int × (Int → Int)
  | 0, _, pt => (0, pt)
  | k + 1, i, pt => if pt (S 10 i) < S 3 (S 10 i) then (1, upI pt (S 10 i) (pt (S 10 i) + 1)) else goF S k (i + 1) (upI pt (S 10 i) (S 2 (S 10 i)))
set_option maxRecDepth 100000 in
set_option maxHeartbeats 4000000 in
theorem lp_X6_goOn {E : Ev} {M : Mm} {N : Nn} {p : Nat} (hc : RC (pgC M p)) (ho : PtO (pgC M p) (M (25, 0, 0))) : ∀ (n : Nat) (i : Int) (M' : Mm) (x3 : Vv), (i + n = (pgC M p) 12 0) → (0 ≤ i) → (Vf M M') → (PtO (pgC M p) (M' (25, 0, 0))) → (goF (pgC M p) n i (M' (25, 0, 0)) = goF (pgC M p) ((pgC M p) 12 0).toNat 0 (M (25, 0, 0))) → Go E RX6 cX6_goOn 4 ((some .boolean)) (rmH 1) 0 0 (zM E (qi (fun r M1 N1 => r = (goF (pgC M p) ((pgC M p) 12 0).toNat 0 (M (25, 0, 0))).1 ∧ M1 (25, 0, 0) = (goF (pgC M p) ((pgC M p) 12 0).toNat 0 (M (25, 0, 0))).2 ∧ PtO (pgC M p) (M1 (25, 0, 0)) ∧ Vf M M1 ∧ N = N1))) 2 [vr (23, 0, 0), vr (18, p, 0), vi i, x3] [] M' N := by
  intro n
  induction n using Nat.strongRecOn with
  | ind n ih =>
  intro i M' x3 hn h0 hf ho' he
  obtain ⟨hn0, hn1, hm0, hm1, hcn, hin, hin2, hin3, hst⟩ := id hc
  have hg : pgC M' p = (pgC M p) := hf.pg
  have h12 : M' (18, p, 0) 12 = (pgC M p) 12 0 := congrFun (congrFun hg 12) 0
  have e10 : ∀ j, M' (19, p, 10) j = (pgC M p) 10 j := fun j => congrFun (congrFun hg 10) j
  have e2 : ∀ j, M' (19, p, 2) j = (pgC M p) 2 j := fun j => congrFun (congrFun hg 2) j
  have e3 : ∀ j, M' (19, p, 3) j = (pgC M p) 3 j := fun j => congrFun (congrFun hg 3) j
  refine go_iload_n dX6_goOn_2 rfl ?_
  refine go_aload_n dX6_goOn_3 rfl rfl ?_
  refine g6_49 dX6_goOn_4 ?_
  rw [h12]
  refine go_icmp_ge (tgt := 62) dX6_goOn_7 rfl (fun h7 => ?_) (fun h7 => ?_)
  · refine go_iconst dX6_goOn_62 (R32_lit rfl) ?_
    refine go_retz dX6_goOn_63 (by first | exact Or.inl rfl | exact Or.inr rfl | omega) ?_
    have es : goF (pgC M p) n i (M' (25, 0, 0)) = (0, M' (25, 0, 0)) := by
      rw [show n = 0 by omega]; rfl
    rw [es] at he
    exact ⟨by rw [← he], by rw [← he], ho', hf, rfl⟩
  · have hvb := hin i h0 (by omega)
    have hob := ho' i h0 (by omega)
    have es : goF (pgC M p) n i (M' (25, 0, 0)) = if M' (25, 0, 0) ((pgC M p) 10 i) < (pgC M p) 3 ((pgC M p) 10 i) then (1, upI (M' (25, 0, 0)) ((pgC M p) 10 i) (M' (25, 0, 0) ((pgC M p) 10 i) + 1)) else goF (pgC M p) (n - 1) (i + 1) (upI (M' (25, 0, 0)) ((pgC M p) 10 i) ((pgC M p) 2 ((pgC M p) 10 i))) := by
      rw [show n = (n - 1) + 1 by omega]; rfl
    refine go_aload_n dX6_goOn_10 rfl rfl ?_
    refine g6_54 dX6_goOn_11 ?_
    refine go_iload_n dX6_goOn_14 rfl ?_
    refine go_iald dX6_goOn_15 rfl (by omega) (by omega) ?_
    rw [e10]
    refine go_ist3 dX6_goOn_16 rfl rfl ?_
    refine go_aload_n dX6_goOn_17 rfl rfl ?_
    refine g6_15 dX6_goOn_18 ?_
    refine go_iload_n dX6_goOn_21 rfl ?_
    refine go_iald dX6_goOn_22 rfl (by omega) (by omega) ?_
    refine go_aload_n dX6_goOn_23 rfl rfl ?_
    refine g6_84 dX6_goOn_24 ?_
    refine go_iload_n dX6_goOn_27 rfl ?_
    refine go_iald dX6_goOn_28 rfl (by omega) (by omega) ?_
    rw [e3]
    refine go_icmp_ge (tgt := 44) dX6_goOn_29 rfl (fun h29 => ?_) (fun h29 => ?_)
    · refine go_aload_n dX6_goOn_44 rfl rfl ?_
      refine g6_15 dX6_goOn_45 ?_
      refine go_iload_n dX6_goOn_48 rfl ?_
      refine go_aload_n dX6_goOn_49 rfl rfl ?_
      refine g6_57 dX6_goOn_50 ?_
      refine go_iload_n dX6_goOn_53 rfl ?_
      refine go_iald dX6_goOn_54 rfl (by omega) (by omega) ?_
      rw [e2]
      refine go_iast dX6_goOn_55 rfl (by omega) (by omega) ?_
      refine go_iinc2c dX6_goOn_56 rfl rfl ⟨by omega, by omega⟩ ?_
      refine go_goto (tgt := 2) dX6_goOn_59 rfl ?_
      rw [if_neg (by omega)] at es
      exact ih (n - 1) (by omega) (i + 1) _ _ (by omega) (by omega) hf.w25 (by rw [upI_wr]; exact ho'.up (by omega) (by omega)) (by rw [upI_wr, ← es]; exact he)
    · refine go_aload_n dX6_goOn_32 rfl rfl ?_
      refine g6_15 dX6_goOn_33 ?_
      refine go_iload_n dX6_goOn_36 rfl ?_
      refine go_dup2_ir dX6_goOn_37 ?_
      refine go_iald dX6_goOn_38 rfl (by omega) (by omega) ?_
      refine go_iconst dX6_goOn_39 (R32_lit rfl) ?_
      refine go_iaddc dX6_goOn_40 ⟨by omega, by omega⟩ ?_
      refine go_iast dX6_goOn_41 rfl (by omega) (by omega) ?_
      refine go_iconst dX6_goOn_42 (R32_lit rfl) ?_
      refine go_retz dX6_goOn_43 (by first | exact Or.inl rfl | exact Or.inr rfl | omega) ?_
      rw [if_pos (by omega)] at es
      rw [es] at he
      refine ⟨?_, ?_, ?_, hf.w25, rfl⟩
      · rw [← he]
      · rw [← he, upI_wr]
      · rw [upI_wr]; exact ho'.up (by omega) (by omega)
set_option maxRecDepth 100000 in
set_option maxHeartbeats 4000000 in
theorem ct_X6_goOn {E : Ev} {M : Mm} {N : Nn} {p : Nat} (hc : RC (pgC M p)) (ho : PtO (pgC M p) (M (25, 0, 0))) : Ct E yX6_goOn cX6_goOn 4 ((some .boolean)) (rmH 1) [vr (23, 0, 0), vr (18, p, 0)] M N (qi (fun r M1 N1 => r = (goF (pgC M p) ((pgC M p) 12 0).toNat 0 (M (25, 0, 0))).1 ∧ M1 (25, 0, 0) = (goF (pgC M p) ((pgC M p) 12 0).toNat 0 (M (25, 0, 0))).2 ∧ PtO (pgC M p) (M1 (25, 0, 0)) ∧ Vf M M1 ∧ N = N1)) := by
  refine ct_of (own := RX6) (L0 := [vr (23, 0, 0), vr (18, p, 0), vn, vn]) rfl (by decide +kernel) rfl rfl ?_
  refine go_iconst dX6_goOn_0 (R32_lit rfl) ?_
  refine go_ist2 dX6_goOn_1 rfl rfl ?_
  exact lp_X6_goOn hc ho ((pgC M p) 12 0).toNat 0 M _ (by have := hc.2.2.1; omega) (by omega) Vf.rf ho rfl
def frS (S : Pg) (pt : Int → Int) : Nat → Int → Int
  | 0 => pt
  | i + 1 => upI (frS S pt i) (S 10 i) (S 2 (S 10 i))
def gaS (S : Pg) (a : Int) : Nat → (Int → Int) → Int → Int
  | 0, _, m => m
  | k + 1, pt, m => if (goF S (S 12 0).toNat 0 pt).1 = 0 then m else gaS S a k (goF S (S 12 0).toNat 0 pt).2 (max m (erS S (goF S (S 12 0).toNat 0 pt).2 a))
theorem goF_b (S : Pg) : ∀ (k : Nat) (i : Int) (pt : Int → Int), (goF S k i pt).1 = 0 ∨ (goF S k i pt).1 = 1
  | 0, _, _ => Or.inl rfl
  | k + 1, i, pt => by
    have ih := goF_b S k (i + 1) (upI pt (S 10 i) (S 2 (S 10 i)))
    unfold goF
    split
    · exact Or.inr rfl
    · exact ih
set_option maxRecDepth 100000 in
set_option maxHeartbeats 4000000 in
theorem lp_X6_greatestOfAll2 {E : Ev} {M : Mm} {N : Nn} {p : Nat} {a : Int} (hk : SkH (pgC M p) a) : ∀ (n : Nat) (i m : Int) (M' : Mm), (i + n = 2000) → (0 ≤ i) → (Vf M M') → (PtO (pgC M p) (M' (25, 0, 0))) → (gaS (pgC M p) a n (M' (25, 0, 0)) m = gaS (pgC M p) a 2000 (frS (pgC M p) (M (25, 0, 0)) ((pgC M p) 12 0).toNat) (erS (pgC M p) (frS (pgC M p) (M (25, 0, 0)) ((pgC M p) 12 0).toNat) a)) → Go E RX6 cX6_greatestOfAll 6 ((some .long)) (rmH 5) 0 0 (zM E (ql (fun r M1 N1 => r = gaS (pgC M p) a 2000 (frS (pgC M p) (M (25, 0, 0)) ((pgC M p) 12 0).toNat) (erS (pgC M p) (frS (pgC M p) (M (25, 0, 0)) ((pgC M p) 12 0).toNat) a) ∧ Vf M M1 ∧ N = N1))) 48 [vr (23, 0, 0), vr (18, p, 0), vi a, vl m, vn, vi i] [] M' N := by
  intro n
  induction n using Nat.strongRecOn with
  | ind n ih =>
  intro i m M' hn h0 hf ho' he
  obtain ⟨hc, hW, ha, a0, a1⟩ := id hk
  have hg : pgC M' p = (pgC M p) := hf.pg
  refine go_iload dX6_greatestOfAll_48 rfl ?_
  refine go_i2l dX6_greatestOfAll_50 ?_
  refine c6_63 dX6_greatestOfAll_51 ?_
  refine go_lcmp_ge (tgt := 83) dX6_greatestOfAll_54 dX6_greatestOfAll_55 rfl (fun h54 => ?_) (fun h54 => ?_)
  · refine go_lload_n dX6_greatestOfAll_83 rfl ?_
    refine go_retl dX6_greatestOfAll_84 ?_
    refine ⟨?_, ?_, rfl⟩
    · rw [← he]
      first
      | (rw [show n = 0 by omega]; rfl)
      | (rw [show n = (n - 1) + 1 by omega]
         show _ = (if (goF (pgC M p) ((pgC M p) 12 0).toNat 0 (M' (25, 0, 0))).1 = 0 then m else _)
         rw [if_pos (by omega)])
    · first | exact hf.tr g4 | exact hf
  · refine go_aload_n dX6_greatestOfAll_58 rfl rfl ?_
    refine go_aload_n dX6_greatestOfAll_59 rfl rfl ?_
    refine v6_65 dX6_greatestOfAll_60 rfl ⟨rfl, rfl⟩ ⟨rfl, rfl⟩ (ct_X6_goOn (by rw [hg]; exact hc) (by rw [hg]; exact ho')) (fun r1 M1 N1 hr1 hq1 => ?_)
    obtain ⟨g1, g2, g3, g4, rfl⟩ := hq1
    rw [hg] at g1 g2 g3
    have hg1 : pgC M1 p = (pgC M p) := g4.pg.trans hg
    refine go_if_eq (tgt := 83) dX6_greatestOfAll_63 rfl (fun h63 => ?_) (fun h63 => ?_)
    · refine go_lload_n dX6_greatestOfAll_83 rfl ?_
      refine go_retl dX6_greatestOfAll_84 ?_
      refine ⟨?_, ?_, rfl⟩
      · rw [← he]
        first
        | (rw [show n = 0 by omega]; rfl)
        | (rw [show n = (n - 1) + 1 by omega]
           show _ = (if (goF (pgC M p) ((pgC M p) 12 0).toNat 0 (M' (25, 0, 0))).1 = 0 then m else _)
           rw [if_pos (by omega)])
      · first | exact hf.tr g4 | exact hf
    · refine go_lload_n dX6_greatestOfAll_66 rfl ?_
      refine go_aload_n dX6_greatestOfAll_67 rfl rfl ?_
      refine go_aload_n dX6_greatestOfAll_68 rfl rfl ?_
      refine go_iload_n dX6_greatestOfAll_69 rfl ?_
      refine v6_60 dX6_greatestOfAll_70 rfl ⟨rfl, rfl⟩ ⟨rfl, rfl⟩ (ct_X6_errorHere (by rw [hg1]; exact hk)) (fun r2 M2 N2 hr2 hq2 => ?_)
      obtain ⟨e5, g5, rfl⟩ := hq2
      rw [hg1] at e5
      refine v6_69 dX6_greatestOfAll_73 rfl ⟨rfl, rfl⟩ ⟨rfl, rfl⟩ ct_J9_max_f86c9 (fun r3 M3 N3 hr3 hq3 => ?_)
      obtain ⟨rfl, rfl, rfl⟩ := hq3
      rw [e5]
      refine go_lst3 dX6_greatestOfAll_76 rfl rfl ?_
      refine go_iinc5c dX6_greatestOfAll_77 rfl rfl ⟨by omega, by omega⟩ ?_
      refine go_goto (tgt := 48) dX6_greatestOfAll_80 rfl ?_
      exact ih (n - 1) (by omega) (i + 1) _ _ (by omega) (by omega) (hf.tr (g4.tr g5.vf)) (by rw [g5.pt]; exact g3) (by
        rw [← he, show n = (n - 1) + 1 by omega]
        show _ = (if (goF (pgC M p) ((pgC M p) 12 0).toNat 0 (M' (25, 0, 0))).1 = 0 then m else _)
        rw [if_neg (by omega), g5.pt, ← g2]
        rfl)
set_option maxRecDepth 100000 in
set_option maxHeartbeats 4000000 in
theorem lp_X6_greatestOfAll {E : Ev} {M : Mm} {N : Nn} {p : Nat} {a : Int} (hk : SkH (pgC M p) a) : ∀ (n : Nat) (i : Int) (M' : Mm), (i + n = (pgC M p) 12 0) → (0 ≤ i) → (Vf M M') → (∀ j, 0 ≤ j → j < i → -1000 ≤ M' (25, 0, 0) ((pgC M p) 10 j) ∧ M' (25, 0, 0) ((pgC M p) 10 j) ≤ 1000) → (M' (25, 0, 0) = (frS (pgC M p) (M (25, 0, 0)) i.toNat)) → Go E RX6 cX6_greatestOfAll 6 ((some .long)) (rmH 5) 0 0 (zM E (ql (fun r M1 N1 => r = gaS (pgC M p) a 2000 (frS (pgC M p) (M (25, 0, 0)) ((pgC M p) 12 0).toNat) (erS (pgC M p) (frS (pgC M p) (M (25, 0, 0)) ((pgC M p) 12 0).toNat) a) ∧ Vf M M1 ∧ N = N1))) 2 [vr (23, 0, 0), vr (18, p, 0), vi a, vi i, vn, vn] [] M' N := by
  intro n
  induction n using Nat.strongRecOn with
  | ind n ih =>
  intro i M' hn h0 hf ho' hp
  obtain ⟨hc, hW, ha, a0, a1⟩ := id hk
  obtain ⟨hn0, hn1, hm0, hm1, hcn, hin, hin2, hin3, hst⟩ := id hc
  have hg : pgC M' p = (pgC M p) := hf.pg
  have h12 : M' (18, p, 0) 12 = (pgC M p) 12 0 := congrFun (congrFun hg 12) 0
  have e10 : ∀ j, M' (19, p, 10) j = (pgC M p) 10 j := fun j => congrFun (congrFun hg 10) j
  have e2 : ∀ j, M' (19, p, 2) j = (pgC M p) 2 j := fun j => congrFun (congrFun hg 2) j
  have e3 : ∀ j, M' (19, p, 3) j = (pgC M p) 3 j := fun j => congrFun (congrFun hg 3) j
  refine go_iload_n dX6_greatestOfAll_2 rfl ?_
  refine go_aload_n dX6_greatestOfAll_3 rfl rfl ?_
  refine g6_49 dX6_greatestOfAll_4 ?_
  rw [h12]
  refine go_icmp_ge (tgt := 38) dX6_greatestOfAll_7 rfl (fun h7 => ?_) (fun h7 => ?_)
  · refine go_aload_n dX6_greatestOfAll_38 rfl rfl ?_
    refine go_aload_n dX6_greatestOfAll_39 rfl rfl ?_
    refine go_iload_n dX6_greatestOfAll_40 rfl ?_
    refine v6_60 dX6_greatestOfAll_41 rfl ⟨rfl, rfl⟩ ⟨rfl, rfl⟩ (ct_X6_errorHere (by rw [hg]; exact hk)) (fun r1 M1 N1 hr1 hq1 => ?_)
    obtain ⟨e5, g5, rfl⟩ := hq1
    rw [hg] at e5
    refine go_lst3 dX6_greatestOfAll_44 rfl rfl ?_
    refine go_iconst dX6_greatestOfAll_45 (R32_lit rfl) ?_
    refine go_ist5 dX6_greatestOfAll_46 rfl rfl ?_
    exact lp_X6_greatestOfAll2 hk 2000 0 _ _ (by omega) (by omega) (hf.tr g5.vf) (by rw [g5.pt]; exact fun j j0 j1 => ho' j j0 (by omega)) (by
      rw [g5.pt, e5, hp, show (pgC M p) 12 0 = i by omega])
  · have hvb := hin i h0 (by omega)
    refine go_aload_n dX6_greatestOfAll_10 rfl rfl ?_
    refine g6_15 dX6_greatestOfAll_11 ?_
    refine go_aload_n dX6_greatestOfAll_14 rfl rfl ?_
    refine g6_54 dX6_greatestOfAll_15 ?_
    refine go_iload_n dX6_greatestOfAll_18 rfl ?_
    refine go_iald dX6_greatestOfAll_19 rfl (by omega) (by omega) ?_
    rw [e10]
    refine go_aload_n dX6_greatestOfAll_20 rfl rfl ?_
    refine g6_57 dX6_greatestOfAll_21 ?_
    refine go_aload_n dX6_greatestOfAll_24 rfl rfl ?_
    refine g6_54 dX6_greatestOfAll_25 ?_
    refine go_iload_n dX6_greatestOfAll_28 rfl ?_
    refine go_iald dX6_greatestOfAll_29 rfl (by omega) (by omega) ?_
    rw [e10]
    refine go_iald dX6_greatestOfAll_30 rfl (by omega) (by omega) ?_
    rw [e2]
    refine go_iast dX6_greatestOfAll_31 rfl (by omega) (by omega) ?_
    refine go_iinc3c dX6_greatestOfAll_32 rfl rfl ⟨by omega, by omega⟩ ?_
    refine go_goto (tgt := 2) dX6_greatestOfAll_35 rfl ?_
    exact ih (n - 1) (by omega) (i + 1) _ (by omega) (by omega) hf.w25 (fun j j0 j1 => by
      rw [upI_wr]
      unfold upI
      split
      · omega
      · rename_i q
        exact ho' j j0 (by rcases Classical.em (j = i) with z | z; exact absurd (by rw [z]) q; omega)) (by
      rw [upI_wr, hp, show (i + 1).toNat = i.toNat + 1 by omega]
      show _ = upI (frS (pgC M p) (M (25, 0, 0)) i.toNat) ((pgC M p) 10 ((i.toNat : Nat) : Int)) ((pgC M p) 2 ((pgC M p) 10 ((i.toNat : Nat) : Int)))
      rw [Int.toNat_of_nonneg h0])
set_option maxRecDepth 100000 in
set_option maxHeartbeats 4000000 in
theorem ct_X6_greatestOfAll {E : Ev} {M : Mm} {N : Nn} {p : Nat} {a : Int} (hk : SkH (pgC M p) a) : Ct E yX6_greatestOfAll cX6_greatestOfAll 6 ((some .long)) (rmH 5) [vr (23, 0, 0), vr (18, p, 0), vi a] M N (ql (fun r M1 N1 => r = gaS (pgC M p) a 2000 (frS (pgC M p) (M (25, 0, 0)) ((pgC M p) 12 0).toNat) (erS (pgC M p) (frS (pgC M p) (M (25, 0, 0)) ((pgC M p) 12 0).toNat) a) ∧ Vf M M1 ∧ N = N1)) := by
  refine ct_of (own := RX6) (L0 := [vr (23, 0, 0), vr (18, p, 0), vi a, vn, vn, vn]) rfl (by decide +kernel) rfl rfl ?_
  refine go_iconst dX6_greatestOfAll_0 (R32_lit rfl) ?_
  refine go_ist3 dX6_greatestOfAll_1 rfl rfl ?_
  exact lp_X6_greatestOfAll hk ((pgC M p) 12 0).toNat 0 M (by have := hk.1.2.2.1; omega) (by omega) Vf.rf (fun j j0 j1 => absurd j1 (by omega)) rfl
