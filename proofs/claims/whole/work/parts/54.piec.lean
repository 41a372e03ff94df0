/-- what the pieces touch, their paper aside -/
def Bf (M M1 : Mm) : Prop := ∀ n : Nm, n ≠ (17, 0, 0) → n ≠ (18, 0, 0) → ¬ (n.1 = 19 ∧ n.2.1 = 0) → n ≠ (20, 0, 0) → n ≠ (21, 0, 0) → n ≠ (22, 0, 0) → M1 n = M n
theorem Bf.kf {M M1 : Mm} (h : Bf M M1) : Kf M M1 := fun n a => h n (fun z => a (Or.inl z)) (fun z => a (Or.inr (Or.inl z))) (fun z => a (Or.inr (Or.inr (Or.inl z)))) (fun z => a (Or.inr (Or.inr (Or.inr (Or.inl z))))) (fun z => a (Or.inr (Or.inr (Or.inr (Or.inr (Or.inl z)))))) (fun z => a (Or.inr (Or.inr (Or.inr (Or.inr (Or.inr (Or.inl z)))))))
theorem Bf.hasF {M M1 : Mm} (h : Bf M M1) (hF : hasF M) : hasF M1 := hF.fr (fun a b a0 a1 => h _ (nm_ne1 (by omega)) (nm_ne1 (by omega)) (fun z => absurd z.1 (by show ¬ a = 19; omega)) (nm_ne1 (by omega)) (nm_ne1 (by omega)) (nm_ne1 (by omega)))
theorem Bf.of_pf {M M1 : Mm} (h : Pf 0 M M1) : Bf M M1 := fun n _ a b _ _ _ => h n a b
theorem Bf.w17 {M M1 : Mm} {i x : Int} (h : Bf M M1) : Bf M (wr M1 (17, 0, 0) i x) := fun n a b c d e f => by rw [wr_nf a]; exact h n a b c d e f
theorem Bf.w20 {M M1 : Mm} {i x : Int} (h : Bf M M1) : Bf M (wr M1 (20, 0, 0) i x) := fun n a b c d e f => by rw [wr_nf d]; exact h n a b c d e f
theorem Bf.w21 {M M1 : Mm} {i x : Int} (h : Bf M M1) : Bf M (wr M1 (21, 0, 0) i x) := fun n a b c d e f => by rw [wr_nf e]; exact h n a b c d e f
theorem Bf.w22 {M M1 : Mm} {i x : Int} (h : Bf M M1) : Bf M (wr M1 (22, 0, 0) i x) := fun n a b c d e f => by rw [wr_nf f]; exact h n a b c d e f
theorem Bf.tr {M M1 M2 : Mm} (h : Bf M M1) (h2 : Bf M1 M2) : Bf M M2 := fun n a b c d e f => (h2 n a b c d e f).trans (h n a b c d e f)
theorem pgC_w {M : Mm} {p a b c : Nat} {i x : Int} (h8 : a ≠ 18) (h9 : a ≠ 19) : pgC (wr M (a, b, c) i x) p = pgC M p := by
  funext k j
  unfold pgC
  rw [wr_nf (nm_ne1 (Ne.symm h8)), wr_nf (nm_ne1 (Ne.symm h9))]
set_option maxRecDepth 100000 in
set_option maxHeartbeats 4000000 in
theorem lp_X2_begin {E : Ev} {M : Mm} {N : Nn} {p : Nat} {a : Int} (hp : p ≠ 0) (hF : hasF M) (hc : RC (pgC M p)) (hW : Clo (pgC M p) (wB ((pgC M p) 7 a))) (a0 : 0 ≤ a) (a1 : a < (pgC M p) 11 0) (ha : (pgC M p) 0 a = -2 ∨ wB ((pgC M p) 7 a) a = true) : ∀ (n : Nat) (i : Int) (M' : Mm), (i + n = (pgC M p) 12 0) → (0 ≤ i) → (pgC M' 0 = (pgC M p)) → (Bf M M') → (M' (17, 0, 0) 5 = 0) → (M' (17, 0, 0) 6 = 0) → (M' (17, 0, 0) 7 = a) → (∀ j, 0 ≤ j → j < i → M' (20, 0, 0) j = (pgC M p) 2 ((pgC M p) 10 j) ∧ M' (21, 0, 0) j = (pgC M p) 3 ((pgC M p) 10 j)) → Go E RX2 cX2_begin 4 (none) (rmH 8) 0 0 (zM E (qv (fun M1 N1 => (∃ lo hi bd : Int → Int, (∀ i, 0 ≤ i → i < (pgC M p) 12 0 → lo i = (pgC M p) 2 ((pgC M p) 10 i) ∧ hi i = (pgC M p) 3 ((pgC M p) 10 i)) ∧ PcM M1 (lo, hi, upI bd 0 (bdF (pgC M p) a), 1, 0, a)) ∧ Rn (pgC M p) (pgC M1 0) ∧ hasF M1 ∧ Kf M M1 ∧ Nf 1 N N1))) 25 [vr (17, 0, 0), vr (18, p, 0), vi a, vi i] [] M' N := by
  intro n
  induction n using Nat.strongRecOn with
  | ind n ih =>
  intro i M' hn h0 hg hb k5 k6 k7 hl
  obtain ⟨hn0, hn1, hm0, hm1, hcn, hin, hin2, hin3, hst⟩ := id hc
  have h12 : M' (18, 0, 0) 12 = (pgC M p) 12 0 := congrFun (congrFun hg 12) 0
  have e10 : ∀ j, M' (19, 0, 10) j = (pgC M p) 10 j := fun j => congrFun (congrFun hg 10) j
  have e2 : ∀ j, M' (19, 0, 2) j = (pgC M p) 2 j := fun j => congrFun (congrFun hg 2) j
  have e3 : ∀ j, M' (19, 0, 3) j = (pgC M p) 3 j := fun j => congrFun (congrFun hg 3) j
  refine go_iload_n dX2_begin_25 rfl ?_
  refine go_aload_n dX2_begin_26 rfl rfl ?_
  refine g2_21 dX2_begin_27 ?_
  refine g2_50 dX2_begin_30 ?_
  rw [h12]
  refine go_icmp_ge (tgt := 88) dX2_begin_33 rfl (fun h33 => ?_) (fun h33 => ?_)
  · have hkm : ∀ bd : Int → Int, kmP (pgC M p) (M' (20, 0, 0), M' (21, 0, 0), bd, 0, 0, a) = (pgC M p) := fun bd => rgS_id _ (fun j hj => by
      show M' (20, 0, 0) (0 * 3 + (j : Int)) = _ ∧ M' (21, 0, 0) (0 * 3 + (j : Int)) = _
      rw [show (0 : Int) * 3 + j = j by omega]
      exact hl j (by omega) (by omega))
    have hP' : PcM M' (M' (20, 0, 0), M' (21, 0, 0), M' (22, 0, 0), 0, 0, a) := ⟨rfl, rfl, rfl, k5, k6, k7⟩
    have hrn : Rn (pgC M p) (pgC M' 0) := ⟨M' (20, 0, 0), M' (21, 0, 0), 0 * 3, hg.trans (hkm (M' (22, 0, 0))).symm⟩
    refine go_aload_n dX2_begin_88 rfl rfl ?_
    refine v2_58 dX2_begin_89 rfl ⟨rfl, rfl⟩ ⟨rfl, rfl⟩ (ct_X2_keepMade hrn hP' (hb.hasF hF) (by show (0 : Int) ≤ 0; decide) (by show (0 : Int) < 81; decide) (by rw [hkm]; exact hc) hW a0 a1 ha) (fun M1 N1 hq1 => ?_)
    refine go_retv dX2_begin_92 ?_
    obtain ⟨q1, q2, q3, q4, q5⟩ := hq1
    refine ⟨⟨M' (20, 0, 0), M' (21, 0, 0), M' (22, 0, 0), fun j j0 j1 => hl j j0 (by omega), ?_⟩, q1, q2, hb.kf.tr q4, q5⟩
    unfold kmS at q3
    rw [hkm] at q3
    exact q3
  · have hvb := hin i h0 (by omega)
    refine go_aload_n dX2_begin_36 rfl rfl ?_
    refine g2_25 dX2_begin_37 ?_
    refine go_iload_n dX2_begin_40 rfl ?_
    refine go_aload_n dX2_begin_41 rfl rfl ?_
    refine g2_21 dX2_begin_42 ?_
    refine g2_53 dX2_begin_45 ?_
    refine go_aload_n dX2_begin_48 rfl rfl ?_
    refine g2_21 dX2_begin_49 ?_
    refine g2_54 dX2_begin_52 ?_
    refine go_iload_n dX2_begin_55 rfl ?_
    refine go_iald dX2_begin_56 rfl (by omega) (by omega) ?_
    rw [e10]
    refine go_iald dX2_begin_57 rfl (by omega) (by omega) ?_
    rw [e2]
    refine go_iast dX2_begin_58 rfl (by omega) (by omega) ?_
    refine go_aload_n dX2_begin_59 rfl rfl ?_
    refine g2_29 dX2_begin_60 ?_
    refine go_iload_n dX2_begin_63 rfl ?_
    refine go_aload_n dX2_begin_64 rfl rfl ?_
    refine g2_21 dX2_begin_65 ?_
    refine g2_57 dX2_begin_68 ?_
    refine go_aload_n dX2_begin_71 rfl rfl ?_
    refine g2_21 dX2_begin_72 ?_
    refine g2_54 dX2_begin_75 ?_
    refine go_iload_n dX2_begin_78 rfl ?_
    refine go_iald dX2_begin_79 rfl (by omega) (by omega) ?_
    rw [wr_nn (nm_ne1 (by decide)), e10]
    refine go_iald dX2_begin_80 rfl (by omega) (by omega) ?_
    rw [wr_nn (nm_ne1 (by decide)), e3]
    refine go_iast dX2_begin_81 rfl (by omega) (by omega) ?_
    refine go_iinc3c dX2_begin_82 rfl rfl ⟨by omega, by omega⟩ ?_
    refine go_goto (tgt := 25) dX2_begin_85 rfl ?_
    exact ih (n - 1) (by omega) (i + 1) _ (by omega) (by omega) (by rw [pgC_w (by decide) (by decide), pgC_w (by decide) (by decide)]; exact hg) hb.w20.w21 (by rw [wr_nn (nm_ne1 (by decide)), wr_nn (nm_ne1 (by decide))]; exact k5) (by rw [wr_nn (nm_ne1 (by decide)), wr_nn (nm_ne1 (by decide))]; exact k6) (by rw [wr_nn (nm_ne1 (by decide)), wr_nn (nm_ne1 (by decide))]; exact k7) (fun j j0 j1 => by
      rw [wr_nn (nm_ne1 (by decide))]
      by_cases q : j = i
      · rw [q, wr_eq, wr_eq]; exact ⟨rfl, rfl⟩
      · rw [wr_nk q, wr_nk q, wr_nn (nm_ne1 (by decide))]; exact hl j j0 (by omega))
set_option maxRecDepth 100000 in
set_option maxHeartbeats 4000000 in
theorem ct_X2_begin {E : Ev} {M : Mm} {N : Nn} {p : Nat} {a : Int} (hp : p ≠ 0) (hF : hasF M) (hc : RC (pgC M p)) (hW : Clo (pgC M p) (wB ((pgC M p) 7 a))) (a0 : 0 ≤ a) (a1 : a < (pgC M p) 11 0) (ha : (pgC M p) 0 a = -2 ∨ wB ((pgC M p) 7 a) a = true) : Ct E yX2_begin cX2_begin 4 (none) (rmH 8) [vr (17, 0, 0), vr (18, p, 0), vi a] M N (qv (fun M1 N1 => (∃ lo hi bd : Int → Int, (∀ i, 0 ≤ i → i < (pgC M p) 12 0 → lo i = (pgC M p) 2 ((pgC M p) 10 i) ∧ hi i = (pgC M p) 3 ((pgC M p) 10 i)) ∧ PcM M1 (lo, hi, upI bd 0 (bdF (pgC M p) a), 1, 0, a)) ∧ Rn (pgC M p) (pgC M1 0) ∧ hasF M1 ∧ Kf M M1 ∧ Nf 1 N N1)) := by
  refine ct_of (own := RX2) (L0 := [vr (17, 0, 0), vr (18, p, 0), vi a, vn]) rfl (by decide +kernel) rfl rfl ?_
  refine go_aload_n dX2_begin_0 rfl rfl ?_
  refine g2_21 dX2_begin_1 ?_
  refine go_aload_n dX2_begin_4 rfl rfl ?_
  refine v2_36 dX2_begin_5 rfl ⟨rfl, rfl⟩ ⟨rfl, rfl⟩ (ct_X3_copy (p := 0) (q := p) hp) (fun M1 N1 hq1 => ?_)
  obtain ⟨g1, g2, rfl⟩ := hq1
  refine go_aload_n dX2_begin_8 rfl rfl ?_
  refine go_iload_n dX2_begin_9 rfl ?_
  refine p2_40 dX2_begin_10 ?_
  refine go_aload_n dX2_begin_13 rfl rfl ?_
  refine go_iconst dX2_begin_14 (R32_lit rfl) ?_
  refine p2_44 dX2_begin_15 ?_
  refine go_aload_n dX2_begin_18 rfl rfl ?_
  refine go_iconst dX2_begin_19 (R32_lit rfl) ?_
  refine p2_47 dX2_begin_20 ?_
  refine go_iconst dX2_begin_23 (R32_lit rfl) ?_
  refine go_ist3 dX2_begin_24 rfl rfl ?_
  exact lp_X2_begin hp hF hc hW a0 a1 ha (pgC M p 12 0).toNat 0 _ (by have := hc.2.2.1; omega) (by omega) (by rw [pgC_w (by decide) (by decide), pgC_w (by decide) (by decide), pgC_w (by decide) (by decide)]; exact g1) (Bf.of_pf g2).w17.w17.w17 (by rw [wr_nk (by decide), wr_eq]) (by rw [wr_eq]) (by rw [wr_nk (by decide), wr_nk (by decide), wr_eq]) (fun j j0 j1 => absurd j1 (by omega))
def spW (c : Pc) : Int := wpS c.2.2.1 c.2.2.2.1.toNat
def spI (S : Pg) (c : Pc) : Int := (wdS c.1 c.2.1 (spW c * 3) (S 12 0).toNat).1
def spM (S : Pg) (c : Pc) : Int := c.1 (spW c * 3 + spI S c) + (c.2.1 (spW c * 3 + spI S c) - c.1 (spW c * 3 + spI S c)).tdiv 2
def spA (S : Pg) (c : Pc) : Pc := (cpR c.1 (spW c * 3) (c.2.2.2.1 * 3), upI (cpR c.2.1 (spW c * 3) (c.2.2.2.1 * 3)) (c.2.2.2.1 * 3 + spI S c) (spM S c), c.2.2)
def spB (S : Pg) (c d : Pc) : Pc := (upI (cpR d.1 (spW c * 3) (d.2.2.2.1 * 3)) (d.2.2.2.1 * 3 + spI S c) (spM S c), cpR d.2.1 (spW c * 3) (d.2.2.2.1 * 3), d.2.2)
def spC (S : Pg) (c : Pc) : Pc := kmS S (spB S c (kmS S (spA S c)))
/-- the pieces when the worst has been split -/
def spS (S : Pg) (c : Pc) : Pc := ((spC S c).1, (spC S c).2.1, upI (spC S c).2.2.1 (spW c) (-1), (spC S c).2.2.2.1, (spC S c).2.2.2.2.1 + 1, (spC S c).2.2.2.2.2)
def spZ (S : Pg) (c : Pc) : Prop := spI S c = -1 ∨ 81 < c.2.2.2.1 + 2
/-- ranges that may be -/
def rgO (S : Pg) (lo hi : Int → Int) (b : Int) : Prop := ∀ i, 0 ≤ i → i < S 12 0 → -1000 ≤ lo (b + i) ∧ lo (b + i) ≤ hi (b + i) ∧ hi (b + i) ≤ 1000
theorem mid_bd {x y : Int} (h : x ≤ y) : x ≤ x + (y - x).tdiv 2 ∧ x + (y - x).tdiv 2 ≤ y := by
  rw [Int.tdiv_eq_ediv_of_nonneg (by omega)]
  omega
theorem cpR_at {g : Int → Int} {a b i : Int} (h0 : 0 ≤ i) (h1 : i < 3) : cpR g a b (b + i) = g (a + i) := by
  unfold cpR
  rw [if_pos ⟨by omega, by omega⟩, show a + (b + i - b) = a + i by omega]
theorem upI_b {g : Int → Int} {b k x i : Int} : upI g (b + k) x (b + i) = if i = k then x else g (b + i) := by
  unfold upI
  by_cases q : i = k
  · rw [if_pos q, if_pos (by rw [q])]
  · rw [if_neg q, if_neg (by omega)]
theorem rgO.a {S : Pg} {lo hi : Int → Int} {b m k x : Int} (h : rgO S lo hi b) (h3 : S 12 0 ≤ 3) (hx : lo (b + k) ≤ x ∧ x ≤ hi (b + k)) : rgO S (cpR lo b m) (upI (cpR hi b m) (m + k) x) m := fun i i0 i1 => by
  have hi' := h i i0 i1
  rw [cpR_at i0 (by omega), upI_b, cpR_at i0 (by omega)]
  split
  · rename_i q; rw [q] at hi' ⊢; omega
  · exact hi'
theorem rgO.b {S : Pg} {lo hi : Int → Int} {b m k x : Int} (h : rgO S lo hi b) (h3 : S 12 0 ≤ 3) (hx : lo (b + k) ≤ x ∧ x ≤ hi (b + k)) : rgO S (upI (cpR lo b m) (m + k) x) (cpR hi b m) m := fun i i0 i1 => by
  have hi' := h i i0 i1
  rw [cpR_at i0 (by omega), upI_b, cpR_at i0 (by omega)]
  split
  · rename_i q; rw [q] at hi' ⊢; omega
  · exact hi'
theorem cpR_out {g : Int → Int} {a b j : Int} (h : j < b) : cpR g a b j = g j := by
  unfold cpR
  rw [if_neg (by omega)]
theorem upI_out {g : Int → Int} {k x j : Int} (h : j ≠ k) : upI g k x j = g j := if_neg h
