/-- a program with the ranges of a row -/
def rgS (S : Pg) (lo hi : Int → Int) (b : Int) : Nat → Pg
  | 0 => S
  | i + 1 => pst (pst (rgS S lo hi b i) 2 (S 10 i) (lo (b + i))) 3 (S 10 i) (hi (b + i))
theorem rgS_s (S : Pg) (lo hi : Int → Int) (b j : Int) (n k : Nat) : rgS S lo hi b (n + 1) k j = if k = 3 ∧ j = S 10 n then hi (b + n) else if k = 2 ∧ j = S 10 n then lo (b + n) else rgS S lo hi b n k j := rfl
theorem rgS_k (S : Pg) (lo hi : Int → Int) (b : Int) {k : Nat} (h2 : k ≠ 2) (h3 : k ≠ 3) : ∀ n : Nat, rgS S lo hi b n k = S k
  | 0 => rfl
  | n + 1 => by
    show pst (pst (rgS S lo hi b n) 2 (S 10 n) (lo (b + n))) 3 (S 10 n) (hi (b + n)) k = _
    rw [pst_ne h3, pst_ne h2]; exact rgS_k S lo hi b h2 h3 n
theorem pst_id {S : Pg} {k : Nat} {i : Int} : pst S k i (S k i) = S := by
  funext k' i'
  unfold pst
  split
  · rename_i q; rw [q.1, q.2]
  · rfl
theorem rgS_id {S : Pg} {lo hi : Int → Int} {b : Int} : ∀ n : Nat, (∀ i : Nat, i < n → lo (b + i) = S 2 (S 10 i) ∧ hi (b + i) = S 3 (S 10 i)) → rgS S lo hi b n = S
  | 0, _ => rfl
  | n + 1, h => by
    have ih := rgS_id (S := S) (lo := lo) (hi := hi) (b := b) n (fun i hi => h i (by omega))
    have hn := h n (by omega)
    show pst (pst (rgS S lo hi b n) 2 (S 10 n) (lo (b + n))) 3 (S 10 n) (hi (b + n)) = S
    rw [ih, hn.1, pst_id, hn.2, pst_id]
theorem rgS_out {S : Pg} {lo hi : Int → Int} {b j : Int} : ∀ n : Nat, (∀ i : Nat, i < n → S 10 i ≠ j) → ∀ k, rgS S lo hi b n k j = S k j
  | 0, _, _ => rfl
  | n + 1, h, k => by
    have ih := rgS_out (S := S) (lo := lo) (hi := hi) (b := b) n (fun i hi => h i (by omega)) k
    have hn := h n (by omega)
    show (if k = 3 ∧ j = S 10 n then _ else (if k = 2 ∧ j = S 10 n then _ else rgS S lo hi b n k j)) = _
    rw [if_neg (fun q => hn q.2.symm), if_neg (fun q => hn q.2.symm), ih]
theorem rgS_in {S S' : Pg} {lo hi : Int → Int} {b j : Int} (h10 : S' 10 = S 10) : ∀ n : Nat, (∃ i : Nat, i < n ∧ S 10 i = j) → rgS S' lo hi b n 2 j = rgS S lo hi b n 2 j ∧ rgS S' lo hi b n 3 j = rgS S lo hi b n 3 j
  | 0, h => by obtain ⟨i, hi, _⟩ := h; exact absurd hi (by omega)
  | n + 1, h => by
    have e : ∀ k, (k = 2 ∨ k = 3) → rgS S' lo hi b (n + 1) k j = rgS S lo hi b (n + 1) k j := fun k hk => by
      rw [rgS_s, rgS_s, h10]
      by_cases q : j = S 10 n
      · rcases hk with rfl | rfl
        · rw [if_neg (fun z => absurd z.1 (by decide)), if_pos ⟨rfl, q⟩, if_neg (fun z => absurd z.1 (by decide)), if_pos ⟨rfl, q⟩]
        · rw [if_pos ⟨rfl, q⟩, if_pos ⟨rfl, q⟩]
      · obtain ⟨i, hi', e⟩ := h
        have ih := rgS_in (S := S) (S' := S') (lo := lo) (hi := hi) (b := b) (j := j) h10 n ⟨i, by rcases Classical.em (i = n) with z | z; exact absurd (by rw [← e, z]) q; omega, e⟩
        rw [if_neg (fun z => q z.2), if_neg (fun z => q z.2), if_neg (fun z => q z.2), if_neg (fun z => q z.2)]
        rcases hk with rfl | rfl
        · exact ih.1
        · exact ih.2
    exact ⟨e 2 (Or.inl rfl), e 3 (Or.inr rfl)⟩
theorem rgS_rgS (S : Pg) (lo hi lo' hi' : Int → Int) (b b' : Int) (n : Nat) : rgS (rgS S lo' hi' b' n) lo hi b n = rgS S lo hi b n := by
  have h10 : rgS S lo' hi' b' n 10 = S 10 := rgS_k S lo' hi' b' (by decide) (by decide) n
  funext k j
  by_cases q : ∃ i : Nat, i < n ∧ S 10 i = j
  · have h := rgS_in (S := S) (S' := rgS S lo' hi' b' n) (lo := lo) (hi := hi) (b := b) h10 n q
    by_cases k2 : k = 2
    · rw [k2]; exact h.1
    · by_cases k3 : k = 3
      · rw [k3]; exact h.2
      · rw [rgS_k _ lo hi b k2 k3, rgS_k _ lo hi b k2 k3, rgS_k _ lo' hi' b' k2 k3]
  · have hne : ∀ i : Nat, i < n → S 10 i ≠ j := fun i hi e => q ⟨i, hi, e⟩
    rw [rgS_out n (by rw [h10]; exact hne), rgS_out n hne, rgS_out n hne]
/-- a program but for its ranges -/
def Rn (S S' : Pg) : Prop := ∃ lo hi b, S' = rgS S lo hi b (S 12 0).toNat
theorem Rn.k {S S' : Pg} (h : Rn S S') {k : Nat} (h2 : k ≠ 2) (h3 : k ≠ 3) : S' k = S k := by
  obtain ⟨lo, hi, b, rfl⟩ := h; exact rgS_k S lo hi b h2 h3 _
theorem Rn.rg {S S' : Pg} (h : Rn S S') (lo hi : Int → Int) (b : Int) : rgS S' lo hi b (S' 12 0).toNat = rgS S lo hi b (S 12 0).toNat := by
  obtain ⟨lo', hi', b', rfl⟩ := h
  rw [rgS_k S lo' hi' b' (by decide) (by decide)]
  exact rgS_rgS S lo hi lo' hi' b b' _
theorem Clo.k {S S' : Pg} {W : Int → Bool} (h : Clo S W) (h0 : S' 0 = S 0) (h8 : S' 8 = S 8) (h11 : S' 11 = S 11) : Clo S' W := by
  intro v v0 v1 hs hw k k0 k1
  have e : opn S' v = opn S v := by unfold opn; rw [h0]
  rw [e] at k1
  rw [h0] at hs
  rw [h11] at v1
  rw [h8, h0]
  exact h v v0 v1 hs hw k k0 k1
theorem upI_wr {M : Mm} {n : Nm} {k x : Int} : wr M n k x n = upI (M n) k x := by
  funext j
  unfold wr upI
  by_cases q : j = k
  · rw [if_pos ⟨rfl, q⟩, if_pos q]
  · rw [if_neg (fun z => q z.2), if_neg q]
theorem wr_nf {M : Mm} {n n' : Nm} {k x : Int} (h : n' ≠ n) : wr M n k x n' = M n' := by funext j; exact wr_nn h
/-- the bound of a variable -/
def bdF (S : Pg) (a : Int) : Int := w64 (absw ((sK S (wB (S 7 a)) (S 11 0).toNat).1 (15 + a.toNat)).1 + fra ((sK S (wB (S 7 a)) (S 11 0).toNat).1 (15 + a.toNat)))
def kmP (S : Pg) (c : Pc) : Pg := rgS S c.1 c.2.1 (c.2.2.2.1 * 3) (S 12 0).toNat
def kmS (S : Pg) (c : Pc) : Pc := (c.1, c.2.1, upI c.2.2.1 c.2.2.2.1 (bdF (kmP S c) c.2.2.2.2.2), c.2.2.2.1 + 1, c.2.2.2.2.1, c.2.2.2.2.2)
def hasF (M : Mm) : Prop := ∃ φ ν ma, FS M 1 φ ν ma
theorem hasF.fr {M M1 : Mm} (h : hasF M) (hf : ∀ a b : Nat, 7 ≤ a → a ≤ 16 → M1 (a, 1, b) = M (a, 1, b)) : hasF M1 := by
  obtain ⟨φ, ν, ma, h⟩ := h; exact ⟨φ, ν, ma, h.fr hf⟩
theorem PcM.pf {M M1 : Mm} {c : Pc} (h : PcM M c) (hf : Pf 0 M M1) : PcM M1 c := by
  have e : ∀ a, a ≠ 18 → a ≠ 19 → M1 (a, 0, 0) = M (a, 0, 0) := fun a a0 a1 => hf _ (nm_ne1 a0) (fun z => a1 z.1)
  unfold PcM
  rw [e 20 (by decide) (by decide), e 21 (by decide) (by decide), e 22 (by decide) (by decide), e 17 (by decide) (by decide)]
  exact h
theorem PcM.ff {M M1 : Mm} {c : Pc} (h : PcM M c) (hf : Ff 1 M M1) : PcM M1 c := by
  have e : ∀ a, M1 (a, 0, 0) = M (a, 0, 0) := fun a => hf _ (fun z => absurd z.1 (by show ¬ 0 = 1; decide))
  unfold PcM
  rw [e 20, e 21, e 22, e 17]
  exact h
set_option maxRecDepth 100000 in
set_option maxHeartbeats 4000000 in
theorem lp_X2_keepMade {E : Ev} {M : Mm} {N : Nn} {S : Pg} {c : Pc} (hS : Rn S (pgC M 0)) (hP : PcM M c) (hF : hasF M) (m0 : 0 ≤ c.2.2.2.1) (m1 : c.2.2.2.1 < 81) (hc : RC (kmP S c)) (hW : Clo S (wB (S 7 c.2.2.2.2.2))) (a0 : 0 ≤ c.2.2.2.2.2) (a1 : c.2.2.2.2.2 < S 11 0) (ha : S 0 c.2.2.2.2.2 = -2 ∨ wB (S 7 c.2.2.2.2.2) c.2.2.2.2.2 = true) : ∀ (n : Nat) (i : Int) (M' : Mm) (x2 : Vv), (i + n = S 12 0) → (0 ≤ i) → (Pf 0 M M') → (pgC M' 0 = rgS (pgC M 0) c.1 c.2.1 (c.2.2.2.1 * 3) i.toNat) → Go E RX2 cX2_keepMade 3 (none) (rmH 7) 0 0 (zM E (qv (fun M1 N1 => Rn S (pgC M1 0) ∧ hasF M1 ∧ PcM M1 (kmS S c) ∧ Kf M M1 ∧ Nf 1 N N1))) 2 [vr (17, 0, 0), vi i, x2] [] M' N := by
  intro n
  induction n using Nat.strongRecOn with
  | ind n ih =>
  intro i M' x2 hn h0 hf hr
  obtain ⟨hn0, hn1, hm0, hm1, hcn, hin, hin2, hin3, hst⟩ := id hc
  have hPc := hP.pf hf
  have hkk : ∀ k, k ≠ 2 → k ≠ 3 → pgC M' 0 k = S k := fun k k2 k3 => by rw [hr, rgS_k _ _ _ _ k2 k3]; exact hS.k k2 k3
  have hkp : ∀ k, k ≠ 2 → k ≠ 3 → kmP S c k = S k := fun k k2 k3 => rgS_k _ _ _ _ k2 k3 _
  rw [hkp 11 (by decide) (by decide)] at hn1
  rw [hkp 12 (by decide) (by decide)] at hm0 hm1
  have h12 : M' (18, 0, 0) 12 = S 12 0 := congrFun (hkk 12 (by decide) (by decide)) 0
  have h5 : M' (17, 0, 0) 5 = c.2.2.2.1 := hPc.2.2.2.1
  have h7 : M' (17, 0, 0) 7 = c.2.2.2.2.2 := hPc.2.2.2.2.2
  refine go_iload_n dX2_keepMade_2 rfl ?_
  refine go_aload_n dX2_keepMade_3 rfl rfl ?_
  refine g2_21 dX2_keepMade_4 ?_
  refine g2_50 dX2_keepMade_7 ?_
  rw [h12]
  refine go_icmp_ge (tgt := 73) dX2_keepMade_10 rfl (fun h10 => ?_) (fun h10 => ?_)
  · have hkm : pgC M' 0 = kmP S c := by
      rw [hr, show i = S 12 0 by omega]
      have e := hS.rg c.1 c.2.1 (c.2.2.2.1 * 3)
      rw [hS.k (by decide) (by decide)] at e
      exact e
    have hF' : hasF M' := hF.fr (fun a b a0 a1 => hf _ (nm_ne1 (by omega)) (fun z => absurd z.1 (by show ¬ a = 19; omega)))
    obtain ⟨φ0, ν0, ma0, hF0⟩ := hF'
    refine go_aload_n dX2_keepMade_73 rfl rfl ?_
    refine g2_12 dX2_keepMade_74 ?_
    refine go_aload_n dX2_keepMade_77 rfl rfl ?_
    refine g2_21 dX2_keepMade_78 ?_
    refine go_aload_n dX2_keepMade_81 rfl rfl ?_
    refine g2_21 dX2_keepMade_82 ?_
    refine g2_81 dX2_keepMade_85 ?_
    refine go_aload_n dX2_keepMade_88 rfl rfl ?_
    refine g2_40 dX2_keepMade_89 ?_
    rw [h7]
    refine go_iald dX2_keepMade_92 rfl (by omega) (by omega) ?_
    rw [show M' (19, 0, 7) c.2.2.2.2.2 = S 7 c.2.2.2.2.2 from congrFun (hkk 7 (by decide) (by decide)) _]
    refine v2_84 dX2_keepMade_93 rfl ⟨rfl, rfl⟩ ⟨rfl, rfl⟩ (ct_X1_reckon hF0 (by rw [hkm]; exact hc) (hW.k (hkk 0 (by decide) (by decide)) (hkk 8 (by decide) (by decide)) (hkk 11 (by decide) (by decide)))) (fun M1 N1 hq1 => ?_)
    obtain ⟨⟨φ1, ma1, hF1, hR1⟩, hf1, hN1⟩ := hq1
    have hP1 := hPc.ff hf1
    have ea : φ1 (15 + c.2.2.2.2.2.toNat) = (sK (kmP S c) (wB (kmP S c 7 c.2.2.2.2.2)) (kmP S c 11 0).toNat).1 (15 + c.2.2.2.2.2.toNat) := by
      have hz := (hR1 c.2.2.2.2.2 ⟨a0, by rw [hkk 11 (by decide) (by decide)]; exact a1, by
        rw [hkk 0 (by decide) (by decide)]
        by_cases z : S 0 c.2.2.2.2.2 = -2
        · exact Or.inl z
        · exact Or.inr ⟨z, ha.resolve_left z, by rw [hkk 11 (by decide) (by decide)]; exact a1⟩⟩).1.2
      rw [hkm] at hz
      rw [hkp 7 (by decide) (by decide)]
      exact hz
    refine go_aload_n dX2_keepMade_96 rfl rfl ?_
    refine g2_32 dX2_keepMade_97 ?_
    refine go_aload_n dX2_keepMade_100 rfl rfl ?_
    refine g2_44 dX2_keepMade_101 ?_
    rw [hP1.2.2.2.1]
    refine go_aload_n dX2_keepMade_104 rfl rfl ?_
    refine g2_12 dX2_keepMade_105 ?_
    refine go_aload_n dX2_keepMade_108 rfl rfl ?_
    refine g2_40 dX2_keepMade_109 ?_
    rw [hP1.2.2.2.2.2]
    refine v2_88 dX2_keepMade_112 rfl ⟨rfl, rfl⟩ ⟨rfl, rfl⟩ (ct_X1_boundOf hF1 a0 (by omega)) (fun r2 M2 N2 hr2 hq2 => ?_)
    obtain ⟨e2, rfl, rfl⟩ := hq2
    rw [ea] at e2
    have e2 : r2 = bdF (kmP S c) c.2.2.2.2.2 := e2
    refine go_last dX2_keepMade_115 rfl (by omega) (by omega) ?_
    refine go_aload_n dX2_keepMade_116 rfl rfl ?_
    first | refine go_dup_r dX2_keepMade_117 ?_ | refine go_dup_i dX2_keepMade_117 ?_
    refine g2_44 dX2_keepMade_118 ?_
    rw [wr_nn (nm_ne1 (by decide)), hP1.2.2.2.1]
    refine go_iconst dX2_keepMade_121 (R32_lit rfl) ?_
    refine go_iaddc dX2_keepMade_122 ⟨by omega, by omega⟩ ?_
    refine p2_44 dX2_keepMade_123 ?_
    refine go_nmM (fun M3 eM3 => ?_)
    refine go_retv dX2_keepMade_126 ?_
    refine ⟨?_, ?_, ?_, ?_, hN1⟩
    · refine ⟨c.1, c.2.1, c.2.2.2.1 * 3, ?_⟩
      have e : pgC M3 0 = pgC M' 0 := by
        rw [eM3, ← hf1.pg]
        funext k j
        unfold pgC
        rw [wr_nf (nm_ne1 (by decide)), wr_nf (nm_ne1 (by decide)), wr_nf (nm_ne1 (by decide)), wr_nf (nm_ne1 (by decide))]
      rw [e]; exact hkm
    · exact hasF.fr ⟨φ1, _, ma1, hF1⟩ (fun a b a0 a1 => by rw [eM3, wr_nf (nm_ne1 (by omega)), wr_nf (nm_ne1 (by omega))])
    · obtain ⟨p1, p2, p3, p4, p5, p6⟩ := hP1
      rw [eM3]
      refine ⟨?_, ?_, ?_, ?_, ?_, ?_⟩
      · rw [wr_nf (nm_ne1 (by decide)), wr_nf (nm_ne1 (by decide))]; exact p1
      · rw [wr_nf (nm_ne1 (by decide)), wr_nf (nm_ne1 (by decide))]; exact p2
      · rw [wr_nf (nm_ne1 (by decide)), upI_wr, p3, e2]; rfl
      · rw [wr_eq]; rfl
      · rw [wr_nk (by decide), wr_nn (nm_ne1 (by decide))]; exact p5
      · rw [wr_nk (by decide), wr_nn (nm_ne1 (by decide))]; exact p6
    · rw [eM3]; exact Kf.wr (Kf.wr ((Kf.of_pf hf).tr (Kf.of_ff hf1)) PcN.of22) PcN.of17
  · have hvb := hin i h0 (by rw [hkp 12 (by decide) (by decide)]; omega)
    rw [hkp 10 (by decide) (by decide), hkp 11 (by decide) (by decide)] at hvb
    refine go_aload_n dX2_keepMade_13 rfl rfl ?_
    refine g2_21 dX2_keepMade_14 ?_
    refine g2_54 dX2_keepMade_17 ?_
    refine go_iload_n dX2_keepMade_20 rfl ?_
    refine go_iald dX2_keepMade_21 rfl (by omega) (by omega) ?_
    rw [show M' (19, 0, 10) i = S 10 i from congrFun (hkk 10 (by decide) (by decide)) i]
    refine go_ist2 dX2_keepMade_22 rfl rfl ?_
    refine go_aload_n dX2_keepMade_23 rfl rfl ?_
    refine g2_21 dX2_keepMade_24 ?_
    refine g2_53 dX2_keepMade_27 ?_
    refine go_iload_n dX2_keepMade_30 rfl ?_
    refine go_aload_n dX2_keepMade_31 rfl rfl ?_
    refine g2_25 dX2_keepMade_32 ?_
    refine go_aload_n dX2_keepMade_35 rfl rfl ?_
    refine g2_44 dX2_keepMade_36 ?_
    rw [h5]
    refine go_iconst dX2_keepMade_39 (R32_lit rfl) ?_
    refine go_imulc dX2_keepMade_40 ⟨by omega, by omega⟩ ?_
    refine go_iload_n dX2_keepMade_41 rfl ?_
    refine go_iaddc dX2_keepMade_42 ⟨by omega, by omega⟩ ?_
    refine go_iald dX2_keepMade_43 rfl (by omega) (by omega) ?_
    refine go_iast dX2_keepMade_44 rfl (by omega) (by omega) ?_
    refine go_aload_n dX2_keepMade_45 rfl rfl ?_
    refine g2_21 dX2_keepMade_46 ?_
    refine g2_57 dX2_keepMade_49 ?_
    refine go_iload_n dX2_keepMade_52 rfl ?_
    refine go_aload_n dX2_keepMade_53 rfl rfl ?_
    refine g2_29 dX2_keepMade_54 ?_
    refine go_aload_n dX2_keepMade_57 rfl rfl ?_
    refine g2_44 dX2_keepMade_58 ?_
    rw [wr_nn (nm_ne1 (by decide)), h5]
    refine go_iconst dX2_keepMade_61 (R32_lit rfl) ?_
    refine go_imulc dX2_keepMade_62 ⟨by omega, by omega⟩ ?_
    refine go_iload_n dX2_keepMade_63 rfl ?_
    refine go_iaddc dX2_keepMade_64 ⟨by omega, by omega⟩ ?_
    refine go_iald dX2_keepMade_65 rfl (by omega) (by omega) ?_
    refine go_iast dX2_keepMade_66 rfl (by omega) (by omega) ?_
    refine go_iinc1c dX2_keepMade_67 rfl rfl ⟨by omega, by omega⟩ ?_
    refine go_goto (tgt := 2) dX2_keepMade_70 rfl ?_
    exact ih (n - 1) (by omega) (i + 1) _ _ (by omega) (by omega) (Pf.wr19 (Pf.wr19 hf)) (by
      rw [pgC_wr (by decide) (by decide), pgC_wr (by decide) (by decide), hr, wr_nn (nm_ne1 (by decide)), hPc.1, hPc.2.1, show (i + 1).toNat = i.toNat + 1 by omega]
      show _ = pst (pst (rgS (pgC M 0) c.1 c.2.1 (c.2.2.2.1 * 3) i.toNat) 2 (pgC M 0 10 ((i.toNat : Nat) : Int)) (c.1 (c.2.2.2.1 * 3 + ((i.toNat : Nat) : Int)))) 3 (pgC M 0 10 ((i.toNat : Nat) : Int)) (c.2.1 (c.2.2.2.1 * 3 + ((i.toNat : Nat) : Int)))
      rw [Int.toNat_of_nonneg h0, hS.k (by decide) (by decide)])
set_option maxRecDepth 100000 in
set_option maxHeartbeats 4000000 in
theorem ct_X2_keepMade {E : Ev} {M : Mm} {N : Nn} {S : Pg} {c : Pc} (hS : Rn S (pgC M 0)) (hP : PcM M c) (hF : hasF M) (m0 : 0 ≤ c.2.2.2.1) (m1 : c.2.2.2.1 < 81) (hc : RC (kmP S c)) (hW : Clo S (wB (S 7 c.2.2.2.2.2))) (a0 : 0 ≤ c.2.2.2.2.2) (a1 : c.2.2.2.2.2 < S 11 0) (ha : S 0 c.2.2.2.2.2 = -2 ∨ wB (S 7 c.2.2.2.2.2) c.2.2.2.2.2 = true) : Ct E yX2_keepMade cX2_keepMade 3 (none) (rmH 7) [vr (17, 0, 0)] M N (qv (fun M1 N1 => Rn S (pgC M1 0) ∧ hasF M1 ∧ PcM M1 (kmS S c) ∧ Kf M M1 ∧ Nf 1 N N1)) := by
  refine ct_of (own := RX2) (L0 := [vr (17, 0, 0), vn, vn]) rfl (by decide +kernel) rfl rfl ?_
  refine go_iconst dX2_keepMade_0 (R32_lit rfl) ?_
  refine go_ist1 dX2_keepMade_1 rfl rfl ?_
  have h12 : 0 ≤ S 12 0 := by
    have h := hc.2.2.1
    rw [show kmP S c 12 = S 12 from rgS_k _ _ _ _ (by decide) (by decide) _] at h
    exact h
  exact lp_X2_keepMade hS hP hF m0 m1 hc hW a0 a1 ha (S 12 0).toNat 0 M _ (by omega) (by omega) Pf.rf rfl
