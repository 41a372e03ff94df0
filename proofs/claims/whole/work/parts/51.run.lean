/-- the values of a point, by the first variables: without rounding, with it -/
def tbE (S : Pg) (pt : Int → Int) : Nat → Int → Int
  | 0 => fun _ => 0
  | v + 1 => fun w => if w = v then (if S 0 v = -2 then pt v else unS S (tbE S pt v) v) else tbE S pt v w
def tbC (S : Pg) (pt : Int → Int) : Nat → Int → Int
  | 0 => fun _ => 0
  | v + 1 => fun w => if w = v then (if S 0 v = -2 then pt v else rndS (unS S (tbC S pt v) v) (S 4 v)) else tbC S pt v w
theorem tbE_s (S : Pg) (pt : Int → Int) {v : Int} (h : 0 ≤ v) (w : Int) : tbE S pt (v + 1).toNat w = if w = v then (if S 0 v = -2 then pt v else unS S (tbE S pt v.toNat) v) else tbE S pt v.toNat w := by
  rw [show (v + 1).toNat = v.toNat + 1 by omega]
  show (if w = ((v.toNat : Nat) : Int) then (if S 0 ((v.toNat : Nat) : Int) = -2 then pt ((v.toNat : Nat) : Int) else unS S (tbE S pt v.toNat) ((v.toNat : Nat) : Int)) else _) = _
  rw [Int.toNat_of_nonneg h]
theorem tbC_s (S : Pg) (pt : Int → Int) {v : Int} (h : 0 ≤ v) (w : Int) : tbC S pt (v + 1).toNat w = if w = v then (if S 0 v = -2 then pt v else rndS (unS S (tbC S pt v.toNat) v) (S 4 v)) else tbC S pt v.toNat w := by
  rw [show (v + 1).toNat = v.toNat + 1 by omega]
  show (if w = ((v.toNat : Nat) : Int) then (if S 0 ((v.toNat : Nat) : Int) = -2 then pt ((v.toNat : Nat) : Int) else rndS (unS S (tbC S pt v.toNat) ((v.toNat : Nat) : Int)) (S 4 ((v.toNat : Nat) : Int))) else _) = _
  rw [Int.toNat_of_nonneg h]
/-- a run touches its tables alone -/
def Uf (M M1 : Mm) : Prop := ∀ n : Nm, n ≠ (27, 0, 0) → n ≠ (28, 0, 0) → M1 n = M n
theorem Uf.rf {M : Mm} : Uf M M := fun _ _ _ => rfl
theorem Uf.tr {M M1 M2 : Mm} (h : Uf M M1) (h2 : Uf M1 M2) : Uf M M2 := fun n a b => (h2 n a b).trans (h n a b)
theorem Uf.w27 {M M1 : Mm} {i x : Int} (h : Uf M M1) : Uf M (wr M1 (27, 0, 0) i x) := fun n a b => by
  rw [← h n a b]; funext k; exact wr_nn a
theorem Uf.w28 {M M1 : Mm} {i x : Int} (h : Uf M M1) : Uf M (wr M1 (28, 0, 0) i x) := fun n a b => by
  rw [← h n a b]; funext k; exact wr_nn b
theorem Uf.pg {p : Nat} {M M1 : Mm} (h : Uf M M1) : pgC M1 p = pgC M p := by
  funext k i
  unfold pgC
  rw [h (18, p, 0) (nm_ne1 (by decide)) (nm_ne1 (by decide)), h (19, p, k) (nm_ne1 (by decide)) (nm_ne1 (by decide))]
/-- .. closed under operands, inputs too -/
def Cl2 (S : Pg) (W : Int → Bool) : Prop := ∀ v, 0 ≤ v → v < S 11 0 → S 0 v ≠ -2 → W v = true → ∀ k, 0 ≤ k → k < opn S v → 0 ≤ S 8 (4 * v + k) → W (S 8 (4 * v + k)) = true
theorem opE_congr {S : Pg} {a b : Int → Int} {v k : Int} (h : 0 ≤ S 8 (4 * v + k) → a (S 8 (4 * v + k)) = b (S 8 (4 * v + k))) : opE S a v k = opE S b v k := by
  unfold opE
  split
  · rename_i q; exact h q
  · rfl
theorem unS_congr {S : Pg} {a b : Int → Int} {v : Int} (hs : 0 ≤ S 0 v ∧ S 0 v ≤ 3) (h : ∀ k, 0 ≤ k → k < opn S v → 0 ≤ S 8 (4 * v + k) → a (S 8 (4 * v + k)) = b (S 8 (4 * v + k))) : unS S a v = unS S b v := by
  have h2 := opn_ge S v
  have e0 := opE_congr (h 0 (by decide) (by omega))
  have e1 := opE_congr (h 1 (by decide) (by omega))
  unfold unS
  rw [e0, e1]
  by_cases h3 : S 0 v = 3
  · have e2 := opE_congr (h 2 (by decide) (by rw [opn_3 h3]; decide))
    have e3 := opE_congr (h 3 (by decide) (by rw [opn_3 h3]; decide))
    rw [e2, e3]
  · by_cases q0 : S 0 v = 0
    · rw [if_pos q0, if_pos q0]
    · by_cases q1 : S 0 v = 1
      · rw [if_neg q0, if_pos q1, if_neg q0, if_pos q1]
      · by_cases q2 : S 0 v = 2
        · rw [if_neg q0, if_neg q1, if_pos q2, if_neg q0, if_neg q1, if_pos q2]
        · exact absurd (show S 0 v = 3 by omega) h3
/-- the tables of a point agree on what is wanted -/
def Tb (S : Pg) (W : Int → Bool) (pt : Int → Int) (i : Int) (M : Mm) : Prop := ∀ w, 0 ≤ w → w < i → W w = true → M (27, 0, 0) w = tbE S pt i.toNat w ∧ M (28, 0, 0) w = tbC S pt i.toNat w
set_option maxRecDepth 100000 in
set_option maxHeartbeats 4000000 in
theorem lp_X5_reckonAt {E : Ev} {M : Mm} {N : Nn} {p : Nat} {kn : Nm} {a : Int} (hk : shp kn = (21, 15)) (hk0 : Nat.beq kn.1 0 = false) (hc : RC (pgC M p)) (hW : Cl2 (pgC M p) (wB (pgC M p 7 a))) (a0 : 0 ≤ a) (a1 : a < pgC M p 11 0) : ∀ (n : Nat) (i : Int) (M' : Mm), (i + n = a + 1) → (0 ≤ i) → (Uf M M') → (Tb (pgC M p) (wB (pgC M p 7 a)) (M kn) i M') → Go E RX5 cX5_reckonAt 5 (none) (rmH 3) 0 0 (zM E (qv (fun M1 N1 => Tb (pgC M p) (wB (pgC M p 7 a)) (M kn) (a + 1) M1 ∧ Uf M M1 ∧ N = N1))) 3 [vr (26, 0, 0), vr (18, p, 0), vr kn, vi a, vi i] [] M' N := by
  intro n
  induction n using Nat.strongRecOn with
  | ind n ih =>
  intro i M' hn h0 hf hT
  obtain ⟨hn0, hn1, hm0, hm1, hcn, hin, hin2, hin3, hst⟩ := id hc
  have hp' : pgC M' p = pgC M p := hf.pg
  have hkn : M' kn = M kn := hf kn (fun e => by rw [e] at hk; exact absurd (congrArg Prod.fst hk) (by decide)) (fun e => by rw [e] at hk; exact absurd (congrArg Prod.fst hk) (by decide))
  refine go_iload dX5_reckonAt_3 rfl ?_
  refine go_iload_n dX5_reckonAt_5 rfl ?_
  refine go_icmp_gt (tgt := 111) dX5_reckonAt_6 rfl (fun h6 => ?_) (fun h6 => ?_)
  · exact go_retv dX5_reckonAt_111 ⟨by rw [show a + 1 = i by omega]; exact hT, hf, rfl⟩
  · refine go_aload_n dX5_reckonAt_9 rfl rfl ?_
    refine go_iload_n dX5_reckonAt_10 rfl ?_
    refine go_iload dX5_reckonAt_11 rfl ?_
    refine v5_18 dX5_reckonAt_13 rfl ⟨rfl, rfl⟩ ⟨rfl, rfl⟩ (ct_X3_needs a0 (by omega)) (fun r1 M1 N1 hr1 hq1 => ?_)
    obtain ⟨e1, rfl, rfl⟩ := hq1
    rw [hp'] at e1
    refine go_if_ne (tgt := 22) dX5_reckonAt_16 rfl (fun h16 => ?_) (fun h16 => ?_)
    · have hwi : wB (pgC M p 7 a) i = true := by
        unfold wB
        rw [decide_eq_true_eq]
        exact Classical.byContradiction (fun q => by rw [if_neg q] at e1; omega)
      refine go_aload_n dX5_reckonAt_22 rfl rfl ?_
      refine g5_24 dX5_reckonAt_23 ?_
      refine go_iload dX5_reckonAt_26 rfl ?_
      refine go_iald dX5_reckonAt_28 rfl (by omega) (by omega) ?_
      refine go_bipush dX5_reckonAt_29 ⟨by decide, by decide⟩ ?_
      refine go_icmp_ne (tgt := 61) dX5_reckonAt_31 rfl (fun h31 => ?_) (fun h31 => ?_)
      · have hsi : ¬ pgC M p 0 i = -2 := fun q => h31 (by rw [← q]; exact (congrFun (congrFun hp' 0) i))
        have hst1 := hst i h0 (by omega) hsi
        have hsg : 0 ≤ pgC M p 0 i ∧ pgC M p 0 i ≤ 3 := ⟨hst1.2.2.2.1, hst1.2.2.2.2⟩
        have hop : ∀ k, 0 ≤ k → k < opn (pgC M p) i → pgC M p 8 (4 * i + k) < i := fun k k0 k1 => by
          by_cases q : 0 ≤ pgC M p 8 (4 * i + k)
          · exact ((hst1.1 k k0 k1).1 q).1
          · omega
        have hTo : ∀ k, 0 ≤ k → k < opn (pgC M p) i → 0 ≤ pgC M p 8 (4 * i + k) → M' (27, 0, 0) (pgC M p 8 (4 * i + k)) = tbE (pgC M p) (M kn) i.toNat (pgC M p 8 (4 * i + k)) ∧ M' (28, 0, 0) (pgC M p 8 (4 * i + k)) = tbC (pgC M p) (M kn) i.toNat (pgC M p 8 (4 * i + k)) := fun k k0 k1 q =>
          hT _ q (hop k k0 k1) (hW i h0 (by omega) hsi hwi k k0 k1 q)
        have hvE : unS (pgC M p) (M' (27, 0, 0)) i = unS (pgC M p) (tbE (pgC M p) (M kn) i.toNat) i := unS_congr hsg (fun k k0 k1 q => (hTo k k0 k1 q).1)
        have hvC : unS (pgC M p) (M' (28, 0, 0)) i = unS (pgC M p) (tbC (pgC M p) (M kn) i.toNat) i := unS_congr hsg (fun k k0 k1 q => (hTo k k0 k1 q).2)
        refine go_aload_n dX5_reckonAt_61 rfl rfl ?_
        refine g5_9 dX5_reckonAt_62 ?_
        refine go_iload dX5_reckonAt_65 rfl ?_
        refine go_aload_n dX5_reckonAt_67 rfl rfl ?_
        refine go_iload dX5_reckonAt_68 rfl ?_
        refine go_aload_n dX5_reckonAt_70 rfl rfl ?_
        refine g5_9 dX5_reckonAt_71 ?_
        refine v5_28 dX5_reckonAt_74 rfl ⟨rfl, rfl⟩ ⟨rfl, rfl⟩ (ct_X5_unrounded (kn := (27, 0, 0)) rfl rfl h0 (by omega) (fun k k0 k1 => by rw [hp'] at k1 ⊢; have := hop k k0 k1; omega) (by rw [hp']; exact hsg)) (fun r2 M1 N1 hr2 hq2 => ?_)
        obtain ⟨e2, rfl, rfl⟩ := hq2
        have hv1 : r2 = unS (pgC M p) (tbE (pgC M p) (M kn) i.toNat) i := by rw [e2, hp']; exact hvE
        refine go_last dX5_reckonAt_77 rfl (by omega) (by omega) ?_
        refine go_nmM (fun M2 eM2 => ?_)
        have hf2 : Uf M M2 := by rw [eM2]; exact hf.w27
        have hp2 : pgC M2 p = pgC M p := hf2.pg
        refine go_aload_n dX5_reckonAt_78 rfl rfl ?_
        refine g5_15 dX5_reckonAt_79 ?_
        refine go_iload dX5_reckonAt_82 rfl ?_
        refine go_aload_n dX5_reckonAt_84 rfl rfl ?_
        refine go_iload dX5_reckonAt_85 rfl ?_
        refine go_aload_n dX5_reckonAt_87 rfl rfl ?_
        refine g5_15 dX5_reckonAt_88 ?_
        refine v5_28 dX5_reckonAt_91 rfl ⟨rfl, rfl⟩ ⟨rfl, rfl⟩ (ct_X5_unrounded (kn := (28, 0, 0)) rfl rfl h0 (by omega) (fun k k0 k1 => by rw [hp2] at k1 ⊢; have := hop k k0 k1; omega) (by rw [hp2]; exact hsg)) (fun r3 M3 N3 hr3 hq3 => ?_)
        obtain ⟨e3, rfl, rfl⟩ := hq3
        have e28 : M2 (28, 0, 0) = M' (28, 0, 0) := by rw [eM2]; funext k; exact wr_nn (nm_ne1 (by decide))
        have hv0 : r3 = unS (pgC M p) (tbC (pgC M p) (M kn) i.toNat) i := by rw [e3, hp2, e28]; exact hvC
        refine go_aload_n dX5_reckonAt_94 rfl rfl ?_
        refine g5_32 dX5_reckonAt_95 ?_
        refine go_iload dX5_reckonAt_98 rfl ?_
        refine go_iald dX5_reckonAt_100 rfl (by omega) (by omega) ?_
        rw [show M2 (19, p, 4) i = pgC M p 4 i from congrFun (congrFun hp2 4) i]
        refine v5_35 dX5_reckonAt_101 rfl ⟨rfl, rfl⟩ ⟨rfl, rfl⟩ (ct_X5_rounded hst1.2.1 hst1.2.2.1) (fun r4 M4 N4 hr4 hq4 => ?_)
        obtain ⟨e4, rfl, rfl⟩ := hq4
        have hv2 : r4 = rndS (unS (pgC M p) (tbC (pgC M p) (M kn) i.toNat) i) (pgC M p 4 i) := by rw [e4, hv0]
        refine go_last dX5_reckonAt_104 rfl (by omega) (by omega) ?_
        refine go_iinc4c dX5_reckonAt_105 rfl rfl ⟨by omega, by omega⟩ ?_
        refine go_goto (tgt := 3) dX5_reckonAt_108 rfl ?_
        first
        | (
           exact ih (n - 1) (by omega) (i + 1) _ (by omega) (by omega) hf (fun w w0 w1 hw => by
             have hne : w ≠ i := fun q => by
               unfold wB at hw
               rw [decide_eq_true_eq, q] at hw
               rw [if_pos hw] at e1
               omega
             rw [tbE_s _ _ h0, tbC_s _ _ h0, if_neg hne, if_neg hne]
             exact hT w w0 (by omega) hw))
        | (
           exact ih (n - 1) (by omega) (i + 1) _ (by omega) (by omega) (hf.w27.w28) (fun w w0 w1 hw => by
             rw [tbE_s _ _ h0, tbC_s _ _ h0]
             by_cases q : w = i
             · rw [if_pos q, if_pos q, q, wr_nn (nm_ne1 (by decide)), wr_eq, wr_eq, if_pos hsi, if_pos hsi]
               exact ⟨rfl, rfl⟩
             · rw [if_neg q, if_neg q, wr_nn (nm_ne1 (by decide)), wr_nk q, wr_nk q, wr_nn (nm_ne1 (by decide))]
               exact hT w w0 (by omega) hw))
        | (
           exact ih (n - 1) (by omega) (i + 1) _ (by omega) (by omega) (hf2.w28) (fun w w0 w1 hw => by
             rw [tbE_s _ _ h0, tbC_s _ _ h0]
             by_cases q : w = i
             · rw [if_pos q, if_pos q, q, wr_nn (nm_ne1 (by decide)), wr_eq, eM2, wr_eq, if_neg hsi, if_neg hsi]
               exact ⟨hv1, hv2⟩
             · rw [if_neg q, if_neg q, wr_nn (nm_ne1 (by decide)), wr_nk q, eM2, wr_nk q, wr_nn (nm_ne1 (by decide))]
               exact hT w w0 (by omega) hw))
      · have hsi : pgC M p 0 i = -2 := (congrFun (congrFun hp' 0) i).symm.trans h31
        refine go_aload_n dX5_reckonAt_34 rfl rfl ?_
        refine g5_9 dX5_reckonAt_35 ?_
        refine go_iload dX5_reckonAt_38 rfl ?_
        refine go_aload_n dX5_reckonAt_40 rfl hk0 ?_
        refine go_iload dX5_reckonAt_41 rfl ?_
        refine go_iald dX5_reckonAt_43 hk h0 (by omega) ?_
        rw [hkn]
        refine go_i2l dX5_reckonAt_44 ?_
        refine go_last dX5_reckonAt_45 rfl (by omega) (by omega) ?_
        refine go_aload_n dX5_reckonAt_46 rfl rfl ?_
        refine g5_15 dX5_reckonAt_47 ?_
        refine go_iload dX5_reckonAt_50 rfl ?_
        refine go_aload_n dX5_reckonAt_52 rfl hk0 ?_
        refine go_iload dX5_reckonAt_53 rfl ?_
        refine go_iald dX5_reckonAt_55 hk h0 (by omega) ?_
        rw [wr_nn (fun e => by rw [e] at hk; exact absurd (congrArg Prod.fst hk) (by decide)), hkn]
        refine go_i2l dX5_reckonAt_56 ?_
        refine go_last dX5_reckonAt_57 rfl (by omega) (by omega) ?_
        refine go_goto (tgt := 105) dX5_reckonAt_58 rfl ?_
        refine go_iinc4c dX5_reckonAt_105 rfl rfl ⟨by omega, by omega⟩ ?_
        refine go_goto (tgt := 3) dX5_reckonAt_108 rfl ?_
        first
        | (
           exact ih (n - 1) (by omega) (i + 1) _ (by omega) (by omega) hf (fun w w0 w1 hw => by
             have hne : w ≠ i := fun q => by
               unfold wB at hw
               rw [decide_eq_true_eq, q] at hw
               rw [if_pos hw] at e1
               omega
             rw [tbE_s _ _ h0, tbC_s _ _ h0, if_neg hne, if_neg hne]
             exact hT w w0 (by omega) hw))
        | (
           exact ih (n - 1) (by omega) (i + 1) _ (by omega) (by omega) (hf.w27.w28) (fun w w0 w1 hw => by
             rw [tbE_s _ _ h0, tbC_s _ _ h0]
             by_cases q : w = i
             · rw [if_pos q, if_pos q, q, wr_nn (nm_ne1 (by decide)), wr_eq, wr_eq, if_pos hsi, if_pos hsi]
               exact ⟨rfl, rfl⟩
             · rw [if_neg q, if_neg q, wr_nn (nm_ne1 (by decide)), wr_nk q, wr_nk q, wr_nn (nm_ne1 (by decide))]
               exact hT w w0 (by omega) hw))
        | (
           exact ih (n - 1) (by omega) (i + 1) _ (by omega) (by omega) (hf2.w28) (fun w w0 w1 hw => by
             rw [tbE_s _ _ h0, tbC_s _ _ h0]
             by_cases q : w = i
             · rw [if_pos q, if_pos q, q, wr_nn (nm_ne1 (by decide)), wr_eq, eM2, wr_eq, if_neg hsi, if_neg hsi]
               exact ⟨hv1, hv2⟩
             · rw [if_neg q, if_neg q, wr_nn (nm_ne1 (by decide)), wr_nk q, eM2, wr_nk q, wr_nn (nm_ne1 (by decide))]
               exact hT w w0 (by omega) hw))
    · refine go_goto (tgt := 105) dX5_reckonAt_19 rfl ?_
      refine go_iinc4c dX5_reckonAt_105 rfl rfl ⟨by omega, by omega⟩ ?_
      refine go_goto (tgt := 3) dX5_reckonAt_108 rfl ?_
      first
      | (
         exact ih (n - 1) (by omega) (i + 1) _ (by omega) (by omega) hf (fun w w0 w1 hw => by
           have hne : w ≠ i := fun q => by
             unfold wB at hw
             rw [decide_eq_true_eq, q] at hw
             rw [if_pos hw] at e1
             omega
           rw [tbE_s _ _ h0, tbC_s _ _ h0, if_neg hne, if_neg hne]
           exact hT w w0 (by omega) hw))
      | (
         exact ih (n - 1) (by omega) (i + 1) _ (by omega) (by omega) (hf.w27.w28) (fun w w0 w1 hw => by
           rw [tbE_s _ _ h0, tbC_s _ _ h0]
           by_cases q : w = i
           · rw [if_pos q, if_pos q, q, wr_nn (nm_ne1 (by decide)), wr_eq, wr_eq, if_pos hsi, if_pos hsi]
             exact ⟨rfl, rfl⟩
           · rw [if_neg q, if_neg q, wr_nn (nm_ne1 (by decide)), wr_nk q, wr_nk q, wr_nn (nm_ne1 (by decide))]
             exact hT w w0 (by omega) hw))
      | (
         exact ih (n - 1) (by omega) (i + 1) _ (by omega) (by omega) (hf2.w28) (fun w w0 w1 hw => by
           rw [tbE_s _ _ h0, tbC_s _ _ h0]
           by_cases q : w = i
           · rw [if_pos q, if_pos q, q, wr_nn (nm_ne1 (by decide)), wr_eq, eM2, wr_eq, if_neg hsi, if_neg hsi]
             exact ⟨hv1, hv2⟩
           · rw [if_neg q, if_neg q, wr_nn (nm_ne1 (by decide)), wr_nk q, eM2, wr_nk q, wr_nn (nm_ne1 (by decide))]
             exact hT w w0 (by omega) hw))
set_option maxRecDepth 100000 in
set_option maxHeartbeats 4000000 in
theorem ct_X5_reckonAt {E : Ev} {M : Mm} {N : Nn} {p : Nat} {kn : Nm} {a : Int} (hk : shp kn = (21, 15)) (hk0 : Nat.beq kn.1 0 = false) (hc : RC (pgC M p)) (hW : Cl2 (pgC M p) (wB (pgC M p 7 a))) (a0 : 0 ≤ a) (a1 : a < pgC M p 11 0) : Ct E yX5_reckonAt cX5_reckonAt 5 (none) (rmH 3) [vr (26, 0, 0), vr (18, p, 0), vr kn, vi a] M N (qv (fun M1 N1 => Tb (pgC M p) (wB (pgC M p 7 a)) (M kn) (a + 1) M1 ∧ Uf M M1 ∧ N = N1)) := by
  refine ct_of (own := RX5) (L0 := [vr (26, 0, 0), vr (18, p, 0), vr kn, vi a, vn]) rfl (by decide +kernel) rfl rfl ?_
  refine go_iconst dX5_reckonAt_0 (R32_lit rfl) ?_
  refine go_ist4 dX5_reckonAt_1 rfl rfl ?_
  exact lp_X5_reckonAt hk hk0 hc hW a0 a1 (a + 1).toNat 0 M (by omega) (by omega) Uf.rf (fun w w0 w1 => absurd w1 (by omega))
