def pst (S : Pg) (k : Nat) (i x : Int) : Pg := fun k' i' => if k' = k ∧ i' = i then x else S k' i'
def psk (S : Pg) (k : Nat) (x : Int) : Pg := fun k' i' => if k' = k then x else S k' i'
/-- nothing but a program has changed -/
def Pf (p : Nat) (M M1 : Mm) : Prop := ∀ n : Nm, n ≠ (18, p, 0) → ¬ (n.1 = 19 ∧ n.2.1 = p) → M1 n = M n
theorem Pf.rf {p : Nat} {M : Mm} : Pf p M M := fun _ _ _ => rfl
theorem Pf.tr {p : Nat} {M M1 M2 : Mm} (h : Pf p M M1) (h2 : Pf p M1 M2) : Pf p M M2 := fun n a b => (h2 n a b).trans (h n a b)
theorem Pf.wr19 {p k : Nat} {M M1 : Mm} {i x : Int} (h : Pf p M M1) : Pf p M (wr M1 (19, p, k) i x) := fun n a b => by
  funext j
  rw [wr_nn (fun e => b (by rw [e]; exact ⟨rfl, rfl⟩)), h n a b]
theorem Pf.wr18 {p : Nat} {M M1 : Mm} {i x : Int} (h : Pf p M M1) : Pf p M (wr M1 (18, p, 0) i x) := fun n a b => by
  funext j
  rw [wr_nn a, h n a b]
theorem pgC_wr {M : Mm} {p k : Nat} {i x : Int} (h1 : k ≠ 11) (h2 : k ≠ 12) : pgC (wr M (19, p, k) i x) p = pst (pgC M p) k i x := by
  funext k' i'
  unfold pgC pst
  dsimp only
  by_cases e1 : k' = 11
  · rw [if_pos e1, if_neg (fun q => h1 (by omega)), if_pos e1, wr_nn (nm_ne1 (by decide))]
  · rw [if_neg e1]
    by_cases e2 : k' = 12
    · rw [if_pos e2, if_neg (fun q => h2 (by omega)), if_neg e1, if_pos e2, wr_nn (nm_ne1 (by decide))]
    · rw [if_neg e2, if_neg e1, if_neg e2]
      by_cases e3 : k' = k ∧ i' = i
      · rw [if_pos e3, e3.1, e3.2, wr_eq]
      · rw [if_neg e3, wr_ne (fun q => e3 ⟨congrArg (fun z => z.2.2) q.1, q.2⟩)]
theorem pgC_w11 {M : Mm} {p : Nat} {x : Int} : pgC (wr M (18, p, 0) 11 x) p = psk (pgC M p) 11 x := by
  funext k' i'
  unfold pgC psk
  dsimp only
  by_cases e1 : k' = 11
  · rw [if_pos e1, if_pos e1, wr_eq]
  · rw [if_neg e1, if_neg e1, if_neg e1]
    by_cases e2 : k' = 12
    · rw [if_pos e2, if_pos e2, wr_nk (by decide)]
    · rw [if_neg e2, if_neg e2, wr_nn (nm_ne1 (by decide))]
theorem pgC_w12 {M : Mm} {p : Nat} {x : Int} : pgC (wr M (18, p, 0) 12 x) p = psk (pgC M p) 12 x := by
  funext k' i'
  unfold pgC psk
  dsimp only
  by_cases e1 : k' = 11
  · rw [if_pos e1, if_neg (by omega), if_pos e1, wr_nk (by decide)]
  · rw [if_neg e1, if_neg e1]
    by_cases e2 : k' = 12
    · rw [if_pos e2, if_pos e2, wr_eq]
    · rw [if_neg e2, if_neg e2, if_neg e2, wr_nn (nm_ne1 (by decide))]
theorem Pf.pg {p q : Nat} {M M1 : Mm} (h : Pf p M M1) (hq : q ≠ p) : pgC M1 q = pgC M q := by
  funext k i
  unfold pgC
  rw [h (18, q, 0) (nm_ne2 hq) (fun e => by have := e.1; simp at this), h (19, q, k) (nm_ne1 (by decide)) (fun e => hq e.2)]
/-- 2 to it -/
def p2 (k : Int) : Int := 2 ^ k.toNat
theorem lshl_p2 {k : Int} (h0 : 0 ≤ k) (h1 : k ≤ 8) : lshl 1 k = p2 k := by
  have h : k = 0 ∨ k = 1 ∨ k = 2 ∨ k = 3 ∨ k = 4 ∨ k = 5 ∨ k = 6 ∨ k = 7 ∨ k = 8 := by omega
  rcases h with rfl | rfl | rfl | rfl | rfl | rfl | rfl | rfl | rfl <;> decide +kernel
theorem p2_bd {k : Int} (h0 : 0 ≤ k) (h1 : k ≤ 8) : 1 ≤ p2 k ∧ p2 k ≤ 256 := by
  have h : k = 0 ∨ k = 1 ∨ k = 2 ∨ k = 3 ∨ k = 4 ∨ k = 5 ∨ k = 6 ∨ k = 7 ∨ k = 8 := by omega
  rcases h with rfl | rfl | rfl | rfl | rfl | rfl | rfl | rfl | rfl <;> decide +kernel
/-- which variables a variable needs, as bits -/
def ndF (S : Pg) (v : Int) : Nat → Int
  | 0 => ishl 1 v
  | k + 1 => ior (ndF S v k) (if 0 ≤ S 8 (4 * v + k) then S 7 (S 8 (4 * v + k)) else 0)
def fiS (S : Pg) (v : Int) : Int := if S 0 v = -2 then 0 else max (rfS S (S 5) v) (S 4 v)
def wtS (S : Pg) (v : Int) : Int := if S 0 v = -2 then max (max (S 2 v) (-(S 2 v))) (max (S 3 v) (-(S 3 v))) else rwS S (S 6) v + p2 (S 4 v)
def ndS (S : Pg) (v : Int) : Int := if S 0 v = -2 then ishl 1 v else ndF S v (opn S v).toNat
/-- a program with v settled -/
def stS (S : Pg) (v : Int) : Pg := pst (pst (pst S 7 v (ndS S v)) 5 v (fiS S v)) 6 v (wtS S v)
theorem rwS_bd {S : Pg} {v : Int} (h : OKv S v) : 0 ≤ rwS S (S 6) v ∧ rwS S (S 6) v ≤ 1000000000000 := by
  have b0 := opW_bd (h.at 0 (by omega) (by have := opn_ge S v; omega))
  have b1 := opW_bd (h.at 1 (by omega) (by have := opn_ge S v; omega))
  rw [Int.add_zero] at b0
  have bm := mul_bd b0 b1
  unfold rwS
  split
  · rename_i h3
    have b2 := opW_bd (h.at 2 (by omega) (by rw [opn_3 h3]; omega))
    have b3 := opW_bd (h.at 3 (by omega) (by rw [opn_3 h3]; omega))
    omega
  · split
    · exact bm
    · omega
theorem rfS_bd {S : Pg} {v : Int} (h : OKv S v) : 0 ≤ rfS S (S 5) v ∧ rfS S (S 5) v ≤ 8 := by
  have b0 := opF_bd (h.at 0 (by omega) (by have := opn_ge S v; omega))
  have b1 := opF_bd (h.at 1 (by omega) (by have := opn_ge S v; omega))
  rw [Int.add_zero] at b0
  unfold rfS
  split
  · rename_i h3
    have b2 := opF_bd (h.at 2 (by omega) (by rw [opn_3 h3]; omega))
    have b3 := opF_bd (h.at 3 (by omega) (by rw [opn_3 h3]; omega))
    omega
  · split <;> omega
/-- v may be settled -/
def Sv (S : Pg) (v : Int) : Prop := 0 ≤ v ∧ v < S 11 0 ∧ S 11 0 ≤ 15 ∧ (S 0 v = -2 → -1000 ≤ S 2 v ∧ S 2 v ≤ 1000 ∧ -1000 ≤ S 3 v ∧ S 3 v ≤ 1000) ∧ (S 0 v ≠ -2 → OKv S v ∧ 0 ≤ S 4 v ∧ S 4 v ≤ 8)
theorem pst_ne {S : Pg} {k k' : Nat} {i x : Int} (h : k' ≠ k) : pst S k i x k' = S k' := by
  funext j
  exact if_neg (fun q => h q.1)
theorem OKv_7 {S : Pg} {v w x : Int} (h : OKv S v) : OKv (pst S 7 w x) v := h
theorem OKv_75 {S : Pg} {v x y : Int} (h : OKv S v) : OKv (pst (pst S 7 v x) 5 v y) v := by
  intro k h0 h1
  have h2 : OK1 S v (4 * v + k) := h k h0 h1
  refine ⟨fun q => ?_, h2.2⟩
  have h3 := h2.1 q
  have e : (pst (pst S 7 v x) 5 v y) 5 (S 8 (4 * v + k)) = S 5 (S 8 (4 * v + k)) := if_neg (fun q => by have := q.2; omega)
  exact ⟨h3.1, by rw [show (pst (pst S 7 v x) 5 v y) 8 (4 * v + k) = S 8 (4 * v + k) from rfl, e]; exact h3.2.1, by rw [show (pst (pst S 7 v x) 5 v y) 8 (4 * v + k) = S 8 (4 * v + k) from rfl, e]; exact h3.2.2.1, h3.2.2.2⟩
set_option maxRecDepth 100000 in
set_option maxHeartbeats 4000000 in
theorem lp_X3_settle {E : Ev} {M : Mm} {N : Nn} {p : Nat} {v : Int} (hv : Sv (pgC M p) v) (hsn : pgC M p 0 v ≠ -2) : ∀ (n : Nat) (i : Int) (M' : Mm) (x3 : Vv), (i + n = opn (pgC M p) v) → (0 ≤ i) → (i ≤ 4) → (Pf p M M') → (pgC M' p = pst (pgC M p) 7 v (ndF (pgC M p) v i.toNat)) → Go E RX3 cX3_settle 4 ((some .boolean)) (rmH 4) 0 0 (zM E (qi (fun r M1 N1 => r = (if 1000000 < wtS (pgC M p) v then 0 else 1) ∧ pgC M1 p = stS (pgC M p) v ∧ Pf p M M1 ∧ N = N1))) 56 [vr (18, p, 0), vi v, vi i, x3] [] M' N := by
  intro n
  induction n using Nat.strongRecOn with
  | ind n ih =>
  intro i M' x3 hn h0 hi4 hF hS
  have hv1 := hv.1
  have hv2 := hv.2.1
  have hv3 := hv.2.2.1
  have h8 : ∀ i, M' (19, p, 8) i = pgC M p 8 i := fun i => congrFun (congrFun hS 8) i
  have h7 : ∀ w, w ≠ v → M' (19, p, 7) w = pgC M p 7 w := fun w hw => (congrFun (congrFun hS 7) w).trans (if_neg (fun q => hw q.2))
  have h7v : M' (19, p, 7) v = ndF (pgC M p) v i.toNat := (congrFun (congrFun hS 7) v).trans (if_pos ⟨rfl, rfl⟩)
  have h11 : pgC M' p 11 0 = pgC M p 11 0 := congrFun (congrFun hS 11) 0
  have h00 : pgC M' p 0 v = pgC M p 0 v := congrFun (congrFun hS 0) v
  have hop := (hv.2.2.2.2 hsn).1
  have hop4 : opn (pgC M p) v ≤ 4 := by unfold opn; split <;> decide
  refine go_iload_n dX3_settle_56 rfl ?_
  refine go_aload_n dX3_settle_57 rfl rfl ?_
  refine go_iload_n dX3_settle_58 rfl ?_
  refine v3_79 dX3_settle_59 rfl ⟨rfl, rfl⟩ ⟨rfl, rfl⟩ (ct_X3_operands (by rw [h11]; exact hv3)) (fun r1 M1 N1 hr1 hq1 => ?_)
  obtain ⟨er, rfl, rfl⟩ := hq1
  rw [h11, h00] at er
  have er : r1 = opn (pgC M p) v := by
    rw [er]
    unfold opn
    by_cases q : pgC M p 0 v = 3
    · rw [if_pos q, if_pos ⟨hv1, hv2, q⟩]
    · rw [if_neg q, if_neg (fun z => q z.2.2)]
  refine go_icmp_ge (tgt := 105) dX3_settle_62 rfl (fun h62 => ?_) (fun h62 => ?_)
  · have hi : i = opn (pgC M p) v := by omega
    have hS : pgC M' p = pst (pgC M p) 7 v (ndS (pgC M p) v) := by
      rw [hS, hi]
      unfold ndS
      rw [if_neg hsn]
    have hop7 : OKv (pgC M' p) v := by rw [hS]; exact OKv_7 hop
    have hg0 : 0 ≤ pgC M p 4 v ∧ pgC M p 4 v ≤ 8 := (hv.2.2.2.2 hsn).2
    have h4 : M' (19, p, 4) v = pgC M p 4 v := congrFun (congrFun hS 4) v
    refine go_aload_n dX3_settle_105 rfl rfl ?_
    refine g3_27 dX3_settle_106 ?_
    refine go_iload_n dX3_settle_109 rfl ?_
    refine go_aload_n dX3_settle_110 rfl rfl ?_
    refine go_iload_n dX3_settle_111 rfl ?_
    refine v3_82 dX3_settle_112 rfl ⟨rfl, rfl⟩ ⟨rfl, rfl⟩ (ct_X3_reckonedFine hv1 (by omega) hop7) (fun r2 M2 N2 hr2 hq2 => ?_)
    obtain ⟨ef, rfl, rfl⟩ := hq2
    rw [hS] at ef
    have ef : r2 = rfS (pgC M p) (pgC M p 5) v := ef
    refine go_aload_n dX3_settle_115 rfl rfl ?_
    refine g3_24 dX3_settle_116 ?_
    refine go_iload_n dX3_settle_119 rfl ?_
    refine go_iald dX3_settle_120 rfl (by omega) (by omega) ?_
    refine v3_75 dX3_settle_121 rfl ⟨rfl, rfl⟩ ⟨rfl, rfl⟩ ct_J9_max_7cf53 (fun r3 M3 N3 hr3 hq3 => ?_)
    obtain ⟨em, rfl, rfl⟩ := hq3
    have ef5 : r3 = fiS (pgC M p) v := by
      rw [em, h4, ef]
      unfold fiS
      rw [if_neg hsn]
    refine go_iast dX3_settle_124 rfl (by omega) (by omega) ?_
    refine go_nmM (fun M5 eM5 => ?_)
    have hS5 : pgC M5 p = pst (pst (pgC M p) 7 v (ndS (pgC M p) v)) 5 v (fiS (pgC M p) v) := by rw [eM5, pgC_wr (by decide) (by decide), hS, ef5]
    have hF5 : Pf p M M5 := by rw [eM5]; exact hF.wr19
    have hop5 : OKv (pgC M5 p) v := by rw [hS5]; exact OKv_75 hop
    have h45 : M5 (19, p, 4) v = pgC M p 4 v := congrFun (congrFun hS5 4) v
    refine go_aload_n dX3_settle_125 rfl rfl ?_
    refine g3_30 dX3_settle_126 ?_
    refine go_iload_n dX3_settle_129 rfl ?_
    refine go_aload_n dX3_settle_130 rfl rfl ?_
    refine go_iload_n dX3_settle_131 rfl ?_
    refine v3_85 dX3_settle_132 rfl ⟨rfl, rfl⟩ ⟨rfl, rfl⟩ (ct_X3_reckonedWeight hv1 (by omega) hop5) (fun r4 M4 N4 hr4 hq4 => ?_)
    obtain ⟨ew, rfl, rfl⟩ := hq4
    rw [hS5] at ew
    have ew : r4 = rwS (pgC M p) (pgC M p 6) v := ew
    have bw := rwS_bd hop
    rw [← ew] at bw
    refine go_lconst (x := 1) dX3_settle_135 rfl ?_
    refine go_aload_n dX3_settle_136 rfl rfl ?_
    refine g3_24 dX3_settle_137 ?_
    refine go_iload_n dX3_settle_140 rfl ?_
    refine go_iald dX3_settle_141 rfl (by omega) (by omega) ?_
    refine go_lshl dX3_settle_142 ?_
    rw [h45, lshl_p2 hg0.1 hg0.2]
    have bp := p2_bd hg0.1 hg0.2
    refine go_laddc dX3_settle_143 ⟨by omega, by omega⟩ ?_
    have ewt : r4 + p2 (pgC M p 4 v) = wtS (pgC M p) v := by
      unfold wtS
      rw [if_neg hsn, ew]
    rw [ewt]
    refine go_last dX3_settle_144 rfl (by omega) (by omega) ?_
    refine go_aload_n dX3_settle_145 rfl rfl ?_
    refine g3_30 dX3_settle_146 ?_
    refine go_iload_n dX3_settle_149 rfl ?_
    refine go_lald dX3_settle_150 rfl (by omega) (by omega) ?_
    rw [wr_eq]
    refine c3_89 dX3_settle_151 ?_
    refine go_lcmp_gt (tgt := 162) dX3_settle_154 dX3_settle_155 rfl (fun h154 => ?_) (fun h154 => ?_)
    · refine go_iconst dX3_settle_162 (R32_lit rfl) ?_
      refine go_retz dX3_settle_163 (by first | exact Or.inl rfl | exact Or.inr rfl | omega) ?_
      refine ⟨by first | rw [if_pos (by omega)] | rw [if_neg (by omega)], ?_, hF5.wr19, rfl⟩
      rw [pgC_wr (by decide) (by decide), hS5]
      rfl
    · refine go_iconst dX3_settle_158 (R32_lit rfl) ?_
      refine go_goto (tgt := 163) dX3_settle_159 rfl ?_
      refine go_retz dX3_settle_163 (by first | exact Or.inl rfl | exact Or.inr rfl | omega) ?_
      refine ⟨by first | rw [if_pos (by omega)] | rw [if_neg (by omega)], ?_, hF5.wr19, rfl⟩
      rw [pgC_wr (by decide) (by decide), hS5]
      rfl
  · refine go_aload_n dX3_settle_65 rfl rfl ?_
    refine g3_37 dX3_settle_66 ?_
    refine go_iload_n dX3_settle_69 rfl ?_
    refine go_iconst dX3_settle_70 (R32_lit rfl) ?_
    refine go_imulc dX3_settle_71 ⟨by omega, by omega⟩ ?_
    refine go_iload_n dX3_settle_72 rfl ?_
    refine go_iaddc dX3_settle_73 ⟨by omega, by omega⟩ ?_
    refine go_iald dX3_settle_74 rfl (by omega) (by omega) ?_
    rw [h8, show v * 4 + i = 4 * v + i by omega]
    refine go_nmi (fun w ew => ?_)
    have hlt : i < opn (pgC M p) v := by omega
    have hw := (hop.at i h0 hlt).1
    rw [← ew] at hw
    refine go_ist3 dX3_settle_75 rfl rfl ?_
    refine go_aload_n dX3_settle_76 rfl rfl ?_
    refine g3_34 dX3_settle_77 ?_
    refine go_iload_n dX3_settle_80 rfl ?_
    refine go_dup2_ir dX3_settle_81 ?_
    refine go_iald dX3_settle_82 rfl (by omega) (by omega) ?_
    refine go_iload_n dX3_settle_83 rfl ?_
    refine go_if_lt (tgt := 96) dX3_settle_84 rfl (fun h84 => ?_) (fun h84 => ?_)
    · refine go_iconst dX3_settle_96 (R32_lit rfl) ?_
      skip
      refine go_ior dX3_settle_97 ?_
      refine go_iast dX3_settle_98 rfl (by omega) (by omega) ?_
      refine go_iinc2c dX3_settle_99 rfl rfl ⟨by omega, by omega⟩ ?_
      refine go_goto (tgt := 56) dX3_settle_102 rfl ?_
      exact ih (n - 1) (by omega) (i + 1) _ _ (by omega) (by omega) (by omega) hF.wr19 (by
        rw [pgC_wr (by decide) (by decide), hS]
        funext k' i'
        unfold pst
        by_cases e : k' = 7 ∧ i' = v
        · rw [if_pos e, if_pos e, show (i + 1).toNat = i.toNat + 1 by omega]
          show ior _ _ = ior _ (if 0 ≤ pgC M p 8 (4 * v + (i.toNat : Int)) then _ else 0)
          rw [Int.toNat_of_nonneg h0, h7v, ← ew]
          first
          | (rw [if_pos (by omega), h7 w (by have := (hop.at i h0 hlt).1 (by omega); omega)])
          | rw [if_neg (by omega)]
        · rw [if_neg e, if_neg e, if_neg e])
    · refine go_aload_n dX3_settle_87 rfl rfl ?_
      refine g3_34 dX3_settle_88 ?_
      refine go_iload_n dX3_settle_91 rfl ?_
      refine go_iald dX3_settle_92 rfl (by omega) (by omega) ?_
      refine go_goto (tgt := 97) dX3_settle_93 rfl ?_
      skip
      refine go_ior dX3_settle_97 ?_
      refine go_iast dX3_settle_98 rfl (by omega) (by omega) ?_
      refine go_iinc2c dX3_settle_99 rfl rfl ⟨by omega, by omega⟩ ?_
      refine go_goto (tgt := 56) dX3_settle_102 rfl ?_
      exact ih (n - 1) (by omega) (i + 1) _ _ (by omega) (by omega) (by omega) hF.wr19 (by
        rw [pgC_wr (by decide) (by decide), hS]
        funext k' i'
        unfold pst
        by_cases e : k' = 7 ∧ i' = v
        · rw [if_pos e, if_pos e, show (i + 1).toNat = i.toNat + 1 by omega]
          show ior _ _ = ior _ (if 0 ≤ pgC M p 8 (4 * v + (i.toNat : Int)) then _ else 0)
          rw [Int.toNat_of_nonneg h0, h7v, ← ew]
          first
          | (rw [if_pos (by omega), h7 w (by have := (hop.at i h0 hlt).1 (by omega); omega)])
          | rw [if_neg (by omega)]
        · rw [if_neg e, if_neg e, if_neg e])
set_option maxRecDepth 100000 in
set_option maxHeartbeats 4000000 in
theorem ct_X3_settle {E : Ev} {M : Mm} {N : Nn} {p : Nat} {v : Int} (hv : Sv (pgC M p) v) : Ct E yX3_settle cX3_settle 4 ((some .boolean)) (rmH 4) [vr (18, p, 0), vi v] M N (qi (fun r M1 N1 => r = (if 1000000 < wtS (pgC M p) v then 0 else 1) ∧ pgC M1 p = stS (pgC M p) v ∧ Pf p M M1 ∧ N = N1)) := by
  refine ct_of (own := RX3) (L0 := [vr (18, p, 0), vi v, vn, vn]) rfl (by decide +kernel) rfl rfl ?_
  have hv1 := hv.1
  have hv2 := hv.2.1
  have hv3 := hv.2.2.1
  refine go_aload_n dX3_settle_0 rfl rfl ?_
  refine g3_34 dX3_settle_1 ?_
  refine go_iload_n dX3_settle_4 rfl ?_
  refine go_iconst dX3_settle_5 (R32_lit rfl) ?_
  refine go_iload_n dX3_settle_6 rfl ?_
  refine go_ishl dX3_settle_7 ?_
  refine go_iast dX3_settle_8 rfl (by omega) (by omega) ?_
  refine go_nmM (fun M0 eM0 => ?_)
  have hS0 : pgC M0 p = pst (pgC M p) 7 v (ishl 1 v) := by rw [eM0, pgC_wr (by decide) (by decide)]
  have hF0 : Pf p M M0 := by rw [eM0]; exact Pf.rf.wr19
  have h11 : pgC M0 p 11 0 = pgC M p 11 0 := congrFun (congrFun hS0 11) 0
  have h00 : pgC M0 p 0 v = pgC M p 0 v := congrFun (congrFun hS0 0) v
  refine go_aload_n dX3_settle_9 rfl rfl ?_
  refine go_iload_n dX3_settle_10 rfl ?_
  refine v3_66 dX3_settle_11 rfl ⟨rfl, rfl⟩ ⟨rfl, rfl⟩ (ct_X3_isInput (by rw [h11]; exact hv3)) (fun r1 M1 N1 hr1 hq1 => ?_)
  obtain ⟨er, rfl, rfl⟩ := hq1
  rw [h11, h00] at er
  refine go_if_eq (tgt := 54) dX3_settle_14 rfl (fun h14 => ?_) (fun h14 => ?_)
  · have hsn : pgC M p 0 v ≠ -2 := by
      intro q
      rw [if_pos ⟨hv1, hv2, q⟩] at er; omega
    refine go_iconst dX3_settle_54 (R32_lit rfl) ?_
    refine go_ist2 dX3_settle_55 rfl rfl ?_
    exact lp_X3_settle hv hsn (opn (pgC M p) v).toNat 0 M0 _ (by have := opn_ge (pgC M p) v; omega) (by omega) (by omega) hF0 hS0
  · have hsi : pgC M p 0 v = -2 := by
      rcases Classical.em (pgC M p 0 v = -2) with q | q
      · exact q
      · rw [if_neg (fun z => q z.2.2)] at er; omega
    have hb := hv.2.2.2.1 hsi
    refine go_aload_n dX3_settle_17 rfl rfl ?_
    refine g3_27 dX3_settle_18 ?_
    refine go_iload_n dX3_settle_21 rfl ?_
    refine go_iconst dX3_settle_22 (R32_lit rfl) ?_
    refine go_iast dX3_settle_23 rfl (by omega) (by omega) ?_
    refine go_nmM (fun M5 eM5 => ?_)
    have hS5 : pgC M5 p = pst (pst (pgC M p) 7 v (ishl 1 v)) 5 v 0 := by rw [eM5, pgC_wr (by decide) (by decide), hS0]
    have hF5 : Pf p M M5 := by rw [eM5]; exact hF0.wr19
    have h2 : M5 (19, p, 2) v = pgC M p 2 v := congrFun (congrFun hS5 2) v
    have h3 : M5 (19, p, 3) v = pgC M p 3 v := congrFun (congrFun hS5 3) v
    refine go_aload_n dX3_settle_24 rfl rfl ?_
    refine g3_30 dX3_settle_25 ?_
    refine go_iload_n dX3_settle_28 rfl ?_
    refine go_aload_n dX3_settle_29 rfl rfl ?_
    refine g3_18 dX3_settle_30 ?_
    refine go_iload_n dX3_settle_33 rfl ?_
    refine go_iald dX3_settle_34 rfl (by omega) (by omega) ?_
    refine v3_69 dX3_settle_35 rfl ⟨rfl, rfl⟩ ⟨rfl, rfl⟩ ct_J9_abs_0f7a4 (fun r2 M2 N2 hr2 hq2 => ?_)
    obtain ⟨e2, rfl, rfl⟩ := hq2
    refine go_aload_n dX3_settle_38 rfl rfl ?_
    refine g3_21 dX3_settle_39 ?_
    refine go_iload_n dX3_settle_42 rfl ?_
    refine go_iald dX3_settle_43 rfl (by omega) (by omega) ?_
    refine v3_69 dX3_settle_44 rfl ⟨rfl, rfl⟩ ⟨rfl, rfl⟩ ct_J9_abs_0f7a4 (fun r3 M3 N3 hr3 hq3 => ?_)
    obtain ⟨e3, rfl, rfl⟩ := hq3
    refine v3_75 dX3_settle_47 rfl ⟨rfl, rfl⟩ ⟨rfl, rfl⟩ ct_J9_max_7cf53 (fun r4 M4 N4 hr4 hq4 => ?_)
    obtain ⟨e4, rfl, rfl⟩ := hq4
    have hwt : r4 = wtS (pgC M p) v := by
      rw [e4, e2, e3, h2, h3]
      unfold wtS
      rw [if_pos hsi]
      have a1 : ∀ x : Int, -1000 ≤ x → x ≤ 1000 → (if x < 0 then w32 (-x) else x) = max x (-x) := by
        intro x x0 x1
        by_cases hx : x < 0
        · rw [if_pos hx, w32_id ⟨by omega, by omega⟩]; omega
        · rw [if_neg hx]; omega
      rw [a1 _ hb.1 hb.2.1, a1 _ hb.2.2.1 hb.2.2.2]
    have hwb : r4 ≤ 1000000 := by
      rw [hwt]
      unfold wtS
      rw [if_pos hsi]
      omega
    rw [hwt]
    rw [hwt] at hwb
    refine go_i2l dX3_settle_50 ?_
    refine go_last dX3_settle_51 rfl (by omega) (by omega) ?_
    refine go_iconst dX3_settle_52 (R32_lit rfl) ?_
    refine go_retz dX3_settle_53 (by first | exact Or.inl rfl | exact Or.inr rfl | omega) ?_
    refine ⟨by rw [if_neg (by omega)], ?_, hF5.wr19, rfl⟩
    rw [pgC_wr (by decide) (by decide), hS5]
    unfold stS ndS fiS
    rw [if_pos hsi, if_pos hsi]
