/-- the first ones settled, one behind another -/
def stA (S : Pg) : Nat → Pg
  | 0 => S
  | k + 1 => stS (stA S k) k
def fiT (S : Pg) (v : Int) : Int := fiS (stA S v.toNat) v
def wtT (S : Pg) (v : Int) : Int := wtS (stA S v.toNat) v
def ndT (S : Pg) (v : Int) : Int := ndS (stA S v.toNat) v
/-- a program's raw rows are fit -/
def RW (S : Pg) : Prop := 0 ≤ S 11 0 ∧ S 11 0 ≤ 15 ∧ ∀ v, 0 ≤ v → v < S 11 0 → (S 0 v = -2 → -1000 ≤ S 2 v ∧ S 2 v ≤ 1000 ∧ -1000 ≤ S 3 v ∧ S 3 v ≤ 1000) ∧ (S 0 v ≠ -2 → (∀ k, 0 ≤ k → k < opn S v → (0 ≤ S 8 (4 * v + k) → S 8 (4 * v + k) < v) ∧ (S 8 (4 * v + k) < 0 → -1000 ≤ S 9 (4 * v + k) ∧ S 9 (4 * v + k) ≤ 1000)) ∧ 0 ≤ S 4 v ∧ S 4 v ≤ 8)
def okW (S : Pg) : Prop := ∀ v, 0 ≤ v → v < S 11 0 → wtT S v ≤ 1000000
theorem stS_raw {S : Pg} {v : Int} {f : Nat} (h5 : f ≠ 5) (h6 : f ≠ 6) (h7 : f ≠ 7) : stS S v f = S f := by
  unfold stS
  rw [pst_ne h6, pst_ne h5, pst_ne h7]
theorem stA_raw {S : Pg} {f : Nat} (h5 : f ≠ 5) (h6 : f ≠ 6) (h7 : f ≠ 7) : ∀ k : Nat, stA S k f = S f
  | 0 => rfl
  | k + 1 => (stS_raw h5 h6 h7).trans (stA_raw h5 h6 h7 k)
theorem stS_ne {S : Pg} {v w : Int} {f : Nat} (h : w ≠ v) : stS S v f w = S f w := by
  unfold stS pst
  rw [if_neg (fun q => h q.2), if_neg (fun q => h q.2), if_neg (fun q => h q.2)]
theorem stA_hi {S : Pg} {f : Nat} : ∀ (k : Nat) (w : Int), (k : Int) ≤ w → stA S k f w = S f w
  | 0, _, _ => rfl
  | k + 1, w, h => (stS_ne (by omega)).trans (stA_hi k w (by omega))
theorem stA_lo5 {S : Pg} : ∀ (k : Nat) (w : Int), 0 ≤ w → w < k → stA S k 5 w = fiT S w
  | 0, w, h0, h1 => absurd h1 (by omega)
  | k + 1, w, h0, h1 => by
    by_cases e : w = k
    · subst e
      show pst _ 5 k _ 5 k = _
      exact if_pos ⟨rfl, rfl⟩
    · exact (stS_ne e).trans (stA_lo5 k w h0 (by omega))
theorem stA_lo6 {S : Pg} : ∀ (k : Nat) (w : Int), 0 ≤ w → w < k → stA S k 6 w = wtT S w
  | 0, w, h0, h1 => absurd h1 (by omega)
  | k + 1, w, h0, h1 => by
    by_cases e : w = k
    · subst e
      show pst _ 6 k _ 6 k = _
      exact if_pos ⟨rfl, rfl⟩
    · exact (stS_ne e).trans (stA_lo6 k w h0 (by omega))
theorem stA_lo7 {S : Pg} : ∀ (k : Nat) (w : Int), 0 ≤ w → w < k → stA S k 7 w = ndT S w
  | 0, w, h0, h1 => absurd h1 (by omega)
  | k + 1, w, h0, h1 => by
    by_cases e : w = k
    · subst e
      show pst _ 7 k _ 7 k = _
      exact if_pos ⟨rfl, rfl⟩
    · exact (stS_ne e).trans (stA_lo7 k w h0 (by omega))
theorem RW.sv {S : Pg} (h : RW S) : ∀ (k : Nat), (k : Int) < S 11 0 → (∀ w : Int, 0 ≤ w → w < k → wtT S w ≤ 1000000) → Sv (stA S k) k ∧ 0 ≤ fiT S k ∧ fiT S k ≤ 8 ∧ 0 ≤ wtT S k := by
  intro k
  induction k using Nat.strongRecOn with
  | ind k ih =>
  intro hk hw
  have e0 : stA S k 0 = S 0 := stA_raw (by decide) (by decide) (by decide) k
  have e2 : stA S k 2 = S 2 := stA_raw (by decide) (by decide) (by decide) k
  have e3 : stA S k 3 = S 3 := stA_raw (by decide) (by decide) (by decide) k
  have e4 : stA S k 4 = S 4 := stA_raw (by decide) (by decide) (by decide) k
  have e8 : stA S k 8 = S 8 := stA_raw (by decide) (by decide) (by decide) k
  have e9 : stA S k 9 = S 9 := stA_raw (by decide) (by decide) (by decide) k
  have e11 : stA S k 11 = S 11 := stA_raw (by decide) (by decide) (by decide) k
  obtain ⟨h1, h2⟩ := h.2.2 k (by omega) hk
  have eo : opn (stA S k) k = opn S k := by unfold opn; rw [e0]
  have hsv : Sv (stA S k) k := by
    refine ⟨by omega, by rw [e11]; exact hk, by rw [e11]; exact h.2.1, by rw [e0, e2, e3]; exact h1, fun q => ?_⟩
    rw [e0] at q
    obtain ⟨h3, h4⟩ := h2 q
    refine ⟨fun j j0 j1 => ?_, by rw [e4]; exact h4⟩
    rw [eo] at j1
    obtain ⟨h5, h6⟩ := h3 j j0 j1
    refine ⟨fun q0 => ?_, by rw [e8, e9]; exact h6⟩
    rw [e8] at q0 ⊢
    have h7 := h5 q0
    have h8 := ih (S 8 (4 * (k : Int) + j)).toNat (by omega) (by omega) (fun w w0 w1 => hw w w0 (by omega))
    rw [Int.toNat_of_nonneg q0] at h8
    rw [stA_lo5 k _ q0 h7, stA_lo6 k _ q0 h7]
    exact ⟨h7, h8.2.1, h8.2.2.1, h8.2.2.2, hw _ q0 h7⟩
  refine ⟨hsv, ?_⟩
  have et : ((k : Int)).toNat = k := Int.toNat_natCast k
  unfold fiT wtT
  rw [et]
  unfold fiS wtS
  by_cases q : stA S k 0 k = -2
  · rw [if_pos q, if_pos q]
    have := hsv.2.2.2.1 q
    omega
  · rw [if_neg q, if_neg q]
    have h3 := hsv.2.2.2.2 q
    have b1 := rfS_bd h3.1
    have b2 := rwS_bd h3.1
    have b3 := p2_bd h3.2.1 h3.2.2
    omega
set_option maxRecDepth 100000 in
set_option maxHeartbeats 4000000 in
theorem lp_X3_settleAll {E : Ev} {M : Mm} {N : Nn} {p : Nat} (hv : RW (pgC M p)) : ∀ (n : Nat) (i : Int) (M' : Mm), (i + n = pgC M p 11 0) → (0 ≤ i) → (Pf p M M') → (pgC M' p = stA (pgC M p) i.toNat) → (∀ w, 0 ≤ w → w < i → wtT (pgC M p) w ≤ 1000000) → Go E RX3 cX3_settleAll 2 ((some .boolean)) (rmH 5) 0 0 (zM E (qi (fun r M1 N1 => ((r = 1 ∧ okW (pgC M p) ∧ pgC M1 p = stA (pgC M p) (pgC M p 11 0).toNat) ∨ (r = 0 ∧ ¬ okW (pgC M p))) ∧ Pf p M M1 ∧ N = N1))) 2 [vr (18, p, 0), vi i] [] M' N := by
  intro n
  induction n using Nat.strongRecOn with
  | ind n ih =>
  intro i M' hn h0 hF hS hW
  have hn0 := hv.1
  have hn1 := hv.2.1
  have h11 : M' (18, p, 0) 11 = pgC M p 11 0 := (congrFun (congrFun hS 11) 0).trans (congrFun (stA_raw (by decide) (by decide) (by decide) i.toNat) 0)
  refine go_iload_n dX3_settleAll_2 rfl ?_
  refine go_aload_n dX3_settleAll_3 rfl rfl ?_
  refine g3_52 dX3_settleAll_4 ?_
  rw [h11]
  refine go_icmp_ge (tgt := 26) dX3_settleAll_7 rfl (fun h7 => ?_) (fun h7 => ?_)
  · refine go_iconst dX3_settleAll_26 (R32_lit rfl) ?_
    exact go_retz dX3_settleAll_27 (by first | exact Or.inl rfl | exact Or.inr rfl | omega) ⟨Or.inl ⟨rfl, fun w w0 w1 => hW w w0 (by omega), by rw [hS, show i = pgC M p 11 0 by omega]⟩, hF, rfl⟩
  · have hit : ((i.toNat : Nat) : Int) = i := Int.toNat_of_nonneg h0
    have hsv := hv.sv i.toNat (by omega) (fun w w0 w1 => hW w w0 (by omega))
    rw [hit] at hsv
    have hsv1 : Sv (pgC M' p) i := by rw [hS]; exact hsv.1
    refine go_aload_n dX3_settleAll_10 rfl rfl ?_
    refine go_iload_n dX3_settleAll_11 rfl ?_
    refine v3_63 dX3_settleAll_12 rfl ⟨rfl, rfl⟩ ⟨rfl, rfl⟩ (ct_X3_settle hsv1) (fun r1 M1 N1 hr1 hq1 => ?_)
    obtain ⟨er, hS1, hF1, rfl⟩ := hq1
    rw [hS] at er hS1
    have er : r1 = (if 1000000 < wtT (pgC M p) i then 0 else 1) := er
    have hS2 : pgC M1 p = stA (pgC M p) (i + 1).toNat := by
      rw [hS1, show (i + 1).toNat = i.toNat + 1 by omega]
      show _ = stS _ ((i.toNat : Nat) : Int)
      rw [hit]
    refine go_if_ne (tgt := 20) dX3_settleAll_15 rfl (fun h15 => ?_) (fun h15 => ?_)
    · refine go_iinc1c dX3_settleAll_20 rfl rfl ⟨by omega, by omega⟩ ?_
      refine go_goto (tgt := 2) dX3_settleAll_23 rfl ?_
      exact ih (n - 1) (by omega) (i + 1) _ (by omega) (by omega) (hF.tr hF1) hS2 (fun w w0 w1 => by
        by_cases e : w = i
        · subst e
          rcases Classical.em (1000000 < wtT (pgC M p) w) with q | q
          · rw [if_pos q] at er; omega
          · omega
        · exact hW w w0 (by omega))
    · refine go_iconst dX3_settleAll_18 (R32_lit rfl) ?_
      refine go_retz dX3_settleAll_19 (by first | exact Or.inl rfl | exact Or.inr rfl | omega) ?_
      refine ⟨Or.inr ⟨rfl, fun q => ?_⟩, hF.tr hF1, rfl⟩
      have := q i h0 (by omega)
      rw [if_neg (by omega)] at er
      omega
set_option maxRecDepth 100000 in
set_option maxHeartbeats 4000000 in
theorem ct_X3_settleAll {E : Ev} {M : Mm} {N : Nn} {p : Nat} (hv : RW (pgC M p)) : Ct E yX3_settleAll cX3_settleAll 2 ((some .boolean)) (rmH 5) [vr (18, p, 0)] M N (qi (fun r M1 N1 => ((r = 1 ∧ okW (pgC M p) ∧ pgC M1 p = stA (pgC M p) (pgC M p 11 0).toNat) ∨ (r = 0 ∧ ¬ okW (pgC M p))) ∧ Pf p M M1 ∧ N = N1)) := by
  refine ct_of (own := RX3) (L0 := [vr (18, p, 0), vn]) rfl (by decide +kernel) rfl rfl ?_
  refine go_iconst dX3_settleAll_0 (R32_lit rfl) ?_
  refine go_ist1 dX3_settleAll_1 rfl rfl ?_
  exact lp_X3_settleAll hv (pgC M p 11 0).toNat 0 M (by have := hv.1; omega) (by omega) Pf.rf rfl (fun w w0 w1 => absurd w1 (by omega))
