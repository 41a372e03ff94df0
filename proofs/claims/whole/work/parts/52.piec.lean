/-- the pieces: from, to, bounds, how many made, how many splits, what is asked -/
abbrev Pc : Type := (Int → Int) × (Int → Int) × (Int → Int) × Int × Int × Int
def PcM (M : Mm) (c : Pc) : Prop := M (20, 0, 0) = c.1 ∧ M (21, 0, 0) = c.2.1 ∧ M (22, 0, 0) = c.2.2.1 ∧ M (17, 0, 0) 5 = c.2.2.2.1 ∧ M (17, 0, 0) 6 = c.2.2.2.2.1 ∧ M (17, 0, 0) 7 = c.2.2.2.2.2
/-- what the pieces touch -/
def PcN (n : Nm) : Prop := n = (17, 0, 0) ∨ n = (18, 0, 0) ∨ (n.1 = 19 ∧ n.2.1 = 0) ∨ n = (20, 0, 0) ∨ n = (21, 0, 0) ∨ n = (22, 0, 0) ∨ (n.2.1 = 1 ∧ 7 ≤ n.1 ∧ n.1 ≤ 16)
def Kf (M M1 : Mm) : Prop := ∀ n : Nm, ¬ PcN n → M1 n = M n
theorem Kf.rf {M : Mm} : Kf M M := fun _ _ => rfl
theorem Kf.tr {M M1 M2 : Mm} (h : Kf M M1) (h2 : Kf M1 M2) : Kf M M2 := fun n a => (h2 n a).trans (h n a)
theorem Kf.wr {M M1 : Mm} {n : Nm} {i x : Int} (h : Kf M M1) (hn : PcN n) : Kf M (wr M1 n i x) := fun m a => by
  rw [← h m a]; funext k; exact wr_nn (fun e => a (e ▸ hn))
theorem Kf.pg {p : Nat} {M M1 : Mm} (h : Kf M M1) (hp : p ≠ 0) : pgC M1 p = pgC M p := by
  have e : ∀ k, ¬ PcN (18, p, k) := fun k => by
    unfold PcN
    rintro (q | q | q | q | q | q | q)
    · exact absurd q (nm_ne1 (by decide))
    · exact absurd q (nm_ne2 hp)
    · exact absurd q.1 (by show ¬ 18 = 19; decide)
    · exact absurd q (nm_ne1 (by decide))
    · exact absurd q (nm_ne1 (by decide))
    · exact absurd q (nm_ne1 (by decide))
    · exact absurd q.2.2 (by show ¬ 18 ≤ 16; decide)
  have e2 : ∀ k, ¬ PcN (19, p, k) := fun k => by
    unfold PcN
    rintro (q | q | q | q | q | q | q)
    · exact absurd q (nm_ne1 (by decide))
    · exact absurd q (nm_ne1 (by decide))
    · exact hp q.2
    · exact absurd q (nm_ne1 (by decide))
    · exact absurd q (nm_ne1 (by decide))
    · exact absurd q (nm_ne1 (by decide))
    · exact absurd q.2.2 (by show ¬ 19 ≤ 16; decide)
  funext k i
  unfold pgC
  rw [h (18, p, 0) (e 0), h (19, p, k) (e2 k)]
theorem PcN.of17 : PcN (17, 0, 0) := Or.inl rfl
theorem PcN.of19 {k : Nat} : PcN (19, 0, k) := Or.inr (Or.inr (Or.inl ⟨rfl, rfl⟩))
theorem PcN.of20 : PcN (20, 0, 0) := Or.inr (Or.inr (Or.inr (Or.inl rfl)))
theorem PcN.of21 : PcN (21, 0, 0) := Or.inr (Or.inr (Or.inr (Or.inr (Or.inl rfl))))
theorem PcN.of22 : PcN (22, 0, 0) := Or.inr (Or.inr (Or.inr (Or.inr (Or.inr (Or.inl rfl)))))
theorem Kf.of_ff {M M1 : Mm} (h : Ff 1 M M1) : Kf M M1 := fun n a => h n (fun q => a (Or.inr (Or.inr (Or.inr (Or.inr (Or.inr (Or.inr ⟨q.1, q.2.1, q.2.2⟩)))))))
theorem Kf.of_pf {M M1 : Mm} (h : Pf 0 M M1) : Kf M M1 := fun n a => h n (fun q => a (Or.inr (Or.inl q))) (fun q => a (Or.inr (Or.inr (Or.inl q))))
theorem FS.fr {M M1 : Mm} {f : Nat} {φ : Nat → FV} {ν : Nu} {ma : Int → Int} (h : FS M f φ ν ma) (hf : ∀ a b : Nat, 7 ≤ a → a ≤ 16 → M1 (a, f, b) = M (a, f, b)) : FS M1 f φ ν ma := by
  obtain ⟨h1, h2, h3, h4, h5, h6, h7⟩ := h
  refine ⟨h1.keep (fun j => hf 15 j (by decide) (by decide)) (fun j => hf 16 j (by decide) (by decide)), ?_, h3, h4, ?_, ?_, h7⟩
  · rw [hf 7 0 (by decide) (by decide)]; exact h2
  · rw [hf 9 0 (by decide) (by decide), hf 10 0 (by decide) (by decide)]; exact h5
  · rw [hf 8 0 (by decide) (by decide)]; exact h6
def upI (g : Int → Int) (k x : Int) : Int → Int := fun j => if j = k then x else g j
def cpR (g : Int → Int) (a b : Int) : Int → Int := fun j => if b ≤ j ∧ j < b + 3 then g (a + (j - b)) else g j
/-- the worst of the first pieces -/
def wpS (bd : Int → Int) : Nat → Int
  | 0 => 0
  | n + 1 => if bd (wpS bd n) < bd n then n else wpS bd n
theorem wpS_bd (bd : Int → Int) : ∀ n : Nat, 0 ≤ wpS bd n ∧ (wpS bd n < n ∨ wpS bd n = 0)
  | 0 => ⟨Int.le_refl 0, Or.inr rfl⟩
  | n + 1 => by
    have ih := wpS_bd bd n
    show 0 ≤ (if bd (wpS bd n) < bd n then (n : Int) else wpS bd n) ∧ ((if bd (wpS bd n) < bd n then (n : Int) else wpS bd n) < ((n + 1 : Nat) : Int) ∨ _ = (0 : Int))
    split <;> omega
/-- the widest of the first inputs of a piece -/
def wdS (lo hi : Int → Int) (b : Int) : Nat → Int × Int
  | 0 => (-1, 0)
  | i + 1 => if (wdS lo hi b i).2 < hi (b + i) - lo (b + i) ∧ (hi (b + i) - lo (b + i)).tmod 4 = 0 then (i, hi (b + i) - lo (b + i)) else wdS lo hi b i
theorem wdS_bd (lo hi : Int → Int) (b : Int) : ∀ i : Nat, -1 ≤ (wdS lo hi b i).1 ∧ (wdS lo hi b i).1 < i
  | 0 => by show (-1 : Int) ≤ -1 ∧ (-1 : Int) < 0; decide
  | i + 1 => by
    have ih := wdS_bd lo hi b i
    show -1 ≤ (if (wdS lo hi b i).2 < hi (b + i) - lo (b + i) ∧ (hi (b + i) - lo (b + i)).tmod 4 = 0 then ((i : Int), hi (b + i) - lo (b + i)) else wdS lo hi b i).1 ∧ (if (wdS lo hi b i).2 < hi (b + i) - lo (b + i) ∧ (hi (b + i) - lo (b + i)).tmod 4 = 0 then ((i : Int), hi (b + i) - lo (b + i)) else wdS lo hi b i).1 < ((i + 1 : Nat) : Int)
    split
    · show -1 ≤ (i : Int) ∧ (i : Int) < ((i + 1 : Nat) : Int); omega
    · omega
set_option maxRecDepth 100000 in
set_option maxHeartbeats 4000000 in
theorem ct_X2_living {E : Ev} {M : Mm} {N : Nn}  (h0 : 0 ≤ M (17, 0, 0) 6) (h1 : M (17, 0, 0) 6 ≤ 100) : Ct E yX2_living cX2_living 1 ((some .int)) (rmH 1) [vr (17, 0, 0)] M N (qi (fun r M1 N1 => r = 1 + M (17, 0, 0) 6 ∧ M = M1 ∧ N = N1)) := by
  refine ct_of (own := RX2) (L0 := [vr (17, 0, 0)]) rfl (by decide +kernel) rfl rfl ?_
  refine go_iconst dX2_living_0 (R32_lit rfl) ?_
  refine go_aload_n dX2_living_1 rfl rfl ?_
  refine g2_47 dX2_living_2 ?_
  refine go_iaddc dX2_living_5 ⟨by omega, by omega⟩ ?_
  exact go_reti dX2_living_6 ⟨rfl, rfl, rfl⟩
set_option maxRecDepth 100000 in
set_option maxHeartbeats 4000000 in
theorem lp_X2_worstPiece {E : Ev} {M : Mm} {N : Nn}  (h0 : 0 ≤ M (17, 0, 0) 5) (h1 : M (17, 0, 0) 5 ≤ 81) : ∀ (n : Nat) (i : Int), (i + n = M (17, 0, 0) 5) → (1 ≤ i) → Go E RX2 cX2_worstPiece 3 ((some .int)) (rmH 1) 0 0 (zM E (qi (fun r M1 N1 => r = wpS (M (22, 0, 0)) (M (17, 0, 0) 5).toNat ∧ M = M1 ∧ N = N1))) 4 [vr (17, 0, 0), vi (wpS (M (22, 0, 0)) i.toNat), vi i] [] M N := by
  intro n
  induction n using Nat.strongRecOn with
  | ind n ih =>
  intro i hn hi
  have hwb := wpS_bd (M (22, 0, 0)) i.toNat
  refine go_iload_n dX2_worstPiece_4 rfl ?_
  refine go_aload_n dX2_worstPiece_5 rfl rfl ?_
  refine g2_44 dX2_worstPiece_6 ?_
  refine go_icmp_ge (tgt := 36) dX2_worstPiece_9 rfl (fun h9 => ?_) (fun h9 => ?_)
  · refine go_iload_n dX2_worstPiece_36 rfl ?_
    exact go_reti dX2_worstPiece_37 ⟨by rw [show i = M (17, 0, 0) 5 by omega], rfl, rfl⟩
  · refine go_aload_n dX2_worstPiece_12 rfl rfl ?_
    refine g2_32 dX2_worstPiece_13 ?_
    refine go_iload_n dX2_worstPiece_16 rfl ?_
    refine go_lald dX2_worstPiece_17 rfl (by omega) (by omega) ?_
    refine go_aload_n dX2_worstPiece_18 rfl rfl ?_
    refine g2_32 dX2_worstPiece_19 ?_
    refine go_iload_n dX2_worstPiece_22 rfl ?_
    refine go_lald dX2_worstPiece_23 rfl (by omega) (by omega) ?_
    refine go_lcmp_le (tgt := 30) dX2_worstPiece_24 dX2_worstPiece_25 rfl (fun h24 => ?_) (fun h24 => ?_)
    · refine go_iinc2c dX2_worstPiece_30 rfl rfl ⟨by omega, by omega⟩ ?_
      refine go_goto (tgt := 4) dX2_worstPiece_33 rfl ?_
      have hit : ((i.toNat : Nat) : Int) = i := Int.toNat_of_nonneg (by omega)
      have e : wpS (M (22, 0, 0)) (i + 1).toNat = if M (22, 0, 0) (wpS (M (22, 0, 0)) i.toNat) < M (22, 0, 0) i then i else wpS (M (22, 0, 0)) i.toNat := by
        rw [show (i + 1).toNat = i.toNat + 1 by omega]
        show (if _ < M (22, 0, 0) ((i.toNat : Nat) : Int) then ((i.toNat : Nat) : Int) else _) = _
        rw [hit]
      first
      | (rw [if_neg (by omega)] at e
         have h := ih (n - 1) (by omega) (i + 1) (by omega) (by omega)
         rw [e] at h
         exact h)
      | (rw [if_pos (by omega)] at e
         have h := ih (n - 1) (by omega) (i + 1) (by omega) (by omega)
         rw [e] at h
         exact h)
    · refine go_iload_n dX2_worstPiece_28 rfl ?_
      refine go_ist1 dX2_worstPiece_29 rfl rfl ?_
      refine go_iinc2c dX2_worstPiece_30 rfl rfl ⟨by omega, by omega⟩ ?_
      refine go_goto (tgt := 4) dX2_worstPiece_33 rfl ?_
      have hit : ((i.toNat : Nat) : Int) = i := Int.toNat_of_nonneg (by omega)
      have e : wpS (M (22, 0, 0)) (i + 1).toNat = if M (22, 0, 0) (wpS (M (22, 0, 0)) i.toNat) < M (22, 0, 0) i then i else wpS (M (22, 0, 0)) i.toNat := by
        rw [show (i + 1).toNat = i.toNat + 1 by omega]
        show (if _ < M (22, 0, 0) ((i.toNat : Nat) : Int) then ((i.toNat : Nat) : Int) else _) = _
        rw [hit]
      first
      | (rw [if_neg (by omega)] at e
         have h := ih (n - 1) (by omega) (i + 1) (by omega) (by omega)
         rw [e] at h
         exact h)
      | (rw [if_pos (by omega)] at e
         have h := ih (n - 1) (by omega) (i + 1) (by omega) (by omega)
         rw [e] at h
         exact h)
set_option maxRecDepth 100000 in
set_option maxHeartbeats 4000000 in
theorem ct_X2_worstPiece {E : Ev} {M : Mm} {N : Nn}  (h0 : 1 ≤ M (17, 0, 0) 5) (h1 : M (17, 0, 0) 5 ≤ 81) : Ct E yX2_worstPiece cX2_worstPiece 3 ((some .int)) (rmH 1) [vr (17, 0, 0)] M N (qi (fun r M1 N1 => r = wpS (M (22, 0, 0)) (M (17, 0, 0) 5).toNat ∧ M = M1 ∧ N = N1)) := by
  refine ct_of (own := RX2) (L0 := [vr (17, 0, 0), vn, vn]) rfl (by decide +kernel) rfl rfl ?_
  refine go_iconst dX2_worstPiece_0 (R32_lit rfl) ?_
  refine go_ist1 dX2_worstPiece_1 rfl rfl ?_
  refine go_iconst dX2_worstPiece_2 (R32_lit rfl) ?_
  refine go_ist2 dX2_worstPiece_3 rfl rfl ?_
  have e1 : wpS (M (22, 0, 0)) (1 : Int).toNat = 0 := by
    show (if M (22, 0, 0) 0 < M (22, 0, 0) ((0 : Nat) : Int) then (((0 : Nat) : Int)) else 0) = 0
    split <;> rfl
  have h := lp_X2_worstPiece (E := E) (N := N) (by omega) h1 (M (17, 0, 0) 5 - 1).toNat 1 (by omega) (by omega)
  rw [e1] at h
  exact h
set_option maxRecDepth 100000 in
set_option maxHeartbeats 4000000 in
theorem ct_X2_greatestBound {E : Ev} {M : Mm} {N : Nn}  (h0 : 1 ≤ M (17, 0, 0) 5) (h1 : M (17, 0, 0) 5 ≤ 81) : Ct E yX2_greatestBound cX2_greatestBound 1 ((some .long)) (rmH 2) [vr (17, 0, 0)] M N (ql (fun r M1 N1 => r = M (22, 0, 0) (wpS (M (22, 0, 0)) (M (17, 0, 0) 5).toNat) ∧ M = M1 ∧ N = N1)) := by
  refine ct_of (own := RX2) (L0 := [vr (17, 0, 0)]) rfl (by decide +kernel) rfl rfl ?_
  refine go_aload_n dX2_greatestBound_0 rfl rfl ?_
  refine g2_32 dX2_greatestBound_1 ?_
  refine go_aload_n dX2_greatestBound_4 rfl rfl ?_
  refine v2_61 dX2_greatestBound_5 rfl ⟨rfl, rfl⟩ ⟨rfl, rfl⟩ (ct_X2_worstPiece h0 h1) (fun r1 M1 N1 hr1 hq1 => ?_)
  obtain ⟨rfl, rfl, rfl⟩ := hq1
  have hwb := wpS_bd (M (22, 0, 0)) (M (17, 0, 0) 5).toNat
  refine go_lald dX2_greatestBound_8 rfl (by omega) (by omega) ?_
  exact go_retl dX2_greatestBound_9 ⟨rfl, rfl, rfl⟩
set_option maxRecDepth 100000 in
set_option maxHeartbeats 4000000 in
theorem lp_X2_widestInput {E : Ev} {M : Mm} {N : Nn} {q : Int} (q0 : 0 ≤ q) (q1 : q < 81) (n0 : 0 ≤ M (18, 0, 0) 12) (n1 : M (18, 0, 0) 12 ≤ 3) (hb : ∀ i, 0 ≤ i → i < M (18, 0, 0) 12 → -1000 ≤ M (20, 0, 0) (q * 3 + i) ∧ M (20, 0, 0) (q * 3 + i) ≤ M (21, 0, 0) (q * 3 + i) ∧ M (21, 0, 0) (q * 3 + i) ≤ 1000) : ∀ (n : Nat) (i : Int) (x5 : Vv), (i + n = M (18, 0, 0) 12) → (0 ≤ i) → Go E RX2 cX2_widestInput 6 ((some .int)) (rmH 1) 0 0 (zM E (qi (fun r M1 N1 => r = (wdS (M (20, 0, 0)) (M (21, 0, 0)) (q * 3) (M (18, 0, 0) 12).toNat).1 ∧ M = M1 ∧ N = N1))) 7 [vr (17, 0, 0), vi q, vi (wdS (M (20, 0, 0)) (M (21, 0, 0)) (q * 3) i.toNat).1, vi (wdS (M (20, 0, 0)) (M (21, 0, 0)) (q * 3) i.toNat).2, vi i, x5] [] M N := by
  intro n
  induction n using Nat.strongRecOn with
  | ind n ih =>
  intro i x5 hn hi
  have hbi := fun z => hb i hi z
  have e : (wdS (M (20, 0, 0)) (M (21, 0, 0)) (q * 3) (i + 1).toNat) = if (wdS (M (20, 0, 0)) (M (21, 0, 0)) (q * 3) i.toNat).2 < M (21, 0, 0) (q * 3 + i) - M (20, 0, 0) (q * 3 + i) ∧ (M (21, 0, 0) (q * 3 + i) - M (20, 0, 0) (q * 3 + i)).tmod 4 = 0 then (i, M (21, 0, 0) (q * 3 + i) - M (20, 0, 0) (q * 3 + i)) else (wdS (M (20, 0, 0)) (M (21, 0, 0)) (q * 3) i.toNat) := by
    rw [show (i + 1).toNat = i.toNat + 1 by omega]
    show (if (wdS (M (20, 0, 0)) (M (21, 0, 0)) (q * 3) i.toNat).2 < M (21, 0, 0) (q * 3 + ((i.toNat : Nat) : Int)) - M (20, 0, 0) (q * 3 + ((i.toNat : Nat) : Int)) ∧ (M (21, 0, 0) (q * 3 + ((i.toNat : Nat) : Int)) - M (20, 0, 0) (q * 3 + ((i.toNat : Nat) : Int))).tmod 4 = 0 then (((i.toNat : Nat) : Int), M (21, 0, 0) (q * 3 + ((i.toNat : Nat) : Int)) - M (20, 0, 0) (q * 3 + ((i.toNat : Nat) : Int))) else (wdS (M (20, 0, 0)) (M (21, 0, 0)) (q * 3) i.toNat)) = _
    rw [Int.toNat_of_nonneg hi]
  refine go_iload dX2_widestInput_7 rfl ?_
  refine go_aload_n dX2_widestInput_9 rfl rfl ?_
  refine g2_21 dX2_widestInput_10 ?_
  refine g2_50 dX2_widestInput_13 ?_
  refine go_icmp_ge (tgt := 69) dX2_widestInput_16 rfl (fun h16 => ?_) (fun h16 => ?_)
  · refine go_iload_n dX2_widestInput_69 rfl ?_
    exact go_reti dX2_widestInput_70 ⟨by rw [show i = M (18, 0, 0) 12 by omega], rfl, rfl⟩
  · have hbi := hbi (by omega)
    refine go_aload_n dX2_widestInput_19 rfl rfl ?_
    refine g2_29 dX2_widestInput_20 ?_
    refine go_iload_n dX2_widestInput_23 rfl ?_
    refine go_iconst dX2_widestInput_24 (R32_lit rfl) ?_
    refine go_imulc dX2_widestInput_25 ⟨by omega, by omega⟩ ?_
    refine go_iload dX2_widestInput_26 rfl ?_
    refine go_iaddc dX2_widestInput_28 ⟨by omega, by omega⟩ ?_
    refine go_iald dX2_widestInput_29 rfl (by omega) (by omega) ?_
    refine go_aload_n dX2_widestInput_30 rfl rfl ?_
    refine g2_25 dX2_widestInput_31 ?_
    refine go_iload_n dX2_widestInput_34 rfl ?_
    refine go_iconst dX2_widestInput_35 (R32_lit rfl) ?_
    refine go_imulc dX2_widestInput_36 ⟨by omega, by omega⟩ ?_
    refine go_iload dX2_widestInput_37 rfl ?_
    refine go_iaddc dX2_widestInput_39 ⟨by omega, by omega⟩ ?_
    refine go_iald dX2_widestInput_40 rfl (by omega) (by omega) ?_
    refine go_isubc dX2_widestInput_41 ⟨by omega, by omega⟩ ?_
    refine go_ist5 dX2_widestInput_42 rfl rfl ?_
    refine go_iload dX2_widestInput_44 rfl ?_
    refine go_iload_n dX2_widestInput_46 rfl ?_
    refine go_icmp_le (tgt := 63) dX2_widestInput_47 rfl (fun h47 => ?_) (fun h47 => ?_)
    · refine go_iinc4c dX2_widestInput_63 rfl rfl ⟨by omega, by omega⟩ ?_
      refine go_goto (tgt := 7) dX2_widestInput_66 rfl ?_
      first
      | (rw [if_neg (by omega)] at e
         have h := fun x => ih (n - 1) (by omega) (i + 1) x (by omega) (by omega)
         rw [e] at h
         exact h _)
      | (rw [if_pos (by omega)] at e
         have h := fun x => ih (n - 1) (by omega) (i + 1) x (by omega) (by omega)
         rw [e] at h
         exact h _)
    · refine go_iload dX2_widestInput_50 rfl ?_
      refine go_iconst dX2_widestInput_52 (R32_lit rfl) ?_
      refine go_irem dX2_widestInput_53 (by decide) ?_
      refine go_if_ne (tgt := 63) dX2_widestInput_54 rfl (fun h54 => ?_) (fun h54 => ?_)
      · refine go_iinc4c dX2_widestInput_63 rfl rfl ⟨by omega, by omega⟩ ?_
        refine go_goto (tgt := 7) dX2_widestInput_66 rfl ?_
        first
        | (rw [if_neg (by omega)] at e
           have h := fun x => ih (n - 1) (by omega) (i + 1) x (by omega) (by omega)
           rw [e] at h
           exact h _)
        | (rw [if_pos (by omega)] at e
           have h := fun x => ih (n - 1) (by omega) (i + 1) x (by omega) (by omega)
           rw [e] at h
           exact h _)
      · refine go_iload dX2_widestInput_57 rfl ?_
        refine go_ist2 dX2_widestInput_59 rfl rfl ?_
        refine go_iload dX2_widestInput_60 rfl ?_
        refine go_ist3 dX2_widestInput_62 rfl rfl ?_
        refine go_iinc4c dX2_widestInput_63 rfl rfl ⟨by omega, by omega⟩ ?_
        refine go_goto (tgt := 7) dX2_widestInput_66 rfl ?_
        first
        | (rw [if_neg (by omega)] at e
           have h := fun x => ih (n - 1) (by omega) (i + 1) x (by omega) (by omega)
           rw [e] at h
           exact h _)
        | (rw [if_pos (by omega)] at e
           have h := fun x => ih (n - 1) (by omega) (i + 1) x (by omega) (by omega)
           rw [e] at h
           exact h _)
set_option maxRecDepth 100000 in
set_option maxHeartbeats 4000000 in
theorem ct_X2_widestInput {E : Ev} {M : Mm} {N : Nn} {q : Int} (q0 : 0 ≤ q) (q1 : q < 81) (n0 : 0 ≤ M (18, 0, 0) 12) (n1 : M (18, 0, 0) 12 ≤ 3) (hb : ∀ i, 0 ≤ i → i < M (18, 0, 0) 12 → -1000 ≤ M (20, 0, 0) (q * 3 + i) ∧ M (20, 0, 0) (q * 3 + i) ≤ M (21, 0, 0) (q * 3 + i) ∧ M (21, 0, 0) (q * 3 + i) ≤ 1000) : Ct E yX2_widestInput cX2_widestInput 6 ((some .int)) (rmH 1) [vr (17, 0, 0), vi q] M N (qi (fun r M1 N1 => r = (wdS (M (20, 0, 0)) (M (21, 0, 0)) (q * 3) (M (18, 0, 0) 12).toNat).1 ∧ M = M1 ∧ N = N1)) := by
  refine ct_of (own := RX2) (L0 := [vr (17, 0, 0), vi q, vn, vn, vn, vn]) rfl (by decide +kernel) rfl rfl ?_
  refine go_iconst dX2_widestInput_0 (R32_lit rfl) ?_
  refine go_ist2 dX2_widestInput_1 rfl rfl ?_
  refine go_iconst dX2_widestInput_2 (R32_lit rfl) ?_
  refine go_ist3 dX2_widestInput_3 rfl rfl ?_
  refine go_iconst dX2_widestInput_4 (R32_lit rfl) ?_
  refine go_ist4 dX2_widestInput_5 rfl rfl ?_
  exact lp_X2_widestInput q0 q1 n0 n1 hb (M (18, 0, 0) 12).toNat 0 _ (by omega) (by omega)
set_option maxRecDepth 100000 in
set_option maxHeartbeats 4000000 in
theorem ct_X2_copyToNext {E : Ev} {M : Mm} {N : Nn} {q m : Int} (q0 : 0 ≤ q) (q1 : q < 81) (hm : M (17, 0, 0) 5 = m) (m0 : 0 ≤ m) (m1 : m < 81) : Ct E yX2_copyToNext cX2_copyToNext 2 (none) (rmH 1) [vr (17, 0, 0), vi q] M N (qv (fun M1 N1 => M1 (20, 0, 0) = cpR (M (20, 0, 0)) (q * 3) (m * 3) ∧ M1 (21, 0, 0) = cpR (M (21, 0, 0)) (q * 3) (m * 3) ∧ (∀ n : Nm, n ≠ (20, 0, 0) → n ≠ (21, 0, 0) → M1 n = M n) ∧ N = N1)) := by
  refine ct_of (own := RX2) (L0 := [vr (17, 0, 0), vi q]) rfl (by decide +kernel) rfl rfl ?_
  refine go_aload_n dX2_copyToNext_0 rfl rfl ?_
  refine g2_25 dX2_copyToNext_1 ?_
  refine go_iload_n dX2_copyToNext_4 rfl ?_
  refine go_iconst dX2_copyToNext_5 (R32_lit rfl) ?_
  refine go_imulc dX2_copyToNext_6 ⟨by omega, by omega⟩ ?_
  refine go_aload_n dX2_copyToNext_7 rfl rfl ?_
  refine g2_25 dX2_copyToNext_8 ?_
  refine go_aload_n dX2_copyToNext_11 rfl rfl ?_
  refine g2_44 dX2_copyToNext_12 ?_
  refine go_iconst dX2_copyToNext_15 (R32_lit rfl) ?_
  rw [hm]
  refine go_imulc dX2_copyToNext_16 ⟨by omega, by omega⟩ ?_
  refine go_iconst dX2_copyToNext_17 (R32_lit rfl) ?_
  refine go_copyi dX2_copyToNext_18 a2_75 rfl rfl (by omega) (by omega) (by omega) (by omega) (by omega) ⟨Nat.le_of_ble_eq_true rfl, Nat.le_of_ble_eq_true rfl⟩ ?_
  refine go_aload_n dX2_copyToNext_21 rfl rfl ?_
  refine g2_29 dX2_copyToNext_22 ?_
  refine go_iload_n dX2_copyToNext_25 rfl ?_
  refine go_iconst dX2_copyToNext_26 (R32_lit rfl) ?_
  refine go_imulc dX2_copyToNext_27 ⟨by omega, by omega⟩ ?_
  refine go_aload_n dX2_copyToNext_28 rfl rfl ?_
  refine g2_29 dX2_copyToNext_29 ?_
  refine go_aload_n dX2_copyToNext_32 rfl rfl ?_
  refine g2_44 dX2_copyToNext_33 ?_
  refine go_iconst dX2_copyToNext_36 (R32_lit rfl) ?_
  rw [show cpM M (20, 0, 0) (q * 3) (20, 0, 0) (m * 3) 3 (17, 0, 0) 5 = M (17, 0, 0) 5 from if_neg (fun z => absurd z.1 (nm_ne1 (by decide))), hm]
  refine go_imulc dX2_copyToNext_37 ⟨by omega, by omega⟩ ?_
  refine go_iconst dX2_copyToNext_38 (R32_lit rfl) ?_
  refine go_copyi dX2_copyToNext_39 a2_75 rfl rfl (by omega) (by omega) (by omega) (by omega) (by omega) ⟨Nat.le_of_ble_eq_true rfl, Nat.le_of_ble_eq_true rfl⟩ ?_
  refine go_retv dX2_copyToNext_42 ?_
  refine ⟨?_, ?_, fun n a b => ?_, rfl⟩
  · funext j
    show (if ((20, 0, 0) : Nm) = (21, 0, 0) ∧ _ then _ else (if ((20, 0, 0) : Nm) = (20, 0, 0) ∧ _ then _ else _)) = _
    rw [if_neg (fun z => absurd z.1 (nm_ne1 (by decide)))]
    unfold cpR
    by_cases z : m * 3 ≤ j ∧ j < m * 3 + 3
    · rw [if_pos z, if_pos ⟨rfl, z⟩]
    · rw [if_neg z, if_neg (fun y => z y.2)]
  · funext j
    show (if ((21, 0, 0) : Nm) = (21, 0, 0) ∧ _ then (if ((21, 0, 0) : Nm) = (20, 0, 0) ∧ _ then _ else _) else (if ((21, 0, 0) : Nm) = (20, 0, 0) ∧ _ then _ else _)) = _
    unfold cpR
    by_cases z : m * 3 ≤ j ∧ j < m * 3 + 3
    · rw [if_pos ⟨rfl, z⟩, if_neg (fun y => absurd y.1 (nm_ne1 (by decide))), if_pos z]
    · rw [if_neg (fun y => z y.2), if_neg (fun y => absurd y.1 (nm_ne1 (by decide))), if_neg z]
  · funext j
    show (if n = (21, 0, 0) ∧ _ then _ else (if n = (20, 0, 0) ∧ _ then _ else _)) = _
    rw [if_neg (fun z => b z.1), if_neg (fun z => a z.1)]
