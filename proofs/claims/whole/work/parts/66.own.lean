theorem wB_all {v : Int} (h0 : 0 ≤ v) (h1 : v < 15) : wB (-1) v = true := by
  have h : v = 0 ∨ v = 1 ∨ v = 2 ∨ v = 3 ∨ v = 4 ∨ v = 5 ∨ v = 6 ∨ v = 7 ∨ v = 8 ∨ v = 9 ∨ v = 10 ∨ v = 11 ∨ v = 12 ∨ v = 13 ∨ v = 14 := by omega
  rcases h with rfl | rfl | rfl | rfl | rfl | rfl | rfl | rfl | rfl | rfl | rfl | rfl | rfl | rfl | rfl <;> decide +kernel
theorem Clo_all {S : Pg} (hc : RC S) : Clo S (wB (-1)) := fun v v0 v1 hs _ k k0 k1 q _ => by
  have h := (((hc.2.2.2.2.2.2.2.2 v v0 v1 hs).1 k k0 k1).1 q).1
  have := hc.2.1
  exact wB_all q (by omega)
/-- the forms of a whole program -/
def Fm (M : Mm) (S : Pg) : Prop := ∃ φ ma, FS M 0 φ (sK S (wB (-1)) (S 11 0).toNat).2.1 ma ∧ Rk S (wB (-1)) (S 11 0) (sK S (wB (-1)) (S 11 0).toNat) φ ma
/-- what becomes of the references when the spare program is taken -/
def Tk (p q : Nat) (N N1 : Nn) : Prop := N1 (3, 0, 0) 6 = (18, q, 0) ∧ N1 (3, 0, 0) 7 = (18, p, 0) ∧ ∀ n : Nm, n ≠ (3, 0, 0) → n ≠ (14, 0, 0) → N1 n = N n
theorem wrN_nf {N : Nn} {n n' : Nm} {k : Int} {r : Nm} (h : n' ≠ n) : wrN N n k r n' = N n' := by funext j; exact wrN_ne (fun z => h z.1)
set_option maxRecDepth 100000 in
set_option maxHeartbeats 4000000 in
theorem ct_X7_takeSpare {E : Ev} {M : Mm} {N : Nn} {p q : Nat} {φ : Nat → FV} {ν : Nu} {ma : Int → Int} (hC : N (3, 0, 0) 6 = (18, p, 0)) (hD : N (3, 0, 0) 7 = (18, q, 0)) (hF : FS M 0 φ ν ma) (hc : RC (pgC M q)) : Ct E yX7_takeSpare cX7_takeSpare 2 (none) (rmH 7) [vr (3, 0, 0)] M N (qv (fun M1 N1 => Fm M1 (pgC M q) ∧ Ff 0 M M1 ∧ Tk p q N N1)) := by
  refine ct_of (own := RX7) (L0 := [vr (3, 0, 0), vn]) rfl (by decide +kernel) rfl rfl ?_
  refine go_aload_n dX7_takeSpare_0 rfl rfl ?_
  refine g7_50 dX7_takeSpare_1 ?_
  rw [hC]
  refine go_ast1 dX7_takeSpare_4 rfl rfl rfl ?_
  refine go_aload_n dX7_takeSpare_5 rfl rfl ?_
  refine go_aload_n dX7_takeSpare_6 rfl rfl ?_
  refine g7_54 dX7_takeSpare_7 ?_
  rw [hD]
  refine p7_50 dX7_takeSpare_10 rfl ?_
  refine go_aload_n dX7_takeSpare_13 rfl rfl ?_
  refine go_aload_n dX7_takeSpare_14 rfl rfl ?_
  refine p7_54 dX7_takeSpare_15 rfl ?_
  refine go_aload_n dX7_takeSpare_18 rfl rfl ?_
  refine g7_29 dX7_takeSpare_19 ?_
  refine go_aload_n dX7_takeSpare_22 rfl rfl ?_
  refine g7_50 dX7_takeSpare_23 ?_
  rw [wrN_ne (fun z => absurd z.2 (by decide)), wrN_eq]
  refine go_iconst dX7_takeSpare_26 (R32_lit rfl) ?_
  refine v7_276 dX7_takeSpare_27 rfl ⟨rfl, rfl⟩ ⟨rfl, rfl⟩ (ct_X1_reckon hF hc (Clo_all hc)) (fun M1 N1 hq1 => ?_)
  refine go_retv dX7_takeSpare_30 ?_
  obtain ⟨⟨φ1, ma1, g1, g2⟩, g3, g4⟩ := hq1
  refine ⟨⟨φ1, ma1, g1, g2⟩, g3, ?_, ?_, fun n a b => ?_⟩
  · rw [g4 _ (nm_ne1 (by decide)), wrN_ne (fun z => absurd z.2 (by decide)), wrN_eq]
  · rw [g4 _ (nm_ne1 (by decide)), wrN_eq]
  · rw [g4 n b, wrN_nf a, wrN_nf a]
/-- bytes put behind one another: the tape, its length -/
def pbS (x : Int) : Nat → Int → (Int → Int) → Int → (Int → Int) × Int
  | 0, _, b, l => (b, l)
  | k + 1, s, b, l => pbS x k (s - 8) (upI b l (ib8 (ib8 (ishr x s)))) (l + 1)
def Tf (M M1 : Mm) : Prop := (∀ n : Nm, n ≠ (3, 0, 0) → n ≠ (4, 0, 0) → M1 n = M n) ∧ ∀ j, j ≠ 8 → M1 (3, 0, 0) j = M (3, 0, 0) j
theorem Tf.rf {M : Mm} : Tf M M := ⟨fun _ _ _ => rfl, fun _ _ => rfl⟩
theorem Tf.tr {M M1 M2 : Mm} (h : Tf M M1) (h2 : Tf M1 M2) : Tf M M2 := ⟨fun n a b => (h2.1 n a b).trans (h.1 n a b), fun j a => (h2.2 j a).trans (h.2 j a)⟩
theorem Tf.w {M M1 : Mm} {i x y : Int} (h : Tf M M1) : Tf M (wr (wr M1 (4, 0, 0) i x) (3, 0, 0) 8 y) := ⟨fun n a b => by rw [wr_nf a, wr_nf b]; exact h.1 n a b, fun j a => by rw [wr_nk a, wr_nf (nm_ne1 (by decide))]; exact h.2 j a⟩
theorem pbS_2 (x : Int) : ∀ (k : Nat) (s : Int) (b : Int → Int) (l : Int), (pbS x k s b l).2 = l + k
  | 0, _, _, l => by show l = l + 0; omega
  | k + 1, s, b, l => by
    show (pbS x k (s - 8) _ (l + 1)).2 = _
    rw [pbS_2 x k (s - 8) _ (l + 1)]; omega
set_option maxRecDepth 100000 in
set_option maxHeartbeats 4000000 in
theorem lp_X7_putBytes {E : Ev} {M : Mm} {N : Nn} {x : Int} (l0 : 0 ≤ M (3, 0, 0) 8) (l1 : M (3, 0, 0) 8 + 4 ≤ 500) : ∀ (n : Nat) (s : Int) (M' : Mm), (s = 8 * (n : Int) - 8 ∧ n ≤ 4) → (Tf M M') → ((pbS x n s (M' (4, 0, 0)) (M' (3, 0, 0) 8)) = (pbS x 4 24 (M (4, 0, 0)) (M (3, 0, 0) 8))) → Go E RX7 cX7_putBytes 3 (none) (rmH 1) 0 0 (zM E (qv (fun M1 N1 => M1 (4, 0, 0) = (pbS x 4 24 (M (4, 0, 0)) (M (3, 0, 0) 8)).1 ∧ M1 (3, 0, 0) 8 = M (3, 0, 0) 8 + 4 ∧ Tf M M1 ∧ N = N1))) 3 [vr (3, 0, 0), vi x, vi s] [] M' N := by
  intro n
  induction n using Nat.strongRecOn with
  | ind n ih =>
  intro s M' hn hf he
  have hl := pbS_2 x n s (M' (4, 0, 0)) (M' (3, 0, 0) 8)
  have hl0 := pbS_2 x 4 24 (M (4, 0, 0)) (M (3, 0, 0) 8)
  rw [he] at hl
  refine go_iload_n dX7_putBytes_3 rfl ?_
  refine go_if_lt (tgt := 46) dX7_putBytes_4 rfl (fun h4 => ?_) (fun h4 => ?_)
  · refine go_retv dX7_putBytes_46 ?_
    first
    | (have e0 : n = 0 := by omega
       rw [e0] at he hl
       have he' : (M' (4, 0, 0), M' (3, 0, 0) 8) = (pbS x 4 24 (M (4, 0, 0)) (M (3, 0, 0) 8)) := he
       exact ⟨by rw [← he'], by omega, hf, rfl⟩)
    | (exfalso; omega)
  · refine go_aload_n dX7_putBytes_7 rfl rfl ?_
    refine g7_57 dX7_putBytes_8 ?_
    refine go_sipush dX7_putBytes_11 ⟨by decide, by decide⟩ ?_
    refine go_icmp_ge (tgt := 46) dX7_putBytes_14 rfl (fun h14 => ?_) (fun h14 => ?_)
    · refine go_retv dX7_putBytes_46 ?_
      first
      | (have e0 : n = 0 := by omega
         rw [e0] at he hl
         have he' : (M' (4, 0, 0), M' (3, 0, 0) 8) = (pbS x 4 24 (M (4, 0, 0)) (M (3, 0, 0) 8)) := he
         exact ⟨by rw [← he'], by omega, hf, rfl⟩)
      | (exfalso; omega)
    · refine go_aload_n dX7_putBytes_17 rfl rfl ?_
      refine g7_11 dX7_putBytes_18 ?_
      refine go_aload_n dX7_putBytes_21 rfl rfl ?_
      refine g7_57 dX7_putBytes_22 ?_
      refine go_iload_n dX7_putBytes_25 rfl ?_
      refine go_iload_n dX7_putBytes_26 rfl ?_
      refine go_ishr dX7_putBytes_27 ?_
      refine go_i2b dX7_putBytes_28 ?_
      refine go_bast dX7_putBytes_29 rfl (by omega) (by omega) ?_
      refine go_aload_n dX7_putBytes_30 rfl rfl ?_
      first | refine go_dup_r dX7_putBytes_31 ?_ | refine go_dup_i dX7_putBytes_31 ?_
      refine g7_57 dX7_putBytes_32 ?_
      rw [wr_nn (nm_ne1 (by decide))]
      refine go_iconst dX7_putBytes_35 (R32_lit rfl) ?_
      refine go_iaddc dX7_putBytes_36 ⟨by omega, by omega⟩ ?_
      refine p7_57 dX7_putBytes_37 ?_
      refine go_iinc2c dX7_putBytes_40 rfl rfl ⟨by omega, by omega⟩ ?_
      refine go_goto (tgt := 3) dX7_putBytes_43 rfl ?_
      exact ih (n - 1) (by omega) (s - 8) _ (by omega) hf.w (by
        rw [← he]
        have e : n = (n - 1) + 1 := by omega
        rw [wr_nf (nm_ne1 (by decide)), upI_wr, wr_eq]
        conv => rhs; rw [e]
        rfl)
set_option maxRecDepth 100000 in
set_option maxHeartbeats 4000000 in
theorem ct_X7_putBytes {E : Ev} {M : Mm} {N : Nn} {x : Int} (l0 : 0 ≤ M (3, 0, 0) 8) (l1 : M (3, 0, 0) 8 + 4 ≤ 500) : Ct E yX7_putBytes cX7_putBytes 3 (none) (rmH 1) [vr (3, 0, 0), vi x] M N (qv (fun M1 N1 => M1 (4, 0, 0) = (pbS x 4 24 (M (4, 0, 0)) (M (3, 0, 0) 8)).1 ∧ M1 (3, 0, 0) 8 = M (3, 0, 0) 8 + 4 ∧ Tf M M1 ∧ N = N1)) := by
  refine ct_of (own := RX7) (L0 := [vr (3, 0, 0), vi x, vn]) rfl (by decide +kernel) rfl rfl ?_
  refine go_bipush dX7_putBytes_0 ⟨by decide, by decide⟩ ?_
  refine go_ist2 dX7_putBytes_2 rfl rfl ?_
  exact lp_X7_putBytes l0 l1 4 24 M (by omega) Tf.rf rfl
