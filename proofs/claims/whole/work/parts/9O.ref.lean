set_option maxRecDepth 100000 in
set_option maxHeartbeats 4000000 in
theorem lp_X8_takesRanges {E : Ev} {M : Mm} {N : Nn} {S : Pg} {p : Int} (hQ : QR S M) (p0 : 0 ≤ p) (p1 : p ≤ 90) : ∀ (n : Nat) (k : Int) (M2 : Mm), (k + n = S 11 0) → (0 ≤ k) → (∀ j, 0 ≤ j → j < k → M2 (30, 0, 38) j = M (30, 0, 43) (15 * p + j) ∧ M2 (30, 0, 39) j = M (30, 0, 44) (15 * p + j)) → (Kr [] [38, 39] M M2) → Go E RX8 cX8_takesRanges 3 (none) (rmH 1) 0 0 (zM E (qv (fun M1 N1 => (∀ j, 0 ≤ j → j < S 11 0 → M1 (30, 0, 38) j = M (30, 0, 43) (15 * p + j) ∧ M1 (30, 0, 39) j = M (30, 0, 44) (15 * p + j)) ∧ Kr [] [38, 39] M M1 ∧ N = N1))) 2 [vr (29, 0, 0), vi p, vi k] [] M2 N := by
  intro n
  induction n using Nat.strongRecOn with
  | ind n ih =>
  intro k M2 hn k0 hA hf
  have c6 := hQ.1
  have c5 := hQ.2.2.1
  have c0 := hQ.2.1
  refine go_iload_n dX8_takesRanges_2 rfl ?_
  refine go_aload_n dX8_takesRanges_3 rfl rfl ?_
  refine g8_259 dX8_takesRanges_4 ?_
  rw [hf.s 6 (by decide), c6]
  refine go_icmp_ge (tgt := 50) dX8_takesRanges_7 rfl (fun h7 => ?_) (fun h7 => ?_)
  · refine go_retv dX8_takesRanges_50 ?_
    rw [show k = S 11 0 by omega] at hA
    exact ⟨hA, hf, rfl⟩
  · refine go_aload_n dX8_takesRanges_10 rfl rfl ?_
    refine g8_74 dX8_takesRanges_11 ?_
    refine go_iload_n dX8_takesRanges_14 rfl ?_
    refine go_aload_n dX8_takesRanges_15 rfl rfl ?_
    refine g8_86 dX8_takesRanges_16 ?_
    refine go_bipush dX8_takesRanges_19 ⟨by decide, by decide⟩ ?_
    refine go_iload_n dX8_takesRanges_21 rfl ?_
    refine go_imulc dX8_takesRanges_22 ⟨by omega, by omega⟩ ?_
    refine go_iload_n dX8_takesRanges_23 rfl ?_
    refine go_iaddc dX8_takesRanges_24 ⟨by omega, by omega⟩ ?_
    refine go_iald dX8_takesRanges_25 rfl (by omega) (by omega) ?_
    rw [hf.a 43 (by decide)]
    refine go_iast dX8_takesRanges_26 rfl (by omega) (by omega) ?_
    refine go_aload_n dX8_takesRanges_27 rfl rfl ?_
    refine g8_77 dX8_takesRanges_28 ?_
    refine go_iload_n dX8_takesRanges_31 rfl ?_
    refine go_aload_n dX8_takesRanges_32 rfl rfl ?_
    refine g8_89 dX8_takesRanges_33 ?_
    refine go_bipush dX8_takesRanges_36 ⟨by decide, by decide⟩ ?_
    refine go_iload_n dX8_takesRanges_38 rfl ?_
    refine go_imulc dX8_takesRanges_39 ⟨by omega, by omega⟩ ?_
    refine go_iload_n dX8_takesRanges_40 rfl ?_
    refine go_iaddc dX8_takesRanges_41 ⟨by omega, by omega⟩ ?_
    refine go_iald dX8_takesRanges_42 rfl (by omega) (by omega) ?_
    rw [(hf.wa (f := 38) (by decide)).a 44 (by decide)]
    refine go_iast dX8_takesRanges_43 rfl (by omega) (by omega) ?_
    refine go_iinc2c dX8_takesRanges_44 rfl rfl ⟨by omega, by omega⟩ ?_
    refine go_goto (tgt := 2) dX8_takesRanges_47 rfl ?_
    refine ih (n - 1) (by omega) (k + 1) _ (by omega) (by omega) ?_ ((hf.wa (by decide)).wa (by decide))
    intro j j0 j1
    have e := hA j j0
    by_cases z : j = k
    · rw [z]
      exact ⟨by rw [wr_nn (nm_ne3 (by decide)), wr_eq], by rw [wr_eq]⟩
    · exact ⟨by rw [wr_nn (nm_ne3 (by decide)), wr_nk z]; exact (e (by omega)).1, by rw [wr_nk z, wr_nn (nm_ne3 (by decide))]; exact (e (by omega)).2⟩
set_option maxRecDepth 100000 in
set_option maxHeartbeats 4000000 in
theorem ct_X8_takesRanges {E : Ev} {M : Mm} {N : Nn} {S : Pg} {p : Int} (hQ : QR S M) (p0 : 0 ≤ p) (p1 : p ≤ 90) : Ct E yX8_takesRanges cX8_takesRanges 3 (none) (rmH 1) [vr (29, 0, 0), vi p] M N (qv (fun M1 N1 => (∀ j, 0 ≤ j → j < S 11 0 → M1 (30, 0, 38) j = M (30, 0, 43) (15 * p + j) ∧ M1 (30, 0, 39) j = M (30, 0, 44) (15 * p + j)) ∧ Kr [] [38, 39] M M1 ∧ N = N1)) := by
  refine ct_of (own := RX8) (L0 := [vr (29, 0, 0), vi p, vn]) rfl (by decide +kernel) rfl rfl ?_
  refine go_iconst dX8_takesRanges_0 (R32_lit rfl) ?_
  refine go_ist2 dX8_takesRanges_1 rfl rfl ?_
  have c0 := hQ.2.1
  exact lp_X8_takesRanges hQ p0 p1 (S 11 0).toNat 0 M (by omega) (by omega) (fun j j0 j1 => absurd j1 (by omega)) Kr.rf
/-- the piece of the greatest bound among those that stand -/
def wpR (gn bd : Int → Int) : Nat → Int
  | 0 => -1
  | n + 1 => if gn n = 0 ∧ (wpR gn bd n = -1 ∨ bd (wpR gn bd n) < bd n) then n else wpR gn bd n
theorem wpR_bd (gn bd : Int → Int) : ∀ n : Nat, -1 ≤ wpR gn bd n ∧ wpR gn bd n < n
  | 0 => by show (-1 : Int) ≤ -1 ∧ (-1 : Int) < 0; decide
  | n + 1 => by
    have ih := wpR_bd gn bd n
    show -1 ≤ (if gn n = 0 ∧ (wpR gn bd n = -1 ∨ bd (wpR gn bd n) < bd n) then (n : Int) else wpR gn bd n) ∧ (if gn n = 0 ∧ (wpR gn bd n = -1 ∨ bd (wpR gn bd n) < bd n) then (n : Int) else wpR gn bd n) < ((n + 1 : Nat) : Int)
    split <;> omega
theorem wpR_s {gn bd : Int → Int} {p : Int} (h : 0 ≤ p) : wpR gn bd (p + 1).toNat = if gn p = 0 ∧ (wpR gn bd p.toNat = -1 ∨ bd (wpR gn bd p.toNat) < bd p) then p else wpR gn bd p.toNat := by
  rw [show (p + 1).toNat = p.toNat + 1 by omega]
  show (if gn (p.toNat : Int) = 0 ∧ (_ ∨ _ < bd (p.toNat : Int)) then (p.toNat : Int) else _) = _
  rw [Int.toNat_of_nonneg h]
set_option maxRecDepth 100000 in
set_option maxHeartbeats 4000000 in
theorem lp_X8_worstPiece {E : Ev} {M : Mm} {N : Nn}  (n0 : 0 ≤ M (29, 0, 0) 47) (n1 : M (29, 0, 0) 47 ≤ 90) : ∀ (n : Nat) (p x : Int), (p + n = M (29, 0, 0) 47) → (0 ≤ p) → (x = (wpR (M (30, 0, 46)) (M (30, 0, 45)) p.toNat)) → Go E RX8 cX8_worstPiece 3 ((some .int)) (rmH 1) 0 0 (zM E (qi (fun r M1 N1 => r = (wpR (M (30, 0, 46)) (M (30, 0, 45)) (M (29, 0, 0) 47).toNat) ∧ M = M1 ∧ N = N1))) 4 [vr (29, 0, 0), vi x, vi p] [] M N := by
  intro n
  induction n using Nat.strongRecOn with
  | ind n ih =>
  intro p x hn p0 hx
  refine go_iload_n dX8_worstPiece_4 rfl ?_
  refine go_aload_n dX8_worstPiece_5 rfl rfl ?_
  refine g8_445 dX8_worstPiece_6 ?_
  refine go_icmp_ge (tgt := 50) dX8_worstPiece_9 rfl (fun h9 => ?_) (fun h9 => ?_)
  · refine go_iload_n dX8_worstPiece_50 rfl ?_
    refine go_reti dX8_worstPiece_51 ?_
    exact ⟨by rw [hx, show p = M (29, 0, 0) 47 by omega], rfl, rfl⟩
  · have ws := wpR_s (gn := M (30, 0, 46)) (bd := M (30, 0, 45)) p0
    have wb := wpR_bd (M (30, 0, 46)) (M (30, 0, 45)) p.toNat
    rw [← hx] at ws wb
    refine go_aload_n dX8_worstPiece_12 rfl rfl ?_
    refine g8_95 dX8_worstPiece_13 ?_
    refine go_iload_n dX8_worstPiece_16 rfl ?_
    refine go_zald dX8_worstPiece_17 rfl (by omega) (by omega) ?_
    refine go_if_ne (tgt := 44) dX8_worstPiece_18 rfl (fun h18 => ?_) (fun h18 => ?_)
    · refine go_iinc2c dX8_worstPiece_44 rfl rfl ⟨by omega, by omega⟩ ?_
      refine go_goto (tgt := 4) dX8_worstPiece_47 rfl ?_
      first
      | (rw [if_neg (show ¬ (M (30, 0, 46) p = 0 ∧ (x = -1 ∨ M (30, 0, 45) x < M (30, 0, 45) p)) by omega)] at ws
         exact ih (n - 1) (by omega) (p + 1) _ (by omega) (by omega) ws.symm)
      | (rw [if_pos (show M (30, 0, 46) p = 0 ∧ (x = -1 ∨ M (30, 0, 45) x < M (30, 0, 45) p) by omega)] at ws
         exact ih (n - 1) (by omega) (p + 1) _ (by omega) (by omega) ws.symm)
    · refine go_iload_n dX8_worstPiece_21 rfl ?_
      refine go_iconst dX8_worstPiece_22 (R32_lit rfl) ?_
      refine go_icmp_eq (tgt := 42) dX8_worstPiece_23 rfl (fun h23 => ?_) (fun h23 => ?_)
      · refine go_iload_n dX8_worstPiece_42 rfl ?_
        refine go_ist1 dX8_worstPiece_43 rfl rfl ?_
        refine go_iinc2c dX8_worstPiece_44 rfl rfl ⟨by omega, by omega⟩ ?_
        refine go_goto (tgt := 4) dX8_worstPiece_47 rfl ?_
        first
        | (rw [if_neg (show ¬ (M (30, 0, 46) p = 0 ∧ (x = -1 ∨ M (30, 0, 45) x < M (30, 0, 45) p)) by omega)] at ws
           exact ih (n - 1) (by omega) (p + 1) _ (by omega) (by omega) ws.symm)
        | (rw [if_pos (show M (30, 0, 46) p = 0 ∧ (x = -1 ∨ M (30, 0, 45) x < M (30, 0, 45) p) by omega)] at ws
           exact ih (n - 1) (by omega) (p + 1) _ (by omega) (by omega) ws.symm)
      · refine go_aload_n dX8_worstPiece_26 rfl rfl ?_
        refine g8_92 dX8_worstPiece_27 ?_
        refine go_iload_n dX8_worstPiece_30 rfl ?_
        refine go_lald dX8_worstPiece_31 rfl (by omega) (by omega) ?_
        refine go_aload_n dX8_worstPiece_32 rfl rfl ?_
        refine g8_92 dX8_worstPiece_33 ?_
        refine go_iload_n dX8_worstPiece_36 rfl ?_
        refine go_lald dX8_worstPiece_37 rfl (by omega) (by omega) ?_
        refine go_lcmp_le (tgt := 44) dX8_worstPiece_38 dX8_worstPiece_39 rfl (fun h38 => ?_) (fun h38 => ?_)
        · refine go_iinc2c dX8_worstPiece_44 rfl rfl ⟨by omega, by omega⟩ ?_
          refine go_goto (tgt := 4) dX8_worstPiece_47 rfl ?_
          first
          | (rw [if_neg (show ¬ (M (30, 0, 46) p = 0 ∧ (x = -1 ∨ M (30, 0, 45) x < M (30, 0, 45) p)) by omega)] at ws
             exact ih (n - 1) (by omega) (p + 1) _ (by omega) (by omega) ws.symm)
          | (rw [if_pos (show M (30, 0, 46) p = 0 ∧ (x = -1 ∨ M (30, 0, 45) x < M (30, 0, 45) p) by omega)] at ws
             exact ih (n - 1) (by omega) (p + 1) _ (by omega) (by omega) ws.symm)
        · refine go_iload_n dX8_worstPiece_42 rfl ?_
          refine go_ist1 dX8_worstPiece_43 rfl rfl ?_
          refine go_iinc2c dX8_worstPiece_44 rfl rfl ⟨by omega, by omega⟩ ?_
          refine go_goto (tgt := 4) dX8_worstPiece_47 rfl ?_
          first
          | (rw [if_neg (show ¬ (M (30, 0, 46) p = 0 ∧ (x = -1 ∨ M (30, 0, 45) x < M (30, 0, 45) p)) by omega)] at ws
             exact ih (n - 1) (by omega) (p + 1) _ (by omega) (by omega) ws.symm)
          | (rw [if_pos (show M (30, 0, 46) p = 0 ∧ (x = -1 ∨ M (30, 0, 45) x < M (30, 0, 45) p) by omega)] at ws
             exact ih (n - 1) (by omega) (p + 1) _ (by omega) (by omega) ws.symm)
set_option maxRecDepth 100000 in
set_option maxHeartbeats 4000000 in
theorem ct_X8_worstPiece {E : Ev} {M : Mm} {N : Nn}  (n0 : 0 ≤ M (29, 0, 0) 47) (n1 : M (29, 0, 0) 47 ≤ 90) : Ct E yX8_worstPiece cX8_worstPiece 3 ((some .int)) (rmH 1) [vr (29, 0, 0)] M N (qi (fun r M1 N1 => r = (wpR (M (30, 0, 46)) (M (30, 0, 45)) (M (29, 0, 0) 47).toNat) ∧ M = M1 ∧ N = N1)) := by
  refine ct_of (own := RX8) (L0 := [vr (29, 0, 0), vn, vn]) rfl (by decide +kernel) rfl rfl ?_
  refine go_iconst dX8_worstPiece_0 (R32_lit rfl) ?_
  refine go_ist1 dX8_worstPiece_1 rfl rfl ?_
  refine go_iconst dX8_worstPiece_2 (R32_lit rfl) ?_
  refine go_ist2 dX8_worstPiece_3 rfl rfl ?_
  exact lp_X8_worstPiece n0 n1 (M (29, 0, 0) 47).toNat 0 _ (by omega) (by omega) rfl
