/-- the bound by both ends -/
def bdR (a : FV) : Int := if absw (fhi a) < absw (flo a) then absw (flo a) else absw (fhi a)
theorem F8.no {M M4 : Mm} {k : Int} (h : F8 (rfM M 0) M4) : F8 (rfM M k) (wr M4 (29, 0, 0) 1 k) := by
  refine ⟨fun n a b => ?_, fun j hj => ?_⟩
  · rw [wr_nf a, h.1 n a b]
    unfold rfM
    rw [wr_nf a, wr_nf a, wr_nf a, wr_nf a, wr_nf a, wr_nf a]
  · by_cases z : j = 1
    · rw [z, wr_eq]; unfold rfM; rw [wr_eq]
    · rw [wr_nk z, h.2 j hj]; unfold rfM; rw [wr_nk z, wr_nk z]
theorem sumZ_n {g : Int → Int} {i : Int} (h : 0 ≤ i) : sumZ g (i + 1).toNat = sumZ g i.toNat + g i := by
  rw [show (i + 1).toNat = i.toNat + 1 by omega]
  show sumZ g i.toNat + g (i.toNat : Int) = _
  rw [Int.toNat_of_nonneg h]
set_option maxRecDepth 100000 in
set_option maxHeartbeats 4000000 in
theorem ct_X8_boundOf {E : Ev} {M : Mm} {N : Nn} {ψ : Int → FV} {ν : Nu} {v : Int} (hF : FQ M ψ ν) (v0 : 0 ≤ v) (v1 : v < 15) : Ct E yX8_boundOf cX8_boundOf 6 ((some .long)) (rmH 4) [vr (29, 0, 0), vi v] M N (ql (fun r M1 N1 => r = bdR (ψ (15 + v)) ∧ M = M1 ∧ N = N1)) := by
  refine ct_of (own := RX8) (L0 := [vr (29, 0, 0), vi v, vn, vn, vn, vn]) rfl (by decide +kernel) rfl rfl ?_
  refine go_aload_n dX8_boundOf_0 rfl rfl ?_
  refine go_bipush dX8_boundOf_1 ⟨by decide, by decide⟩ ?_
  refine go_iload_n dX8_boundOf_3 rfl ?_
  refine go_iaddc dX8_boundOf_4 ⟨by omega, by omega⟩ ?_
  refine v8_379 dX8_boundOf_5 rfl ⟨rfl, rfl⟩ ⟨rfl, rfl⟩ (ct_X8_leastOf hF (by omega) (by omega)) (fun r1 M1 N1 hr1 hq1 => ?_)
  obtain ⟨z1, rfl, rfl⟩ := hq1
  subst z1
  refine v8_244 dX8_boundOf_8 rfl ⟨rfl, rfl⟩ ⟨rfl, rfl⟩ ct_X8_sizeOf (fun r2 M2 N2 hr2 hq2 => ?_)
  obtain ⟨z2, rfl, rfl⟩ := hq2
  subst z2
  refine go_lst2 dX8_boundOf_11 rfl rfl ?_
  refine go_aload_n dX8_boundOf_12 rfl rfl ?_
  refine go_bipush dX8_boundOf_13 ⟨by decide, by decide⟩ ?_
  refine go_iload_n dX8_boundOf_15 rfl ?_
  refine go_iaddc dX8_boundOf_16 ⟨by omega, by omega⟩ ?_
  refine v8_382 dX8_boundOf_17 rfl ⟨rfl, rfl⟩ ⟨rfl, rfl⟩ (ct_X8_greatestOf hF (by omega) (by omega)) (fun r3 M3 N3 hr3 hq3 => ?_)
  obtain ⟨z3, rfl, rfl⟩ := hq3
  subst z3
  refine v8_244 dX8_boundOf_20 rfl ⟨rfl, rfl⟩ ⟨rfl, rfl⟩ ct_X8_sizeOf (fun r4 M4 N4 hr4 hq4 => ?_)
  obtain ⟨z4, rfl, rfl⟩ := hq4
  subst z4
  refine go_lst4 dX8_boundOf_23 rfl rfl ?_
  refine go_lload_n dX8_boundOf_25 rfl ?_
  refine go_lload dX8_boundOf_26 rfl ?_
  refine go_lcmp_le (tgt := 36) dX8_boundOf_28 dX8_boundOf_29 rfl (fun h28 => ?_) (fun h28 => ?_)
  · refine go_lload dX8_boundOf_36 rfl ?_
    refine go_retl dX8_boundOf_38 ?_
    refine ⟨?_, rfl, rfl⟩
    unfold bdR
    first | (rw [if_pos (by omega)]; done) | (rw [if_neg (by omega)]; done)
  · refine go_lload_n dX8_boundOf_32 rfl ?_
    refine go_goto (tgt := 38) dX8_boundOf_33 rfl ?_
    refine go_retl dX8_boundOf_38 ?_
    refine ⟨?_, rfl, rfl⟩
    unfold bdR
    first | (rw [if_pos (by omega)]; done) | (rw [if_neg (by omega)]; done)
set_option maxRecDepth 100000 in
set_option maxHeartbeats 4000000 in
theorem lp_X8_partOf {E : Ev} {M : Mm} {N : Nn} {ψ : Int → FV} {ν : Nu} {v : Int} {st : Int} (hF : FQ M ψ ν) (v0 : 0 ≤ v) (v1 : v < 15) : ∀ (n : Nat) (i x : Int), (i + n = ν.1) → (0 ≤ i) → (x = w64 (sumZ (ptG (ψ (15 + v)) ν st) i.toNat)) → Go E RX8 cX8_partOf 6 ((some .long)) (rmH 2) 0 0 (zM E (ql (fun r M1 N1 => r = ptS (ψ (15 + v)) ν st ∧ M = M1 ∧ N = N1))) 5 [vr (29, 0, 0), vi v, vi st, vl x, vn, vi i] [] M N := by
  intro n
  induction n using Nat.strongRecOn with
  | ind n ih =>
  intro i x hn i0 hx
  obtain ⟨n1, n2, n3, n4⟩ := hF.2.1
  obtain ⟨e0, e1⟩ := hF.1 (15 + v) (by omega) (by omega)
  refine go_iload dX8_partOf_5 rfl ?_
  refine go_aload_n dX8_partOf_7 rfl rfl ?_
  refine g8_302 dX8_partOf_8 ?_
  rw [n1]
  refine go_icmp_ge (tgt := 58) dX8_partOf_11 rfl (fun h11 => ?_) (fun h11 => ?_)
  · refine go_lload_n dX8_partOf_58 rfl ?_
    refine go_retl dX8_partOf_59 ?_
    exact ⟨by rw [hx, show i = ν.1 by omega]; rfl, rfl, rfl⟩
  · have sn := sumZ_n (g := (ptG (ψ (15 + v)) ν st)) i0
    refine go_lload_n dX8_partOf_14 rfl ?_
    refine go_aload_n dX8_partOf_15 rfl rfl ?_
    refine g8_68 dX8_partOf_16 ?_
    refine go_iload dX8_partOf_19 rfl ?_
    refine go_iald dX8_partOf_21 rfl (by omega) (by omega) ?_
    rw [(n4 i i0 (by omega)).1]
    refine go_iload_n dX8_partOf_22 rfl ?_
    refine go_icmp_ne (tgt := 49) dX8_partOf_23 rfl (fun h23 => ?_) (fun h23 => ?_)
    · refine go_lconst (x := 0) dX8_partOf_49 rfl ?_
      refine go_ladd dX8_partOf_50 ?_
      refine go_lst3 dX8_partOf_51 rfl rfl ?_
      refine go_iinc5c dX8_partOf_52 rfl rfl ⟨by omega, by omega⟩ ?_
      refine go_goto (tgt := 5) dX8_partOf_55 rfl ?_
      first
      | (have eg : (ptG (ψ (15 + v)) ν st) i = absw ((ψ (15 + v)).2 i) := by unfold ptG; rw [if_pos (by omega)]
         exact ih (n - 1) (by omega) (i + 1) _ (by omega) (by omega) (by rw [sn, eg, hx, w64_add]))
      | (have eg : (ptG (ψ (15 + v)) ν st) i = 0 := by unfold ptG; rw [if_neg (by omega)]
         exact ih (n - 1) (by omega) (i + 1) _ (by omega) (by omega) (by rw [sn, eg, hx, w64_add]))
    · refine go_aload_n dX8_partOf_26 rfl rfl ?_
      refine g8_65 dX8_partOf_27 ?_
      refine go_bipush dX8_partOf_30 ⟨by decide, by decide⟩ ?_
      refine go_iload_n dX8_partOf_32 rfl ?_
      refine go_iaddc dX8_partOf_33 ⟨by omega, by omega⟩ ?_
      refine v8_358 dX8_partOf_34 rfl ⟨rfl, rfl⟩ ⟨rfl, rfl⟩ (ct_X8_middle (a := 15 + v) (by omega) (by omega)) (fun r1 M1 N1 hr1 hq1 => ?_)
      obtain ⟨z1, rfl, rfl⟩ := hq1
      subst z1
      refine go_iconst dX8_partOf_37 (R32_lit rfl) ?_
      refine go_iaddc dX8_partOf_38 ⟨by omega, by omega⟩ ?_
      refine go_iload dX8_partOf_39 rfl ?_
      refine go_iaddc dX8_partOf_41 ⟨by omega, by omega⟩ ?_
      refine go_lald dX8_partOf_42 rfl (by omega) (by omega) ?_
      rw [e1 i i0 (by omega)]
      refine v8_244 dX8_partOf_43 rfl ⟨rfl, rfl⟩ ⟨rfl, rfl⟩ ct_X8_sizeOf (fun r2 M2 N2 hr2 hq2 => ?_)
      obtain ⟨z2, rfl, rfl⟩ := hq2
      subst z2
      refine go_goto (tgt := 50) dX8_partOf_46 rfl ?_
      refine go_ladd dX8_partOf_50 ?_
      refine go_lst3 dX8_partOf_51 rfl rfl ?_
      refine go_iinc5c dX8_partOf_52 rfl rfl ⟨by omega, by omega⟩ ?_
      refine go_goto (tgt := 5) dX8_partOf_55 rfl ?_
      first
      | (have eg : (ptG (ψ (15 + v)) ν st) i = absw ((ψ (15 + v)).2 i) := by unfold ptG; rw [if_pos (by omega)]
         exact ih (n - 1) (by omega) (i + 1) _ (by omega) (by omega) (by rw [sn, eg, hx, w64_add]))
      | (have eg : (ptG (ψ (15 + v)) ν st) i = 0 := by unfold ptG; rw [if_neg (by omega)]
         exact ih (n - 1) (by omega) (i + 1) _ (by omega) (by omega) (by rw [sn, eg, hx, w64_add]))
set_option maxRecDepth 100000 in
set_option maxHeartbeats 4000000 in
theorem ct_X8_partOf {E : Ev} {M : Mm} {N : Nn} {ψ : Int → FV} {ν : Nu} {v : Int} {st : Int} (hF : FQ M ψ ν) (v0 : 0 ≤ v) (v1 : v < 15) : Ct E yX8_partOf cX8_partOf 6 ((some .long)) (rmH 2) [vr (29, 0, 0), vi v, vi st] M N (ql (fun r M1 N1 => r = ptS (ψ (15 + v)) ν st ∧ M = M1 ∧ N = N1)) := by
  refine ct_of (own := RX8) (L0 := [vr (29, 0, 0), vi v, vi st, vn, vn, vn]) rfl (by decide +kernel) rfl rfl ?_
  refine go_lconst (x := 0) dX8_partOf_0 rfl ?_
  refine go_lst3 dX8_partOf_1 rfl rfl ?_
  refine go_iconst dX8_partOf_2 (R32_lit rfl) ?_
  refine go_ist5 dX8_partOf_3 rfl rfl ?_
  have n2 := hF.2.1.2.1
  exact lp_X8_partOf hF v0 v1 ν.1.toNat 0 0 (by omega) (by omega) rfl
set_option maxRecDepth 100000 in
set_option maxHeartbeats 4000000 in
theorem lp_X8_blamed {E : Ev} {M : Mm} {N : Nn} {ψ : Int → FV} {ν : Nu} {v : Int} {S : Pg} (hF : FQ M ψ ν) (v0 : 0 ≤ v) (v1 : v < 15) (hQ : QR S M) : ∀ (n : Nat) (i x y : Int), (i + n = S 11 0) → (0 ≤ i) → (x = (blS S (ψ (15 + v)) ν i.toNat).1) → (y = (blS S (ψ (15 + v)) ν i.toNat).2) → Go E RX8 cX8_blamed 6 ((some .int)) (rmH 3) 0 0 (zM E (qi (fun r M1 N1 => r = (blS S (ψ (15 + v)) ν (S 11 0).toNat).1 ∧ M = M1 ∧ N = N1))) 8 [vr (29, 0, 0), vi v, vi x, vl y, vn, vi i] [] M N := by
  intro n
  induction n using Nat.strongRecOn with
  | ind n ih =>
  intro i x y hn i0 hx hy
  have c6 := hQ.1
  have c5 := hQ.2.2.1
  have c0 := hQ.2.1
  refine go_iload dX8_blamed_8 rfl ?_
  refine go_aload_n dX8_blamed_10 rfl rfl ?_
  refine g8_259 dX8_blamed_11 ?_
  rw [c6]
  refine go_icmp_ge (tgt := 59) dX8_blamed_14 rfl (fun h14 => ?_) (fun h14 => ?_)
  · refine go_iload_n dX8_blamed_59 rfl ?_
    refine go_reti dX8_blamed_60 ?_
    exact ⟨by rw [hx, show i = S 11 0 by omega], rfl, rfl⟩
  · have c7 : i < S 11 0 := by omega
    have eb : blS S (ψ (15 + v)) ν (i + 1).toNat = if S 0 i ≠ -2 ∧ (blS S (ψ (15 + v)) ν i.toNat).2 < ptS (ψ (15 + v)) ν i then (i, ptS (ψ (15 + v)) ν i) else (blS S (ψ (15 + v)) ν i.toNat) := by
      rw [show (i + 1).toNat = i.toNat + 1 by omega]
      show (if S 0 ((i.toNat : Nat) : Int) ≠ -2 ∧ _ < ptS _ ν ((i.toNat : Nat) : Int) then (((i.toNat : Nat) : Int), ptS _ ν ((i.toNat : Nat) : Int)) else _) = _
      rw [Int.toNat_of_nonneg i0]
    refine go_aload_n dX8_blamed_17 rfl rfl ?_
    refine g8_19 dX8_blamed_18 ?_
    refine go_iload dX8_blamed_21 rfl ?_
    refine go_iald dX8_blamed_23 rfl (by omega) (by omega) ?_
    rw [hQ.srt i0 c7]
    refine v8_248 dX8_blamed_24 rfl ⟨rfl, rfl⟩ ⟨rfl, rfl⟩ ct_X8_isInput (fun r1 M1 N1 hr1 hq1 => ?_)
    obtain ⟨z1, rfl, rfl⟩ := hq1
    have z1 := bit_iff z1
    refine go_if_ne (tgt := 53) dX8_blamed_27 rfl (fun h27 => ?_) (fun h27 => ?_)
    · refine go_iinc5c dX8_blamed_53 rfl rfl ⟨by omega, by omega⟩ ?_
      refine go_goto (tgt := 8) dX8_blamed_56 rfl ?_
      first
      | (have q : ¬ (S 0 i ≠ -2 ∧ (blS S (ψ (15 + v)) ν i.toNat).2 < ptS (ψ (15 + v)) ν i) := by omega
         rw [if_neg q] at eb
         exact ih (n - 1) (by omega) (i + 1) _ _ (by omega) (by omega) (by rw [eb]; exact hx) (by rw [eb]; exact hy))
      | (have q : S 0 i ≠ -2 ∧ (blS S (ψ (15 + v)) ν i.toNat).2 < ptS (ψ (15 + v)) ν i := by omega
         rw [if_pos q] at eb
         exact ih (n - 1) (by omega) (i + 1) _ _ (by omega) (by omega) (by rw [eb]) (by rw [eb]))
    · refine go_aload_n dX8_blamed_30 rfl rfl ?_
      refine go_iload_n dX8_blamed_31 rfl ?_
      refine go_iload dX8_blamed_32 rfl ?_
      refine v8_438 dX8_blamed_34 rfl ⟨rfl, rfl⟩ ⟨rfl, rfl⟩ (ct_X8_partOf hF v0 v1) (fun r2 M2 N2 hr2 hq2 => ?_)
      obtain ⟨z2, rfl, rfl⟩ := hq2
      subst z2
      refine go_lload_n dX8_blamed_37 rfl ?_
      refine go_lcmp_le (tgt := 53) dX8_blamed_38 dX8_blamed_39 rfl (fun h38 => ?_) (fun h38 => ?_)
      · refine go_iinc5c dX8_blamed_53 rfl rfl ⟨by omega, by omega⟩ ?_
        refine go_goto (tgt := 8) dX8_blamed_56 rfl ?_
        first
        | (have q : ¬ (S 0 i ≠ -2 ∧ (blS S (ψ (15 + v)) ν i.toNat).2 < ptS (ψ (15 + v)) ν i) := by omega
           rw [if_neg q] at eb
           exact ih (n - 1) (by omega) (i + 1) _ _ (by omega) (by omega) (by rw [eb]; exact hx) (by rw [eb]; exact hy))
        | (have q : S 0 i ≠ -2 ∧ (blS S (ψ (15 + v)) ν i.toNat).2 < ptS (ψ (15 + v)) ν i := by omega
           rw [if_pos q] at eb
           exact ih (n - 1) (by omega) (i + 1) _ _ (by omega) (by omega) (by rw [eb]) (by rw [eb]))
      · refine go_aload_n dX8_blamed_42 rfl rfl ?_
        refine go_iload_n dX8_blamed_43 rfl ?_
        refine go_iload dX8_blamed_44 rfl ?_
        refine v8_438 dX8_blamed_46 rfl ⟨rfl, rfl⟩ ⟨rfl, rfl⟩ (ct_X8_partOf hF v0 v1) (fun r3 M3 N3 hr3 hq3 => ?_)
        obtain ⟨z3, rfl, rfl⟩ := hq3
        subst z3
        refine go_lst3 dX8_blamed_49 rfl rfl ?_
        refine go_iload dX8_blamed_50 rfl ?_
        refine go_ist2 dX8_blamed_52 rfl rfl ?_
        refine go_iinc5c dX8_blamed_53 rfl rfl ⟨by omega, by omega⟩ ?_
        refine go_goto (tgt := 8) dX8_blamed_56 rfl ?_
        first
        | (have q : ¬ (S 0 i ≠ -2 ∧ (blS S (ψ (15 + v)) ν i.toNat).2 < ptS (ψ (15 + v)) ν i) := by omega
           rw [if_neg q] at eb
           exact ih (n - 1) (by omega) (i + 1) _ _ (by omega) (by omega) (by rw [eb]; exact hx) (by rw [eb]; exact hy))
        | (have q : S 0 i ≠ -2 ∧ (blS S (ψ (15 + v)) ν i.toNat).2 < ptS (ψ (15 + v)) ν i := by omega
           rw [if_pos q] at eb
           exact ih (n - 1) (by omega) (i + 1) _ _ (by omega) (by omega) (by rw [eb]) (by rw [eb]))
set_option maxRecDepth 100000 in
set_option maxHeartbeats 4000000 in
theorem ct_X8_blamed {E : Ev} {M : Mm} {N : Nn} {ψ : Int → FV} {ν : Nu} {v : Int} {S : Pg} (hF : FQ M ψ ν) (v0 : 0 ≤ v) (v1 : v < 15) (hQ : QR S M) : Ct E yX8_blamed cX8_blamed 6 ((some .int)) (rmH 3) [vr (29, 0, 0), vi v] M N (qi (fun r M1 N1 => r = (blS S (ψ (15 + v)) ν (S 11 0).toNat).1 ∧ M = M1 ∧ N = N1)) := by
  refine ct_of (own := RX8) (L0 := [vr (29, 0, 0), vi v, vn, vn, vn, vn]) rfl (by decide +kernel) rfl rfl ?_
  refine go_bipush dX8_blamed_0 ⟨by decide, by decide⟩ ?_
  refine go_ist2 dX8_blamed_2 rfl rfl ?_
  refine go_lconst (x := 0) dX8_blamed_3 rfl ?_
  refine go_lst3 dX8_blamed_4 rfl rfl ?_
  refine go_iconst dX8_blamed_5 (R32_lit rfl) ?_
  refine go_ist5 dX8_blamed_6 rfl rfl ?_
  have c0 := hQ.2.1
  exact lp_X8_blamed hF v0 v1 hQ (S 11 0).toNat 0 _ _ (by omega) (by omega) rfl rfl
set_option maxRecDepth 100000 in
set_option maxHeartbeats 4000000 in
theorem ct_X8_form {E : Ev} {M : Mm} {N : Nn} {S : Pg} {W : Int → Bool} {v d k : Int} (hQ : QR S M) (hW : WF S) (hB : ∀ v, 0 ≤ v → v < S 11 0 → W v = true) (hNE : ∀ v : Nat, (v : Int) < S 11 0 → NEq S (sK S W v).1 v) : Ct E yX8_form cX8_form 4 ((some .long)) (rmH 9) [vr (29, 0, 0), vi v, vi d, vi k] M N (ql (fun r M1 N1 => ((0 ≤ v ∧ v < S 11 0 ∧ -1 ≤ k ∧ k < (sK S W (S 11 0).toNat).2.1.1) ∧ r = (if k = -1 then ((sK S W (S 11 0).toNat).1 (if d = 0 then v.toNat else 15 + v.toNat)).1 else ((sK S W (S 11 0).toNat).1 (if d = 0 then v.toNat else 15 + v.toNat)).2 k) ∧ F8 (rfM M 0) M1 ∨ ¬ (0 ≤ v ∧ v < S 11 0 ∧ -1 ≤ k ∧ k < (sK S W (S 11 0).toNat).2.1.1) ∧ r = -9223372036854775808 ∧ F8 (rfM M 1) M1) ∧ N = N1)) := by
  refine ct_of (own := RX8) (L0 := [vr (29, 0, 0), vi v, vi d, vi k]) rfl (by decide +kernel) rfl rfl ?_
  have c6 := hQ.1
  have c5 := hQ.2.2.1
  have c0 := hQ.2.1
  refine go_aload_n dX8_form_0 rfl rfl ?_
  refine go_aload_n dX8_form_1 rfl rfl ?_
  refine go_iload_n dX8_form_2 rfl ?_
  refine v8_285 dX8_form_3 rfl ⟨rfl, rfl⟩ ⟨rfl, rfl⟩ (ct_X8_isVariable hQ) (fun r1 M1 N1 hr1 hq1 => ?_)
  obtain ⟨z1, rfl, rfl⟩ := hq1
  have z1 := bit_iff z1
  refine v8_292 dX8_form_6 rfl ⟨rfl, rfl⟩ ⟨rfl, rfl⟩ ct_X8_unless (fun r2 M2 N2 hr2 hq2 => ?_)
  obtain ⟨z2, rfl, rfl⟩ := hq2
  have z2 := bit_iff z2
  refine v8_269 dX8_form_9 rfl ⟨rfl, rfl⟩ ⟨rfl, rfl⟩ ct_X8_isRefused (fun r3 M3 N3 hr3 hq3 => ?_)
  obtain ⟨z3, rfl, rfl⟩ := hq3
  have z3 := bit_iff z3
  refine go_if_eq (tgt := 19) dX8_form_12 rfl (fun h12 => ?_) (fun h12 => ?_)
  · have hv : 0 ≤ v ∧ v < S 11 0 := by omega
    rw [show r2 = 0 by omega]
    refine go_aload_n dX8_form_19 rfl rfl ?_
    refine v8_299 dX8_form_20 rfl ⟨rfl, rfl⟩ ⟨rfl, rfl⟩ (ct_X8_laysForms (rfM_Q hQ) hW hB hNE) (fun M4 N4 hq4 => ?_)
    obtain ⟨ψ, q1, q2, q3, q4, rfl⟩ := hq4
    have F8k := F8.of q4 (by decide) (by decide)
    obtain ⟨n1, n2, n3, n4⟩ := q1.2.1
    refine go_iload_n dX8_form_23 rfl ?_
    refine go_i2l dX8_form_24 ?_
    refine c8_400 dX8_form_25 ?_
    refine go_aload_n dX8_form_28 rfl rfl ?_
    refine g8_302 dX8_form_29 ?_
    rw [n1]
    refine go_iconst dX8_form_32 (R32_lit rfl) ?_
    refine go_isubc dX8_form_33 ⟨by omega, by omega⟩ ?_
    refine go_i2l dX8_form_34 ?_
    refine v8_140 dX8_form_35 rfl ⟨rfl, rfl⟩ ⟨rfl, rfl⟩ ct_X8_in (fun r5 M5 N5 hr5 hq5 => ?_)
    obtain ⟨z5, rfl, rfl⟩ := hq5
    have z5 := bit_iff z5
    refine go_if_eq (tgt := 62) dX8_form_38 rfl (fun h38 => ?_) (fun h38 => ?_)
    · refine go_aload_n dX8_form_62 rfl rfl ?_
      refine go_iconst dX8_form_63 (R32_lit rfl) ?_
      refine v8_432 dX8_form_64 rfl ⟨rfl, rfl⟩ ⟨rfl, rfl⟩ ct_X8_nothing (fun r8 M8 N8 hr8 hq8 => ?_)
      refine go_retl dX8_form_67 ?_
      first
      | (obtain ⟨rfl, rfl, rfl⟩ := hq8
         exact ⟨Or.inr ⟨by omega, rfl, F8k.no⟩, rfl⟩)
      | exact ⟨Or.inl ⟨by omega, hy, F8k⟩, rfl⟩
    · refine go_aload_n dX8_form_41 rfl rfl ?_
      refine g8_65 dX8_form_42 ?_
      refine go_aload_n dX8_form_45 rfl rfl ?_
      refine go_iload_n dX8_form_46 rfl ?_
      refine go_iload_n dX8_form_47 rfl ?_
      refine v8_428 dX8_form_48 rfl ⟨rfl, rfl⟩ ⟨rfl, rfl⟩ (ct_X8_rowOf hv.1 (by omega)) (fun r6 M6 N6 hr6 hq6 => ?_)
      obtain ⟨z6, rfl, rfl⟩ := hq6
      have rb : 0 ≤ r6 ∧ r6 < 30 := by rw [z6]; split <;> omega
      have er : ψ r6 = (sK S W (S 11 0).toNat).1 (if d = 0 then v.toNat else 15 + v.toNat) := by
        rw [z6]
        split
        · have := q2 v.toNat (by omega); rw [Int.toNat_of_nonneg hv.1] at this; exact this
        · have := q2 (15 + v.toNat) (by omega); rw [show ((15 + v.toNat : Nat) : Int) = 15 + v by omega] at this; exact this
      clear z6
      refine v8_358 dX8_form_51 rfl ⟨rfl, rfl⟩ ⟨rfl, rfl⟩ (ct_X8_middle rb.1 (by omega)) (fun r7 M7 N7 hr7 hq7 => ?_)
      obtain ⟨z7, rfl, rfl⟩ := hq7
      subst z7
      refine go_iconst dX8_form_54 (R32_lit rfl) ?_
      refine go_iaddc dX8_form_55 ⟨by omega, by omega⟩ ?_
      refine go_iload_n dX8_form_56 rfl ?_
      refine go_iaddc dX8_form_57 ⟨by omega, by omega⟩ ?_
      refine go_lald dX8_form_58 rfl (by omega) (by omega) ?_
      refine go_nml (fun y ey => ?_)
      have hy : y = (if k = -1 then ((sK S W (S 11 0).toNat).1 (if d = 0 then v.toNat else 15 + v.toNat)).1 else ((sK S W (S 11 0).toNat).1 (if d = 0 then v.toNat else 15 + v.toNat)).2 k) := by
        rw [ey]
        obtain ⟨e0, e1⟩ := q1.1 r6 rb.1 (by omega)
        rw [er] at e0 e1
        by_cases z : k = -1
        · rw [if_pos z, ← e0, z, show 81 * r6 + 1 + -1 = 81 * r6 by omega]
        · rw [if_neg z, ← e1 k (by omega) (by omega)]
      clear ey
      refine go_goto (tgt := 67) dX8_form_59 rfl ?_
      refine go_retl dX8_form_67 ?_
      first
      | (obtain ⟨rfl, rfl, rfl⟩ := hq8
         exact ⟨Or.inr ⟨by omega, rfl, F8k.no⟩, rfl⟩)
      | exact ⟨Or.inl ⟨by omega, hy, F8k⟩, rfl⟩
  · refine c8_111 dX8_form_15 ?_
    refine go_retl dX8_form_18 ?_
    exact ⟨Or.inr ⟨by omega, rfl, by rw [show r2 = 1 by omega]; exact F8.rf⟩, rfl⟩
set_option maxRecDepth 100000 in
set_option maxHeartbeats 4000000 in
theorem ct_X8_reach {E : Ev} {M : Mm} {N : Nn} {S : Pg} {W : Int → Bool} {v d w : Int} (hQ : QR S M) (hW : WF S) (hB : ∀ v, 0 ≤ v → v < S 11 0 → W v = true) (hNE : ∀ v : Nat, (v : Int) < S 11 0 → NEq S (sK S W v).1 v) : Ct E yX8_reach cX8_reach 5 ((some .long)) (rmH 9) [vr (29, 0, 0), vi v, vi d, vi w] M N (ql (fun r M1 N1 => ((0 ≤ v ∧ v < S 11 0 ∧ 0 ≤ w ∧ w ≤ 2) ∧ r = (if w = 0 then flo ((sK S W (S 11 0).toNat).1 (if d = 0 then v.toNat else 15 + v.toNat)) else if w = 1 then fhi ((sK S W (S 11 0).toNat).1 (if d = 0 then v.toNat else 15 + v.toNat)) else fra ((sK S W (S 11 0).toNat).1 (if d = 0 then v.toNat else 15 + v.toNat))) ∧ F8 (rfM M 0) M1 ∨ ¬ (0 ≤ v ∧ v < S 11 0 ∧ 0 ≤ w ∧ w ≤ 2) ∧ r = -9223372036854775808 ∧ F8 (rfM M 1) M1) ∧ N = N1)) := by
  refine ct_of (own := RX8) (L0 := [vr (29, 0, 0), vi v, vi d, vi w, vn]) rfl (by decide +kernel) rfl rfl ?_
  have c6 := hQ.1
  have c5 := hQ.2.2.1
  have c0 := hQ.2.1
  refine go_aload_n dX8_reach_0 rfl rfl ?_
  refine go_aload_n dX8_reach_1 rfl rfl ?_
  refine go_iload_n dX8_reach_2 rfl ?_
  refine v8_285 dX8_reach_3 rfl ⟨rfl, rfl⟩ ⟨rfl, rfl⟩ (ct_X8_isVariable hQ) (fun r1 M1 N1 hr1 hq1 => ?_)
  obtain ⟨z1, rfl, rfl⟩ := hq1
  have z1 := bit_iff z1
  refine go_if_eq (tgt := 25) dX8_reach_6 rfl (fun h6 => ?_) (fun h6 => ?_)
  · refine go_iconst dX8_reach_25 (R32_lit rfl) ?_
    refine v8_292 dX8_reach_26 rfl ⟨rfl, rfl⟩ ⟨rfl, rfl⟩ ct_X8_unless (fun r3 M3 N3 hr3 hq3 => ?_)
    obtain ⟨z3, rfl, rfl⟩ := hq3
    have z3 := bit_iff z3
    refine v8_269 dX8_reach_29 rfl ⟨rfl, rfl⟩ ⟨rfl, rfl⟩ ct_X8_isRefused (fun r4 M4 N4 hr4 hq4 => ?_)
    obtain ⟨z4, rfl, rfl⟩ := hq4
    have z4 := bit_iff z4
    refine go_if_eq (tgt := 39) dX8_reach_32 rfl (fun h32 => ?_) (fun h32 => ?_)
    · have hv : 0 ≤ v ∧ v < S 11 0 := by omega
      rw [show r3 = 0 by omega]
      have hok : 0 ≤ v ∧ v < S 11 0 ∧ 0 ≤ w ∧ w ≤ 2 := by omega
      refine go_aload_n dX8_reach_39 rfl rfl ?_
      refine v8_299 dX8_reach_40 rfl ⟨rfl, rfl⟩ ⟨rfl, rfl⟩ (ct_X8_laysForms (rfM_Q hQ) hW hB hNE) (fun M5 N5 hq5 => ?_)
      obtain ⟨ψ, q1, q2, q3, q4, rfl⟩ := hq5
      have F8k := F8.of q4 (by decide) (by decide)
      obtain ⟨n1, n2, n3, n4⟩ := q1.2.1
      refine go_aload_n dX8_reach_43 rfl rfl ?_
      refine go_iload_n dX8_reach_44 rfl ?_
      refine go_iload_n dX8_reach_45 rfl ?_
      refine v8_428 dX8_reach_46 rfl ⟨rfl, rfl⟩ ⟨rfl, rfl⟩ (ct_X8_rowOf hv.1 (by omega)) (fun r6 M6 N6 hr6 hq6 => ?_)
      obtain ⟨z6, rfl, rfl⟩ := hq6
      have rb : 0 ≤ r6 ∧ r6 < 30 := by rw [z6]; split <;> omega
      have er : ψ r6 = (sK S W (S 11 0).toNat).1 (if d = 0 then v.toNat else 15 + v.toNat) := by
        rw [z6]
        split
        · have := q2 v.toNat (by omega); rw [Int.toNat_of_nonneg hv.1] at this; exact this
        · have := q2 (15 + v.toNat) (by omega); rw [show ((15 + v.toNat : Nat) : Int) = 15 + v by omega] at this; exact this
      clear z6
      refine go_ist4 dX8_reach_49 rfl rfl ?_
      refine go_iload_n dX8_reach_51 rfl ?_
      refine go_if_ne (tgt := 64) dX8_reach_52 rfl (fun h52 => ?_) (fun h52 => ?_)
      · refine go_iload_n dX8_reach_64 rfl ?_
        refine go_iconst dX8_reach_65 (R32_lit rfl) ?_
        refine go_icmp_ne (tgt := 78) dX8_reach_66 rfl (fun h66 => ?_) (fun h66 => ?_)
        · refine go_aload_n dX8_reach_78 rfl rfl ?_
          refine go_iload dX8_reach_79 rfl ?_
          refine v8_361 dX8_reach_81 rfl ⟨rfl, rfl⟩ ⟨rfl, rfl⟩ (ct_X8_radius q1 rb.1 (by omega)) (fun r9 M9 N9 hr9 hq9 => ?_)
          skip
          refine go_retl dX8_reach_84 ?_
          first | obtain ⟨rfl, rfl, rfl⟩ := hq9 | skip
          refine ⟨Or.inl ⟨hok, ?_, F8k⟩, rfl⟩
          first
          | (rw [if_neg (show ¬ w = 0 by omega), if_neg (show ¬ w = 1 by omega), er]; done)
          | (rw [if_pos (show w = 0 by omega), er]; done)
          | (rw [if_neg (show ¬ w = 0 by omega), if_pos (show w = 1 by omega), er]; done)
        · refine go_aload_n dX8_reach_69 rfl rfl ?_
          refine go_iload dX8_reach_70 rfl ?_
          refine v8_382 dX8_reach_72 rfl ⟨rfl, rfl⟩ ⟨rfl, rfl⟩ (ct_X8_greatestOf q1 rb.1 (by omega)) (fun r8 M8 N8 hr8 hq8 => ?_)
          obtain ⟨z8, rfl, rfl⟩ := hq8
          subst z8
          refine go_goto (tgt := 84) dX8_reach_75 rfl ?_
          skip
          refine go_retl dX8_reach_84 ?_
          first | obtain ⟨rfl, rfl, rfl⟩ := hq9 | skip
          refine ⟨Or.inl ⟨hok, ?_, F8k⟩, rfl⟩
          first
          | (rw [if_neg (show ¬ w = 0 by omega), if_neg (show ¬ w = 1 by omega), er]; done)
          | (rw [if_pos (show w = 0 by omega), er]; done)
          | (rw [if_neg (show ¬ w = 0 by omega), if_pos (show w = 1 by omega), er]; done)
      · refine go_aload_n dX8_reach_55 rfl rfl ?_
        refine go_iload dX8_reach_56 rfl ?_
        refine v8_379 dX8_reach_58 rfl ⟨rfl, rfl⟩ ⟨rfl, rfl⟩ (ct_X8_leastOf q1 rb.1 (by omega)) (fun r7 M7 N7 hr7 hq7 => ?_)
        obtain ⟨z7, rfl, rfl⟩ := hq7
        subst z7
        refine go_goto (tgt := 84) dX8_reach_61 rfl ?_
        skip
        refine go_retl dX8_reach_84 ?_
        first | obtain ⟨rfl, rfl, rfl⟩ := hq9 | skip
        refine ⟨Or.inl ⟨hok, ?_, F8k⟩, rfl⟩
        first
        | (rw [if_neg (show ¬ w = 0 by omega), if_neg (show ¬ w = 1 by omega), er]; done)
        | (rw [if_pos (show w = 0 by omega), er]; done)
        | (rw [if_neg (show ¬ w = 0 by omega), if_pos (show w = 1 by omega), er]; done)
    · refine c8_111 dX8_reach_35 ?_
      refine go_retl dX8_reach_38 ?_
      exact ⟨Or.inr ⟨by omega, rfl, by rw [show r3 = 1 by omega]; exact F8.rf⟩, rfl⟩
  · refine go_iload_n dX8_reach_9 rfl ?_
    refine go_i2l dX8_reach_10 ?_
    refine go_lconst (x := 0) dX8_reach_11 rfl ?_
    refine c8_255 dX8_reach_12 ?_
    refine v8_140 dX8_reach_15 rfl ⟨rfl, rfl⟩ ⟨rfl, rfl⟩ ct_X8_in (fun r2 M2 N2 hr2 hq2 => ?_)
    obtain ⟨z2, rfl, rfl⟩ := hq2
    have z2 := bit_iff z2
    refine go_if_eq (tgt := 25) dX8_reach_18 rfl (fun h18 => ?_) (fun h18 => ?_)
    · refine go_iconst dX8_reach_25 (R32_lit rfl) ?_
      refine v8_292 dX8_reach_26 rfl ⟨rfl, rfl⟩ ⟨rfl, rfl⟩ ct_X8_unless (fun r3 M3 N3 hr3 hq3 => ?_)
      obtain ⟨z3, rfl, rfl⟩ := hq3
      have z3 := bit_iff z3
      refine v8_269 dX8_reach_29 rfl ⟨rfl, rfl⟩ ⟨rfl, rfl⟩ ct_X8_isRefused (fun r4 M4 N4 hr4 hq4 => ?_)
      obtain ⟨z4, rfl, rfl⟩ := hq4
      have z4 := bit_iff z4
      refine go_if_eq (tgt := 39) dX8_reach_32 rfl (fun h32 => ?_) (fun h32 => ?_)
      · have hv : 0 ≤ v ∧ v < S 11 0 := by omega
        rw [show r3 = 0 by omega]
        have hok : 0 ≤ v ∧ v < S 11 0 ∧ 0 ≤ w ∧ w ≤ 2 := by omega
        refine go_aload_n dX8_reach_39 rfl rfl ?_
        refine v8_299 dX8_reach_40 rfl ⟨rfl, rfl⟩ ⟨rfl, rfl⟩ (ct_X8_laysForms (rfM_Q hQ) hW hB hNE) (fun M5 N5 hq5 => ?_)
        obtain ⟨ψ, q1, q2, q3, q4, rfl⟩ := hq5
        have F8k := F8.of q4 (by decide) (by decide)
        obtain ⟨n1, n2, n3, n4⟩ := q1.2.1
        refine go_aload_n dX8_reach_43 rfl rfl ?_
        refine go_iload_n dX8_reach_44 rfl ?_
        refine go_iload_n dX8_reach_45 rfl ?_
        refine v8_428 dX8_reach_46 rfl ⟨rfl, rfl⟩ ⟨rfl, rfl⟩ (ct_X8_rowOf hv.1 (by omega)) (fun r6 M6 N6 hr6 hq6 => ?_)
        obtain ⟨z6, rfl, rfl⟩ := hq6
        have rb : 0 ≤ r6 ∧ r6 < 30 := by rw [z6]; split <;> omega
        have er : ψ r6 = (sK S W (S 11 0).toNat).1 (if d = 0 then v.toNat else 15 + v.toNat) := by
          rw [z6]
          split
          · have := q2 v.toNat (by omega); rw [Int.toNat_of_nonneg hv.1] at this; exact this
          · have := q2 (15 + v.toNat) (by omega); rw [show ((15 + v.toNat : Nat) : Int) = 15 + v by omega] at this; exact this
        clear z6
        refine go_ist4 dX8_reach_49 rfl rfl ?_
        refine go_iload_n dX8_reach_51 rfl ?_
        refine go_if_ne (tgt := 64) dX8_reach_52 rfl (fun h52 => ?_) (fun h52 => ?_)
        · refine go_iload_n dX8_reach_64 rfl ?_
          refine go_iconst dX8_reach_65 (R32_lit rfl) ?_
          refine go_icmp_ne (tgt := 78) dX8_reach_66 rfl (fun h66 => ?_) (fun h66 => ?_)
          · refine go_aload_n dX8_reach_78 rfl rfl ?_
            refine go_iload dX8_reach_79 rfl ?_
            refine v8_361 dX8_reach_81 rfl ⟨rfl, rfl⟩ ⟨rfl, rfl⟩ (ct_X8_radius q1 rb.1 (by omega)) (fun r9 M9 N9 hr9 hq9 => ?_)
            skip
            refine go_retl dX8_reach_84 ?_
            first | obtain ⟨rfl, rfl, rfl⟩ := hq9 | skip
            refine ⟨Or.inl ⟨hok, ?_, F8k⟩, rfl⟩
            first
            | (rw [if_neg (show ¬ w = 0 by omega), if_neg (show ¬ w = 1 by omega), er]; done)
            | (rw [if_pos (show w = 0 by omega), er]; done)
            | (rw [if_neg (show ¬ w = 0 by omega), if_pos (show w = 1 by omega), er]; done)
          · refine go_aload_n dX8_reach_69 rfl rfl ?_
            refine go_iload dX8_reach_70 rfl ?_
            refine v8_382 dX8_reach_72 rfl ⟨rfl, rfl⟩ ⟨rfl, rfl⟩ (ct_X8_greatestOf q1 rb.1 (by omega)) (fun r8 M8 N8 hr8 hq8 => ?_)
            obtain ⟨z8, rfl, rfl⟩ := hq8
            subst z8
            refine go_goto (tgt := 84) dX8_reach_75 rfl ?_
            skip
            refine go_retl dX8_reach_84 ?_
            first | obtain ⟨rfl, rfl, rfl⟩ := hq9 | skip
            refine ⟨Or.inl ⟨hok, ?_, F8k⟩, rfl⟩
            first
            | (rw [if_neg (show ¬ w = 0 by omega), if_neg (show ¬ w = 1 by omega), er]; done)
            | (rw [if_pos (show w = 0 by omega), er]; done)
            | (rw [if_neg (show ¬ w = 0 by omega), if_pos (show w = 1 by omega), er]; done)
        · refine go_aload_n dX8_reach_55 rfl rfl ?_
          refine go_iload dX8_reach_56 rfl ?_
          refine v8_379 dX8_reach_58 rfl ⟨rfl, rfl⟩ ⟨rfl, rfl⟩ (ct_X8_leastOf q1 rb.1 (by omega)) (fun r7 M7 N7 hr7 hq7 => ?_)
          obtain ⟨z7, rfl, rfl⟩ := hq7
          subst z7
          refine go_goto (tgt := 84) dX8_reach_61 rfl ?_
          skip
          refine go_retl dX8_reach_84 ?_
          first | obtain ⟨rfl, rfl, rfl⟩ := hq9 | skip
          refine ⟨Or.inl ⟨hok, ?_, F8k⟩, rfl⟩
          first
          | (rw [if_neg (show ¬ w = 0 by omega), if_neg (show ¬ w = 1 by omega), er]; done)
          | (rw [if_pos (show w = 0 by omega), er]; done)
          | (rw [if_neg (show ¬ w = 0 by omega), if_pos (show w = 1 by omega), er]; done)
      · refine c8_111 dX8_reach_35 ?_
        refine go_retl dX8_reach_38 ?_
        exact ⟨Or.inr ⟨by omega, rfl, by rw [show r3 = 1 by omega]; exact F8.rf⟩, rfl⟩
    · refine go_iconst dX8_reach_21 (R32_lit rfl) ?_
      refine go_goto (tgt := 26) dX8_reach_22 rfl ?_
      refine v8_292 dX8_reach_26 rfl ⟨rfl, rfl⟩ ⟨rfl, rfl⟩ ct_X8_unless (fun r3 M3 N3 hr3 hq3 => ?_)
      obtain ⟨z3, rfl, rfl⟩ := hq3
      have z3 := bit_iff z3
      refine v8_269 dX8_reach_29 rfl ⟨rfl, rfl⟩ ⟨rfl, rfl⟩ ct_X8_isRefused (fun r4 M4 N4 hr4 hq4 => ?_)
      obtain ⟨z4, rfl, rfl⟩ := hq4
      have z4 := bit_iff z4
      refine go_if_eq (tgt := 39) dX8_reach_32 rfl (fun h32 => ?_) (fun h32 => ?_)
      · have hv : 0 ≤ v ∧ v < S 11 0 := by omega
        rw [show r3 = 0 by omega]
        have hok : 0 ≤ v ∧ v < S 11 0 ∧ 0 ≤ w ∧ w ≤ 2 := by omega
        refine go_aload_n dX8_reach_39 rfl rfl ?_
        refine v8_299 dX8_reach_40 rfl ⟨rfl, rfl⟩ ⟨rfl, rfl⟩ (ct_X8_laysForms (rfM_Q hQ) hW hB hNE) (fun M5 N5 hq5 => ?_)
        obtain ⟨ψ, q1, q2, q3, q4, rfl⟩ := hq5
        have F8k := F8.of q4 (by decide) (by decide)
        obtain ⟨n1, n2, n3, n4⟩ := q1.2.1
        refine go_aload_n dX8_reach_43 rfl rfl ?_
        refine go_iload_n dX8_reach_44 rfl ?_
        refine go_iload_n dX8_reach_45 rfl ?_
        refine v8_428 dX8_reach_46 rfl ⟨rfl, rfl⟩ ⟨rfl, rfl⟩ (ct_X8_rowOf hv.1 (by omega)) (fun r6 M6 N6 hr6 hq6 => ?_)
        obtain ⟨z6, rfl, rfl⟩ := hq6
        have rb : 0 ≤ r6 ∧ r6 < 30 := by rw [z6]; split <;> omega
        have er : ψ r6 = (sK S W (S 11 0).toNat).1 (if d = 0 then v.toNat else 15 + v.toNat) := by
          rw [z6]
          split
          · have := q2 v.toNat (by omega); rw [Int.toNat_of_nonneg hv.1] at this; exact this
          · have := q2 (15 + v.toNat) (by omega); rw [show ((15 + v.toNat : Nat) : Int) = 15 + v by omega] at this; exact this
        clear z6
        refine go_ist4 dX8_reach_49 rfl rfl ?_
        refine go_iload_n dX8_reach_51 rfl ?_
        refine go_if_ne (tgt := 64) dX8_reach_52 rfl (fun h52 => ?_) (fun h52 => ?_)
        · refine go_iload_n dX8_reach_64 rfl ?_
          refine go_iconst dX8_reach_65 (R32_lit rfl) ?_
          refine go_icmp_ne (tgt := 78) dX8_reach_66 rfl (fun h66 => ?_) (fun h66 => ?_)
          · refine go_aload_n dX8_reach_78 rfl rfl ?_
            refine go_iload dX8_reach_79 rfl ?_
            refine v8_361 dX8_reach_81 rfl ⟨rfl, rfl⟩ ⟨rfl, rfl⟩ (ct_X8_radius q1 rb.1 (by omega)) (fun r9 M9 N9 hr9 hq9 => ?_)
            skip
            refine go_retl dX8_reach_84 ?_
            first | obtain ⟨rfl, rfl, rfl⟩ := hq9 | skip
            refine ⟨Or.inl ⟨hok, ?_, F8k⟩, rfl⟩
            first
            | (rw [if_neg (show ¬ w = 0 by omega), if_neg (show ¬ w = 1 by omega), er]; done)
            | (rw [if_pos (show w = 0 by omega), er]; done)
            | (rw [if_neg (show ¬ w = 0 by omega), if_pos (show w = 1 by omega), er]; done)
          · refine go_aload_n dX8_reach_69 rfl rfl ?_
            refine go_iload dX8_reach_70 rfl ?_
            refine v8_382 dX8_reach_72 rfl ⟨rfl, rfl⟩ ⟨rfl, rfl⟩ (ct_X8_greatestOf q1 rb.1 (by omega)) (fun r8 M8 N8 hr8 hq8 => ?_)
            obtain ⟨z8, rfl, rfl⟩ := hq8
            subst z8
            refine go_goto (tgt := 84) dX8_reach_75 rfl ?_
            skip
            refine go_retl dX8_reach_84 ?_
            first | obtain ⟨rfl, rfl, rfl⟩ := hq9 | skip
            refine ⟨Or.inl ⟨hok, ?_, F8k⟩, rfl⟩
            first
            | (rw [if_neg (show ¬ w = 0 by omega), if_neg (show ¬ w = 1 by omega), er]; done)
            | (rw [if_pos (show w = 0 by omega), er]; done)
            | (rw [if_neg (show ¬ w = 0 by omega), if_pos (show w = 1 by omega), er]; done)
        · refine go_aload_n dX8_reach_55 rfl rfl ?_
          refine go_iload dX8_reach_56 rfl ?_
          refine v8_379 dX8_reach_58 rfl ⟨rfl, rfl⟩ ⟨rfl, rfl⟩ (ct_X8_leastOf q1 rb.1 (by omega)) (fun r7 M7 N7 hr7 hq7 => ?_)
          obtain ⟨z7, rfl, rfl⟩ := hq7
          subst z7
          refine go_goto (tgt := 84) dX8_reach_61 rfl ?_
          skip
          refine go_retl dX8_reach_84 ?_
          first | obtain ⟨rfl, rfl, rfl⟩ := hq9 | skip
          refine ⟨Or.inl ⟨hok, ?_, F8k⟩, rfl⟩
          first
          | (rw [if_neg (show ¬ w = 0 by omega), if_neg (show ¬ w = 1 by omega), er]; done)
          | (rw [if_pos (show w = 0 by omega), er]; done)
          | (rw [if_neg (show ¬ w = 0 by omega), if_pos (show w = 1 by omega), er]; done)
      · refine c8_111 dX8_reach_35 ?_
        refine go_retl dX8_reach_38 ?_
        exact ⟨Or.inr ⟨by omega, rfl, by rw [show r3 = 1 by omega]; exact F8.rf⟩, rfl⟩
set_option maxRecDepth 100000 in
set_option maxHeartbeats 4000000 in
theorem ct_X8_bound {E : Ev} {M : Mm} {N : Nn} {S : Pg} {W : Int → Bool} {v : Int} (hQ : QR S M) (hW : WF S) (hB : ∀ v, 0 ≤ v → v < S 11 0 → W v = true) (hNE : ∀ v : Nat, (v : Int) < S 11 0 → NEq S (sK S W v).1 v) : Ct E yX8_bound cX8_bound 2 ((some .long)) (rmH 9) [vr (29, 0, 0), vi v] M N (ql (fun r M1 N1 => ((0 ≤ v ∧ v < S 11 0) ∧ r = bdR ((sK S W (S 11 0).toNat).1 (15 + v.toNat)) ∧ F8 (rfM M 0) M1 ∨ ¬ (0 ≤ v ∧ v < S 11 0) ∧ r = -9223372036854775808 ∧ F8 (rfM M 1) M1) ∧ N = N1)) := by
  refine ct_of (own := RX8) (L0 := [vr (29, 0, 0), vi v]) rfl (by decide +kernel) rfl rfl ?_
  have c6 := hQ.1
  have c5 := hQ.2.2.1
  have c0 := hQ.2.1
  refine go_aload_n dX8_bound_0 rfl rfl ?_
  refine go_aload_n dX8_bound_1 rfl rfl ?_
  refine go_iload_n dX8_bound_2 rfl ?_
  refine v8_285 dX8_bound_3 rfl ⟨rfl, rfl⟩ ⟨rfl, rfl⟩ (ct_X8_isVariable hQ) (fun r1 M1 N1 hr1 hq1 => ?_)
  obtain ⟨z1, rfl, rfl⟩ := hq1
  have z1 := bit_iff z1
  refine v8_292 dX8_bound_6 rfl ⟨rfl, rfl⟩ ⟨rfl, rfl⟩ ct_X8_unless (fun r2 M2 N2 hr2 hq2 => ?_)
  obtain ⟨z2, rfl, rfl⟩ := hq2
  have z2 := bit_iff z2
  refine v8_269 dX8_bound_9 rfl ⟨rfl, rfl⟩ ⟨rfl, rfl⟩ ct_X8_isRefused (fun r3 M3 N3 hr3 hq3 => ?_)
  obtain ⟨z3, rfl, rfl⟩ := hq3
  have z3 := bit_iff z3
  refine go_if_eq (tgt := 19) dX8_bound_12 rfl (fun h12 => ?_) (fun h12 => ?_)
  · have hv : 0 ≤ v ∧ v < S 11 0 := by omega
    rw [show r2 = 0 by omega]
    refine go_aload_n dX8_bound_19 rfl rfl ?_
    refine v8_299 dX8_bound_20 rfl ⟨rfl, rfl⟩ ⟨rfl, rfl⟩ (ct_X8_laysForms (rfM_Q hQ) hW hB hNE) (fun M4 N4 hq4 => ?_)
    obtain ⟨ψ, q1, q2, q3, q4, rfl⟩ := hq4
    have F8k := F8.of q4 (by decide) (by decide)
    obtain ⟨n1, n2, n3, n4⟩ := q1.2.1
    have w15 : ψ (15 + v) = (sK S W (S 11 0).toNat).1 (15 + v.toNat) := by
      have := q2 (15 + v.toNat) (by omega)
      rw [show ((15 + v.toNat : Nat) : Int) = 15 + v by omega] at this
      exact this
    refine go_aload_n dX8_bound_23 rfl rfl ?_
    refine go_iload_n dX8_bound_24 rfl ?_
    refine v8_435 dX8_bound_25 rfl ⟨rfl, rfl⟩ ⟨rfl, rfl⟩ (ct_X8_boundOf q1 hv.1 (by omega)) (fun r5 M5 N5 hr5 hq5 => ?_)
    obtain ⟨z5, rfl, rfl⟩ := hq5
    subst z5
    refine go_retl dX8_bound_28 ?_
    exact ⟨Or.inl ⟨hv, by rw [w15], F8k⟩, rfl⟩
  · refine c8_111 dX8_bound_15 ?_
    refine go_retl dX8_bound_18 ?_
    exact ⟨Or.inr ⟨by omega, rfl, by rw [show r2 = 1 by omega]; exact F8.rf⟩, rfl⟩
set_option maxRecDepth 100000 in
set_option maxHeartbeats 4000000 in
theorem ct_X8_noise {E : Ev} {M : Mm} {N : Nn} {S : Pg} {W : Int → Bool} {k w : Int} (hQ : QR S M) (hW : WF S) (hB : ∀ v, 0 ≤ v → v < S 11 0 → W v = true) (hNE : ∀ v : Nat, (v : Int) < S 11 0 → NEq S (sK S W v).1 v) : Ct E yX8_noise cX8_noise 3 ((some .int)) (rmH 9) [vr (29, 0, 0), vi k, vi w] M N (qi (fun r M1 N1 => ((S 11 0 ≠ 0 ∧ 0 ≤ k ∧ k < (sK S W (S 11 0).toNat).2.1.1 ∧ 0 ≤ w ∧ w ≤ 1) ∧ r = (if w = 0 then (sK S W (S 11 0).toNat).2.1.2.1 k else (sK S W (S 11 0).toNat).2.1.2.2 k) ∧ F8 (rfM M 0) M1 ∨ ¬ (S 11 0 ≠ 0 ∧ 0 ≤ k ∧ k < (sK S W (S 11 0).toNat).2.1.1 ∧ 0 ≤ w ∧ w ≤ 1) ∧ r = -1 ∧ F8 (rfM M 1) M1) ∧ N = N1)) := by
  refine ct_of (own := RX8) (L0 := [vr (29, 0, 0), vi k, vi w]) rfl (by decide +kernel) rfl rfl ?_
  have c6 := hQ.1
  have c5 := hQ.2.2.1
  have c0 := hQ.2.1
  have it := hQ.2.2.2.1
  refine go_aload_n dX8_noise_0 rfl rfl ?_
  refine go_aload_n dX8_noise_1 rfl rfl ?_
  refine g8_281 dX8_noise_2 ?_
  refine go_if_eq (tgt := 22) dX8_noise_5 rfl (fun h5 => ?_) (fun h5 => ?_)
  · refine go_iconst dX8_noise_22 (R32_lit rfl) ?_
    refine v8_292 dX8_noise_23 rfl ⟨rfl, rfl⟩ ⟨rfl, rfl⟩ ct_X8_unless (fun r2 M2 N2 hr2 hq2 => ?_)
    obtain ⟨z2, rfl, rfl⟩ := hq2
    have z2 := bit_iff z2
    refine v8_269 dX8_noise_26 rfl ⟨rfl, rfl⟩ ⟨rfl, rfl⟩ ct_X8_isRefused (fun r3 M3 N3 hr3 hq3 => ?_)
    obtain ⟨z3, rfl, rfl⟩ := hq3
    have z3 := bit_iff z3
    refine go_if_eq (tgt := 34) dX8_noise_29 rfl (fun h29 => ?_) (fun h29 => ?_)
    · have h11 : S 11 0 ≠ 0 ∧ 0 ≤ w ∧ w ≤ 1 := by omega
      rw [show r2 = 0 by omega]
      refine go_aload_n dX8_noise_34 rfl rfl ?_
      refine v8_299 dX8_noise_35 rfl ⟨rfl, rfl⟩ ⟨rfl, rfl⟩ (ct_X8_laysForms (rfM_Q hQ) hW hB hNE) (fun M4 N4 hq4 => ?_)
      obtain ⟨ψ, q1, q2, q3, q4, rfl⟩ := hq4
      have F8k := F8.of q4 (by decide) (by decide)
      obtain ⟨n1, n2, n3, n4⟩ := q1.2.1
      refine go_iload_n dX8_noise_38 rfl ?_
      refine go_i2l dX8_noise_39 ?_
      refine go_lconst (x := 0) dX8_noise_40 rfl ?_
      refine go_aload_n dX8_noise_41 rfl rfl ?_
      refine g8_302 dX8_noise_42 ?_
      rw [n1]
      refine go_iconst dX8_noise_45 (R32_lit rfl) ?_
      refine go_isubc dX8_noise_46 ⟨by omega, by omega⟩ ?_
      refine go_i2l dX8_noise_47 ?_
      refine v8_140 dX8_noise_48 rfl ⟨rfl, rfl⟩ ⟨rfl, rfl⟩ ct_X8_in (fun r5 M5 N5 hr5 hq5 => ?_)
      obtain ⟨z5, rfl, rfl⟩ := hq5
      have z5 := bit_iff z5
      refine go_if_ne (tgt := 60) dX8_noise_51 rfl (fun h51 => ?_) (fun h51 => ?_)
      · have hok : S 11 0 ≠ 0 ∧ 0 ≤ k ∧ k < (sK S W (S 11 0).toNat).2.1.1 ∧ 0 ≤ w ∧ w ≤ 1 := by omega
        obtain ⟨y1, y2⟩ := n4 k (by omega) (by omega)
        refine go_iload_n dX8_noise_60 rfl ?_
        refine go_if_ne (tgt := 73) dX8_noise_61 rfl (fun h61 => ?_) (fun h61 => ?_)
        · refine go_aload_n dX8_noise_73 rfl rfl ?_
          refine g8_71 dX8_noise_74 ?_
          refine go_iload_n dX8_noise_77 rfl ?_
          refine go_iald dX8_noise_78 rfl (by omega) (by omega) ?_
          first | rw [y2] | skip
          refine go_reti dX8_noise_79 ?_
          refine ⟨Or.inl ⟨hok, ?_, F8k⟩, rfl⟩
          first
          | (rw [if_pos (show w = 0 by omega)]; done)
          | (rw [if_neg (show ¬ w = 0 by omega)]; done)
        · refine go_aload_n dX8_noise_64 rfl rfl ?_
          refine g8_68 dX8_noise_65 ?_
          refine go_iload_n dX8_noise_68 rfl ?_
          refine go_iald dX8_noise_69 rfl (by omega) (by omega) ?_
          rw [y1]
          refine go_goto (tgt := 79) dX8_noise_70 rfl ?_
          first | rw [y2] | skip
          refine go_reti dX8_noise_79 ?_
          refine ⟨Or.inl ⟨hok, ?_, F8k⟩, rfl⟩
          first
          | (rw [if_pos (show w = 0 by omega)]; done)
          | (rw [if_neg (show ¬ w = 0 by omega)]; done)
      · refine go_aload_n dX8_noise_54 rfl rfl ?_
        refine go_iconst dX8_noise_55 (R32_lit rfl) ?_
        refine v8_278 dX8_noise_56 rfl ⟨rfl, rfl⟩ ⟨rfl, rfl⟩ ct_X8_no (fun r6 M6 N6 hr6 hq6 => ?_)
        refine go_reti dX8_noise_59 ?_
        obtain ⟨rfl, rfl, rfl⟩ := hq6
        exact ⟨Or.inr ⟨by omega, rfl, F8k.no⟩, rfl⟩
    · refine go_iconst dX8_noise_32 (R32_lit rfl) ?_
      refine go_reti dX8_noise_33 ?_
      exact ⟨Or.inr ⟨by omega, rfl, by rw [show r2 = 1 by omega]; exact F8.rf⟩, rfl⟩
  · refine go_iload_n dX8_noise_8 rfl ?_
    refine go_i2l dX8_noise_9 ?_
    refine go_lconst (x := 0) dX8_noise_10 rfl ?_
    refine go_lconst (x := 1) dX8_noise_11 rfl ?_
    refine v8_140 dX8_noise_12 rfl ⟨rfl, rfl⟩ ⟨rfl, rfl⟩ ct_X8_in (fun r1 M1 N1 hr1 hq1 => ?_)
    obtain ⟨z1, rfl, rfl⟩ := hq1
    have z1 := bit_iff z1
    refine go_if_eq (tgt := 22) dX8_noise_15 rfl (fun h15 => ?_) (fun h15 => ?_)
    · refine go_iconst dX8_noise_22 (R32_lit rfl) ?_
      refine v8_292 dX8_noise_23 rfl ⟨rfl, rfl⟩ ⟨rfl, rfl⟩ ct_X8_unless (fun r2 M2 N2 hr2 hq2 => ?_)
      obtain ⟨z2, rfl, rfl⟩ := hq2
      have z2 := bit_iff z2
      refine v8_269 dX8_noise_26 rfl ⟨rfl, rfl⟩ ⟨rfl, rfl⟩ ct_X8_isRefused (fun r3 M3 N3 hr3 hq3 => ?_)
      obtain ⟨z3, rfl, rfl⟩ := hq3
      have z3 := bit_iff z3
      refine go_if_eq (tgt := 34) dX8_noise_29 rfl (fun h29 => ?_) (fun h29 => ?_)
      · have h11 : S 11 0 ≠ 0 ∧ 0 ≤ w ∧ w ≤ 1 := by omega
        rw [show r2 = 0 by omega]
        refine go_aload_n dX8_noise_34 rfl rfl ?_
        refine v8_299 dX8_noise_35 rfl ⟨rfl, rfl⟩ ⟨rfl, rfl⟩ (ct_X8_laysForms (rfM_Q hQ) hW hB hNE) (fun M4 N4 hq4 => ?_)
        obtain ⟨ψ, q1, q2, q3, q4, rfl⟩ := hq4
        have F8k := F8.of q4 (by decide) (by decide)
        obtain ⟨n1, n2, n3, n4⟩ := q1.2.1
        refine go_iload_n dX8_noise_38 rfl ?_
        refine go_i2l dX8_noise_39 ?_
        refine go_lconst (x := 0) dX8_noise_40 rfl ?_
        refine go_aload_n dX8_noise_41 rfl rfl ?_
        refine g8_302 dX8_noise_42 ?_
        rw [n1]
        refine go_iconst dX8_noise_45 (R32_lit rfl) ?_
        refine go_isubc dX8_noise_46 ⟨by omega, by omega⟩ ?_
        refine go_i2l dX8_noise_47 ?_
        refine v8_140 dX8_noise_48 rfl ⟨rfl, rfl⟩ ⟨rfl, rfl⟩ ct_X8_in (fun r5 M5 N5 hr5 hq5 => ?_)
        obtain ⟨z5, rfl, rfl⟩ := hq5
        have z5 := bit_iff z5
        refine go_if_ne (tgt := 60) dX8_noise_51 rfl (fun h51 => ?_) (fun h51 => ?_)
        · have hok : S 11 0 ≠ 0 ∧ 0 ≤ k ∧ k < (sK S W (S 11 0).toNat).2.1.1 ∧ 0 ≤ w ∧ w ≤ 1 := by omega
          obtain ⟨y1, y2⟩ := n4 k (by omega) (by omega)
          refine go_iload_n dX8_noise_60 rfl ?_
          refine go_if_ne (tgt := 73) dX8_noise_61 rfl (fun h61 => ?_) (fun h61 => ?_)
          · refine go_aload_n dX8_noise_73 rfl rfl ?_
            refine g8_71 dX8_noise_74 ?_
            refine go_iload_n dX8_noise_77 rfl ?_
            refine go_iald dX8_noise_78 rfl (by omega) (by omega) ?_
            first | rw [y2] | skip
            refine go_reti dX8_noise_79 ?_
            refine ⟨Or.inl ⟨hok, ?_, F8k⟩, rfl⟩
            first
            | (rw [if_pos (show w = 0 by omega)]; done)
            | (rw [if_neg (show ¬ w = 0 by omega)]; done)
          · refine go_aload_n dX8_noise_64 rfl rfl ?_
            refine g8_68 dX8_noise_65 ?_
            refine go_iload_n dX8_noise_68 rfl ?_
            refine go_iald dX8_noise_69 rfl (by omega) (by omega) ?_
            rw [y1]
            refine go_goto (tgt := 79) dX8_noise_70 rfl ?_
            first | rw [y2] | skip
            refine go_reti dX8_noise_79 ?_
            refine ⟨Or.inl ⟨hok, ?_, F8k⟩, rfl⟩
            first
            | (rw [if_pos (show w = 0 by omega)]; done)
            | (rw [if_neg (show ¬ w = 0 by omega)]; done)
        · refine go_aload_n dX8_noise_54 rfl rfl ?_
          refine go_iconst dX8_noise_55 (R32_lit rfl) ?_
          refine v8_278 dX8_noise_56 rfl ⟨rfl, rfl⟩ ⟨rfl, rfl⟩ ct_X8_no (fun r6 M6 N6 hr6 hq6 => ?_)
          refine go_reti dX8_noise_59 ?_
          obtain ⟨rfl, rfl, rfl⟩ := hq6
          exact ⟨Or.inr ⟨by omega, rfl, F8k.no⟩, rfl⟩
      · refine go_iconst dX8_noise_32 (R32_lit rfl) ?_
        refine go_reti dX8_noise_33 ?_
        exact ⟨Or.inr ⟨by omega, rfl, by rw [show r2 = 1 by omega]; exact F8.rf⟩, rfl⟩
    · refine go_iconst dX8_noise_18 (R32_lit rfl) ?_
      refine go_goto (tgt := 23) dX8_noise_19 rfl ?_
      refine v8_292 dX8_noise_23 rfl ⟨rfl, rfl⟩ ⟨rfl, rfl⟩ ct_X8_unless (fun r2 M2 N2 hr2 hq2 => ?_)
      obtain ⟨z2, rfl, rfl⟩ := hq2
      have z2 := bit_iff z2
      refine v8_269 dX8_noise_26 rfl ⟨rfl, rfl⟩ ⟨rfl, rfl⟩ ct_X8_isRefused (fun r3 M3 N3 hr3 hq3 => ?_)
      obtain ⟨z3, rfl, rfl⟩ := hq3
      have z3 := bit_iff z3
      refine go_if_eq (tgt := 34) dX8_noise_29 rfl (fun h29 => ?_) (fun h29 => ?_)
      · have h11 : S 11 0 ≠ 0 ∧ 0 ≤ w ∧ w ≤ 1 := by omega
        rw [show r2 = 0 by omega]
        refine go_aload_n dX8_noise_34 rfl rfl ?_
        refine v8_299 dX8_noise_35 rfl ⟨rfl, rfl⟩ ⟨rfl, rfl⟩ (ct_X8_laysForms (rfM_Q hQ) hW hB hNE) (fun M4 N4 hq4 => ?_)
        obtain ⟨ψ, q1, q2, q3, q4, rfl⟩ := hq4
        have F8k := F8.of q4 (by decide) (by decide)
        obtain ⟨n1, n2, n3, n4⟩ := q1.2.1
        refine go_iload_n dX8_noise_38 rfl ?_
        refine go_i2l dX8_noise_39 ?_
        refine go_lconst (x := 0) dX8_noise_40 rfl ?_
        refine go_aload_n dX8_noise_41 rfl rfl ?_
        refine g8_302 dX8_noise_42 ?_
        rw [n1]
        refine go_iconst dX8_noise_45 (R32_lit rfl) ?_
        refine go_isubc dX8_noise_46 ⟨by omega, by omega⟩ ?_
        refine go_i2l dX8_noise_47 ?_
        refine v8_140 dX8_noise_48 rfl ⟨rfl, rfl⟩ ⟨rfl, rfl⟩ ct_X8_in (fun r5 M5 N5 hr5 hq5 => ?_)
        obtain ⟨z5, rfl, rfl⟩ := hq5
        have z5 := bit_iff z5
        refine go_if_ne (tgt := 60) dX8_noise_51 rfl (fun h51 => ?_) (fun h51 => ?_)
        · have hok : S 11 0 ≠ 0 ∧ 0 ≤ k ∧ k < (sK S W (S 11 0).toNat).2.1.1 ∧ 0 ≤ w ∧ w ≤ 1 := by omega
          obtain ⟨y1, y2⟩ := n4 k (by omega) (by omega)
          refine go_iload_n dX8_noise_60 rfl ?_
          refine go_if_ne (tgt := 73) dX8_noise_61 rfl (fun h61 => ?_) (fun h61 => ?_)
          · refine go_aload_n dX8_noise_73 rfl rfl ?_
            refine g8_71 dX8_noise_74 ?_
            refine go_iload_n dX8_noise_77 rfl ?_
            refine go_iald dX8_noise_78 rfl (by omega) (by omega) ?_
            first | rw [y2] | skip
            refine go_reti dX8_noise_79 ?_
            refine ⟨Or.inl ⟨hok, ?_, F8k⟩, rfl⟩
            first
            | (rw [if_pos (show w = 0 by omega)]; done)
            | (rw [if_neg (show ¬ w = 0 by omega)]; done)
          · refine go_aload_n dX8_noise_64 rfl rfl ?_
            refine g8_68 dX8_noise_65 ?_
            refine go_iload_n dX8_noise_68 rfl ?_
            refine go_iald dX8_noise_69 rfl (by omega) (by omega) ?_
            rw [y1]
            refine go_goto (tgt := 79) dX8_noise_70 rfl ?_
            first | rw [y2] | skip
            refine go_reti dX8_noise_79 ?_
            refine ⟨Or.inl ⟨hok, ?_, F8k⟩, rfl⟩
            first
            | (rw [if_pos (show w = 0 by omega)]; done)
            | (rw [if_neg (show ¬ w = 0 by omega)]; done)
        · refine go_aload_n dX8_noise_54 rfl rfl ?_
          refine go_iconst dX8_noise_55 (R32_lit rfl) ?_
          refine v8_278 dX8_noise_56 rfl ⟨rfl, rfl⟩ ⟨rfl, rfl⟩ ct_X8_no (fun r6 M6 N6 hr6 hq6 => ?_)
          refine go_reti dX8_noise_59 ?_
          obtain ⟨rfl, rfl, rfl⟩ := hq6
          exact ⟨Or.inr ⟨by omega, rfl, F8k.no⟩, rfl⟩
      · refine go_iconst dX8_noise_32 (R32_lit rfl) ?_
        refine go_reti dX8_noise_33 ?_
        exact ⟨Or.inr ⟨by omega, rfl, by rw [show r2 = 1 by omega]; exact F8.rf⟩, rfl⟩
set_option maxRecDepth 100000 in
set_option maxHeartbeats 4000000 in
theorem ct_X8_part {E : Ev} {M : Mm} {N : Nn} {S : Pg} {W : Int → Bool} {v w : Int} (hQ : QR S M) (hW : WF S) (hB : ∀ v, 0 ≤ v → v < S 11 0 → W v = true) (hNE : ∀ v : Nat, (v : Int) < S 11 0 → NEq S (sK S W v).1 v) : Ct E yX8_part cX8_part 3 ((some .long)) (rmH 9) [vr (29, 0, 0), vi v, vi w] M N (ql (fun r M1 N1 => ((0 ≤ v ∧ v < S 11 0 ∧ 0 ≤ w ∧ w < S 11 0 ∧ S 0 w ≠ -2) ∧ r = ptS ((sK S W (S 11 0).toNat).1 (15 + v.toNat)) (sK S W (S 11 0).toNat).2.1 w ∧ F8 (rfM M 0) M1 ∨ ¬ (0 ≤ v ∧ v < S 11 0 ∧ 0 ≤ w ∧ w < S 11 0 ∧ S 0 w ≠ -2) ∧ r = -9223372036854775808 ∧ F8 (rfM M 1) M1) ∧ N = N1)) := by
  refine ct_of (own := RX8) (L0 := [vr (29, 0, 0), vi v, vi w]) rfl (by decide +kernel) rfl rfl ?_
  have c6 := hQ.1
  have c5 := hQ.2.2.1
  have c0 := hQ.2.1
  refine go_aload_n dX8_part_0 rfl rfl ?_
  refine go_aload_n dX8_part_1 rfl rfl ?_
  refine go_iload_n dX8_part_2 rfl ?_
  refine v8_285 dX8_part_3 rfl ⟨rfl, rfl⟩ ⟨rfl, rfl⟩ (ct_X8_isVariable hQ) (fun r1 M1 N1 hr1 hq1 => ?_)
  obtain ⟨z1, rfl, rfl⟩ := hq1
  have z1 := bit_iff z1
  refine go_if_eq (tgt := 21) dX8_part_6 rfl (fun h6 => ?_) (fun h6 => ?_)
  · refine go_iconst dX8_part_21 (R32_lit rfl) ?_
    refine v8_292 dX8_part_22 rfl ⟨rfl, rfl⟩ ⟨rfl, rfl⟩ ct_X8_unless (fun r3 M3 N3 hr3 hq3 => ?_)
    obtain ⟨z3, rfl, rfl⟩ := hq3
    have z3 := bit_iff z3
    refine v8_269 dX8_part_25 rfl ⟨rfl, rfl⟩ ⟨rfl, rfl⟩ ct_X8_isRefused (fun r4 M4 N4 hr4 hq4 => ?_)
    obtain ⟨z4, rfl, rfl⟩ := hq4
    have z4 := bit_iff z4
    refine go_if_eq (tgt := 35) dX8_part_28 rfl (fun h28 => ?_) (fun h28 => ?_)
    · have hv : 0 ≤ v ∧ v < S 11 0 := by omega
      rw [show r3 = 0 by omega]
      have hok : 0 ≤ v ∧ v < S 11 0 ∧ 0 ≤ w ∧ w < S 11 0 ∧ S 0 w ≠ -2 := by omega
      refine go_aload_n dX8_part_35 rfl rfl ?_
      refine v8_299 dX8_part_36 rfl ⟨rfl, rfl⟩ ⟨rfl, rfl⟩ (ct_X8_laysForms (rfM_Q hQ) hW hB hNE) (fun M5 N5 hq5 => ?_)
      obtain ⟨ψ, q1, q2, q3, q4, rfl⟩ := hq5
      have F8k := F8.of q4 (by decide) (by decide)
      obtain ⟨n1, n2, n3, n4⟩ := q1.2.1
      have w15 : ψ (15 + v) = (sK S W (S 11 0).toNat).1 (15 + v.toNat) := by
        have := q2 (15 + v.toNat) (by omega)
        rw [show ((15 + v.toNat : Nat) : Int) = 15 + v by omega] at this
        exact this
      refine go_aload_n dX8_part_39 rfl rfl ?_
      refine go_iload_n dX8_part_40 rfl ?_
      refine go_iload_n dX8_part_41 rfl ?_
      refine v8_438 dX8_part_42 rfl ⟨rfl, rfl⟩ ⟨rfl, rfl⟩ (ct_X8_partOf q1 hv.1 (by omega)) (fun r6 M6 N6 hr6 hq6 => ?_)
      obtain ⟨z6, rfl, rfl⟩ := hq6
      subst z6
      refine go_retl dX8_part_45 ?_
      exact ⟨Or.inl ⟨hok, by rw [w15], F8k⟩, rfl⟩
    · refine c8_111 dX8_part_31 ?_
      refine go_retl dX8_part_34 ?_
      exact ⟨Or.inr ⟨by omega, rfl, by rw [show r3 = 1 by omega]; exact F8.rf⟩, rfl⟩
  · refine go_aload_n dX8_part_9 rfl rfl ?_
    refine go_iload_n dX8_part_10 rfl ?_
    refine v8_316 dX8_part_11 rfl ⟨rfl, rfl⟩ ⟨rfl, rfl⟩ (ct_X8_isStep hQ) (fun r2 M2 N2 hr2 hq2 => ?_)
    obtain ⟨z2, rfl, rfl⟩ := hq2
    have z2 := bit_iff z2
    refine go_if_eq (tgt := 21) dX8_part_14 rfl (fun h14 => ?_) (fun h14 => ?_)
    · refine go_iconst dX8_part_21 (R32_lit rfl) ?_
      refine v8_292 dX8_part_22 rfl ⟨rfl, rfl⟩ ⟨rfl, rfl⟩ ct_X8_unless (fun r3 M3 N3 hr3 hq3 => ?_)
      obtain ⟨z3, rfl, rfl⟩ := hq3
      have z3 := bit_iff z3
      refine v8_269 dX8_part_25 rfl ⟨rfl, rfl⟩ ⟨rfl, rfl⟩ ct_X8_isRefused (fun r4 M4 N4 hr4 hq4 => ?_)
      obtain ⟨z4, rfl, rfl⟩ := hq4
      have z4 := bit_iff z4
      refine go_if_eq (tgt := 35) dX8_part_28 rfl (fun h28 => ?_) (fun h28 => ?_)
      · have hv : 0 ≤ v ∧ v < S 11 0 := by omega
        rw [show r3 = 0 by omega]
        have hok : 0 ≤ v ∧ v < S 11 0 ∧ 0 ≤ w ∧ w < S 11 0 ∧ S 0 w ≠ -2 := by omega
        refine go_aload_n dX8_part_35 rfl rfl ?_
        refine v8_299 dX8_part_36 rfl ⟨rfl, rfl⟩ ⟨rfl, rfl⟩ (ct_X8_laysForms (rfM_Q hQ) hW hB hNE) (fun M5 N5 hq5 => ?_)
        obtain ⟨ψ, q1, q2, q3, q4, rfl⟩ := hq5
        have F8k := F8.of q4 (by decide) (by decide)
        obtain ⟨n1, n2, n3, n4⟩ := q1.2.1
        have w15 : ψ (15 + v) = (sK S W (S 11 0).toNat).1 (15 + v.toNat) := by
          have := q2 (15 + v.toNat) (by omega)
          rw [show ((15 + v.toNat : Nat) : Int) = 15 + v by omega] at this
          exact this
        refine go_aload_n dX8_part_39 rfl rfl ?_
        refine go_iload_n dX8_part_40 rfl ?_
        refine go_iload_n dX8_part_41 rfl ?_
        refine v8_438 dX8_part_42 rfl ⟨rfl, rfl⟩ ⟨rfl, rfl⟩ (ct_X8_partOf q1 hv.1 (by omega)) (fun r6 M6 N6 hr6 hq6 => ?_)
        obtain ⟨z6, rfl, rfl⟩ := hq6
        subst z6
        refine go_retl dX8_part_45 ?_
        exact ⟨Or.inl ⟨hok, by rw [w15], F8k⟩, rfl⟩
      · refine c8_111 dX8_part_31 ?_
        refine go_retl dX8_part_34 ?_
        exact ⟨Or.inr ⟨by omega, rfl, by rw [show r3 = 1 by omega]; exact F8.rf⟩, rfl⟩
    · refine go_iconst dX8_part_17 (R32_lit rfl) ?_
      refine go_goto (tgt := 22) dX8_part_18 rfl ?_
      refine v8_292 dX8_part_22 rfl ⟨rfl, rfl⟩ ⟨rfl, rfl⟩ ct_X8_unless (fun r3 M3 N3 hr3 hq3 => ?_)
      obtain ⟨z3, rfl, rfl⟩ := hq3
      have z3 := bit_iff z3
      refine v8_269 dX8_part_25 rfl ⟨rfl, rfl⟩ ⟨rfl, rfl⟩ ct_X8_isRefused (fun r4 M4 N4 hr4 hq4 => ?_)
      obtain ⟨z4, rfl, rfl⟩ := hq4
      have z4 := bit_iff z4
      refine go_if_eq (tgt := 35) dX8_part_28 rfl (fun h28 => ?_) (fun h28 => ?_)
      · have hv : 0 ≤ v ∧ v < S 11 0 := by omega
        rw [show r3 = 0 by omega]
        have hok : 0 ≤ v ∧ v < S 11 0 ∧ 0 ≤ w ∧ w < S 11 0 ∧ S 0 w ≠ -2 := by omega
        refine go_aload_n dX8_part_35 rfl rfl ?_
        refine v8_299 dX8_part_36 rfl ⟨rfl, rfl⟩ ⟨rfl, rfl⟩ (ct_X8_laysForms (rfM_Q hQ) hW hB hNE) (fun M5 N5 hq5 => ?_)
        obtain ⟨ψ, q1, q2, q3, q4, rfl⟩ := hq5
        have F8k := F8.of q4 (by decide) (by decide)
        obtain ⟨n1, n2, n3, n4⟩ := q1.2.1
        have w15 : ψ (15 + v) = (sK S W (S 11 0).toNat).1 (15 + v.toNat) := by
          have := q2 (15 + v.toNat) (by omega)
          rw [show ((15 + v.toNat : Nat) : Int) = 15 + v by omega] at this
          exact this
        refine go_aload_n dX8_part_39 rfl rfl ?_
        refine go_iload_n dX8_part_40 rfl ?_
        refine go_iload_n dX8_part_41 rfl ?_
        refine v8_438 dX8_part_42 rfl ⟨rfl, rfl⟩ ⟨rfl, rfl⟩ (ct_X8_partOf q1 hv.1 (by omega)) (fun r6 M6 N6 hr6 hq6 => ?_)
        obtain ⟨z6, rfl, rfl⟩ := hq6
        subst z6
        refine go_retl dX8_part_45 ?_
        exact ⟨Or.inl ⟨hok, by rw [w15], F8k⟩, rfl⟩
      · refine c8_111 dX8_part_31 ?_
        refine go_retl dX8_part_34 ?_
        exact ⟨Or.inr ⟨by omega, rfl, by rw [show r3 = 1 by omega]; exact F8.rf⟩, rfl⟩
set_option maxRecDepth 100000 in
set_option maxHeartbeats 4000000 in
theorem ct_X8_blame {E : Ev} {M : Mm} {N : Nn} {S : Pg} {W : Int → Bool} {v : Int} (hQ : QR S M) (hW : WF S) (hB : ∀ v, 0 ≤ v → v < S 11 0 → W v = true) (hNE : ∀ v : Nat, (v : Int) < S 11 0 → NEq S (sK S W v).1 v) : Ct E yX8_blame cX8_blame 2 ((some .int)) (rmH 9) [vr (29, 0, 0), vi v] M N (qi (fun r M1 N1 => ((0 ≤ v ∧ v < S 11 0) ∧ r = (blS S ((sK S W (S 11 0).toNat).1 (15 + v.toNat)) (sK S W (S 11 0).toNat).2.1 (S 11 0).toNat).1 ∧ F8 (rfM M 0) M1 ∨ ¬ (0 ≤ v ∧ v < S 11 0) ∧ r = -1 ∧ F8 (rfM M 1) M1) ∧ N = N1)) := by
  refine ct_of (own := RX8) (L0 := [vr (29, 0, 0), vi v]) rfl (by decide +kernel) rfl rfl ?_
  have c6 := hQ.1
  have c5 := hQ.2.2.1
  have c0 := hQ.2.1
  refine go_aload_n dX8_blame_0 rfl rfl ?_
  refine go_aload_n dX8_blame_1 rfl rfl ?_
  refine go_iload_n dX8_blame_2 rfl ?_
  refine v8_285 dX8_blame_3 rfl ⟨rfl, rfl⟩ ⟨rfl, rfl⟩ (ct_X8_isVariable hQ) (fun r1 M1 N1 hr1 hq1 => ?_)
  obtain ⟨z1, rfl, rfl⟩ := hq1
  have z1 := bit_iff z1
  refine v8_292 dX8_blame_6 rfl ⟨rfl, rfl⟩ ⟨rfl, rfl⟩ ct_X8_unless (fun r2 M2 N2 hr2 hq2 => ?_)
  obtain ⟨z2, rfl, rfl⟩ := hq2
  have z2 := bit_iff z2
  refine v8_269 dX8_blame_9 rfl ⟨rfl, rfl⟩ ⟨rfl, rfl⟩ ct_X8_isRefused (fun r3 M3 N3 hr3 hq3 => ?_)
  obtain ⟨z3, rfl, rfl⟩ := hq3
  have z3 := bit_iff z3
  refine go_if_eq (tgt := 17) dX8_blame_12 rfl (fun h12 => ?_) (fun h12 => ?_)
  · have hv : 0 ≤ v ∧ v < S 11 0 := by omega
    rw [show r2 = 0 by omega]
    refine go_aload_n dX8_blame_17 rfl rfl ?_
    refine v8_299 dX8_blame_18 rfl ⟨rfl, rfl⟩ ⟨rfl, rfl⟩ (ct_X8_laysForms (rfM_Q hQ) hW hB hNE) (fun M4 N4 hq4 => ?_)
    obtain ⟨ψ, q1, q2, q3, q4, rfl⟩ := hq4
    have F8k := F8.of q4 (by decide) (by decide)
    obtain ⟨n1, n2, n3, n4⟩ := q1.2.1
    have w15 : ψ (15 + v) = (sK S W (S 11 0).toNat).1 (15 + v.toNat) := by
      have := q2 (15 + v.toNat) (by omega)
      rw [show ((15 + v.toNat : Nat) : Int) = 15 + v by omega] at this
      exact this
    refine go_aload_n dX8_blame_21 rfl rfl ?_
    refine go_iload_n dX8_blame_22 rfl ?_
    refine v8_442 dX8_blame_23 rfl ⟨rfl, rfl⟩ ⟨rfl, rfl⟩ (ct_X8_blamed q1 hv.1 (by omega) (F8k.q (rfM_Q hQ))) (fun r5 M5 N5 hr5 hq5 => ?_)
    obtain ⟨z5, rfl, rfl⟩ := hq5
    subst z5
    refine go_reti dX8_blame_26 ?_
    exact ⟨Or.inl ⟨hv, by rw [w15], F8k⟩, rfl⟩
  · refine go_iconst dX8_blame_15 (R32_lit rfl) ?_
    refine go_reti dX8_blame_16 ?_
    exact ⟨Or.inr ⟨by omega, rfl, by rw [show r2 = 1 by omega]; exact F8.rf⟩, rfl⟩
