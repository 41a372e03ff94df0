def ptG (a : FV) (ν : Nu) (st : Int) : Int → Int := fun i => if ν.2.1 i = st then absw (a.2 i) else 0
def ptS (a : FV) (ν : Nu) (st : Int) : Int := w64 (sumZ (ptG a ν st) ν.1.toNat)
def shG (a b : FV) : Int → Int := fun i => if a.2 i ≠ 0 ∧ b.2 i ≠ 0 then 1 else 0
theorem shG_bd (a b : FV) : ∀ n : Nat, 0 ≤ sumZ (shG a b) n ∧ sumZ (shG a b) n ≤ n
  | 0 => by show (0 : Int) ≤ 0 ∧ (0 : Int) ≤ 0; decide
  | n + 1 => by
    have ih := shG_bd a b n
    have h : shG a b n = 0 ∨ shG a b n = 1 := by unfold shG; split <;> omega
    show 0 ≤ sumZ (shG a b) n + shG a b n ∧ sumZ (shG a b) n + shG a b n ≤ ((n + 1 : Nat) : Int)
    omega
theorem sumZ_s (g : Int → Int) {i : Int} (h : 0 ≤ i) : sumZ g (i + 1).toNat = sumZ g i.toNat + g i := by
  rw [show (i + 1).toNat = i.toNat + 1 by omega]
  show _ + g ((i.toNat : Nat) : Int) = _
  rw [Int.toNat_of_nonneg h]
/-- the step to blame among the first ones, and its part -/
def blS (S : Pg) (a : FV) (ν : Nu) : Nat → Int × Int
  | 0 => (-2, 0)
  | k + 1 => if S 0 k ≠ -2 ∧ (blS S a ν k).2 < ptS a ν k then (k, ptS a ν k) else blS S a ν k
set_option maxRecDepth 100000 in
set_option maxHeartbeats 4000000 in
theorem lp_X1_partOf {E : Ev} {M : Mm} {N : Nn} {f : Nat} {φ : Nat → FV} {ν : Nu} {ma : Int → Int} {v st : Int} (hF : FS M f φ ν ma) (h0 : 0 ≤ v) (h1 : v < 15) : ∀ (n : Nat) (i : Int), (i + n = ν.1) → (0 ≤ i) → Go E RX1 cX1_partOf 6 ((some .long)) (rmH 2) 0 0 (zM E (ql (fun r M1 N1 => r = ptS (φ (15 + v.toNat)) ν st ∧ M = M1 ∧ N = N1))) 5 [vr (7, f, 0), vi v, vi st, vl (w64 (sumZ (ptG (φ (15 + v.toNat)) ν st) i.toNat)), vn, vi i] [] M N := by
  intro n
  induction n using Nat.strongRecOn with
  | ind n ih =>
  intro i hn hi
  have hI := hF.fi (j := 15 + v.toNat) (by omega)
  have hnn : M (7, f, 0) 3 = ν.1 := hF.2.1
  have hn0 := hF.2.2.1
  have hn1 := hF.2.2.2.1
  refine go_iload dX1_partOf_5 rfl ?_
  refine go_aload_n dX1_partOf_7 rfl rfl ?_
  refine g1_53 dX1_partOf_8 ?_
  rw [hnn]
  refine go_icmp_ge (tgt := 49) dX1_partOf_11 rfl (fun h11 => ?_) (fun h11 => ?_)
  · refine go_lload_n dX1_partOf_49 rfl ?_
    exact go_retl dX1_partOf_50 ⟨by unfold ptS; rw [show i = ν.1 by omega], rfl, rfl⟩
  · have hb := hF.2.2.2.2.1 i hi (by omega)
    refine go_aload_n dX1_partOf_14 rfl rfl ?_
    refine g1_15 dX1_partOf_15 ?_
    refine go_iload dX1_partOf_18 rfl ?_
    refine go_iald dX1_partOf_20 rfl (by omega) (by omega) ?_
    rw [hb.1]
    refine go_iload_n dX1_partOf_21 rfl ?_
    refine go_icmp_ne (tgt := 43) dX1_partOf_22 rfl (fun h22 => ?_) (fun h22 => ?_)
    · refine go_iinc5c dX1_partOf_43 rfl rfl ⟨by omega, by omega⟩ ?_
      refine go_goto (tgt := 5) dX1_partOf_46 rfl ?_
      have e : sumZ (ptG (φ (15 + v.toNat)) ν st) (i + 1).toNat = sumZ (ptG (φ (15 + v.toNat)) ν st) i.toNat + ptG (φ (15 + v.toNat)) ν st i := sumZ_s _ hi
      unfold ptG at e
      first
      | (rw [if_pos h22] at e
         have h := ih (n - 1) (by omega) (i + 1) (by omega) (by omega)
         unfold ptG at h ⊢
         rw [e] at h
         exact h)
      | (rw [if_neg h22, Int.add_zero] at e
         have h := ih (n - 1) (by omega) (i + 1) (by omega) (by omega)
         unfold ptG at h ⊢
         rw [e] at h
         exact h)
    · refine go_lload_n dX1_partOf_25 rfl ?_
      refine go_aload_n dX1_partOf_26 rfl rfl ?_
      refine g1_27 dX1_partOf_27 ?_
      refine go_iload_n dX1_partOf_30 rfl ?_
      refine go_aaldD dX1_partOf_31 (by omega) (by omega) ?_
      refine g1_104 dX1_partOf_32 ?_
      refine go_iload dX1_partOf_35 rfl ?_
      refine go_lald dX1_partOf_37 rfl (by omega) (by omega) ?_
      rw [hI.2.2.2.1 i hi (by omega)]
      refine v1_108 dX1_partOf_38 rfl ⟨rfl, rfl⟩ ⟨rfl, rfl⟩ ct_J9_abs_067f4 (fun r1 M1 N1 hr1 hq1 => ?_)
      obtain ⟨rfl, rfl, rfl⟩ := hq1
      refine go_ladd dX1_partOf_41 ?_
      rw [w64_add]
      refine go_lst3 dX1_partOf_42 rfl rfl ?_
      refine go_iinc5c dX1_partOf_43 rfl rfl ⟨by omega, by omega⟩ ?_
      refine go_goto (tgt := 5) dX1_partOf_46 rfl ?_
      have e : sumZ (ptG (φ (15 + v.toNat)) ν st) (i + 1).toNat = sumZ (ptG (φ (15 + v.toNat)) ν st) i.toNat + ptG (φ (15 + v.toNat)) ν st i := sumZ_s _ hi
      unfold ptG at e
      first
      | (rw [if_pos h22] at e
         have h := ih (n - 1) (by omega) (i + 1) (by omega) (by omega)
         unfold ptG at h ⊢
         rw [e] at h
         exact h)
      | (rw [if_neg h22, Int.add_zero] at e
         have h := ih (n - 1) (by omega) (i + 1) (by omega) (by omega)
         unfold ptG at h ⊢
         rw [e] at h
         exact h)
set_option maxRecDepth 100000 in
set_option maxHeartbeats 4000000 in
theorem ct_X1_partOf {E : Ev} {M : Mm} {N : Nn} {f : Nat} {φ : Nat → FV} {ν : Nu} {ma : Int → Int} {v st : Int} (hF : FS M f φ ν ma) (h0 : 0 ≤ v) (h1 : v < 15) : Ct E yX1_partOf cX1_partOf 6 ((some .long)) (rmH 2) [vr (7, f, 0), vi v, vi st] M N (ql (fun r M1 N1 => r = ptS (φ (15 + v.toNat)) ν st ∧ M = M1 ∧ N = N1)) := by
  refine ct_of (own := RX1) (L0 := [vr (7, f, 0), vi v, vi st, vn, vn, vn]) rfl (by decide +kernel) rfl rfl ?_
  refine go_lconst (x := 0) dX1_partOf_0 rfl ?_
  refine go_lst3 dX1_partOf_1 rfl rfl ?_
  refine go_iconst dX1_partOf_2 (R32_lit rfl) ?_
  refine go_ist5 dX1_partOf_3 rfl rfl ?_
  exact lp_X1_partOf hF h0 h1 ν.1.toNat 0 (by have := hF.2.2.1; omega) (by omega)
set_option maxRecDepth 100000 in
set_option maxHeartbeats 4000000 in
theorem lp_X1_sharedBy {E : Ev} {M : Mm} {N : Nn} {f : Nat} {φ : Nat → FV} {ν : Nu} {ma : Int → Int} {v w : Int} (hF : FS M f φ ν ma) (h0 : 0 ≤ v) (h1 : v < 15) (w0 : 0 ≤ w) (w1 : w < 15) : ∀ (n : Nat) (i : Int), (i + n = ν.1) → (0 ≤ i) → Go E RX1 cX1_sharedBy 5 ((some .int)) (rmH 1) 0 0 (zM E (qi (fun r M1 N1 => r = sumZ (shG (φ (15 + v.toNat)) (φ (15 + w.toNat))) ν.1.toNat ∧ M = M1 ∧ N = N1))) 5 [vr (7, f, 0), vi v, vi w, vi (sumZ (shG (φ (15 + v.toNat)) (φ (15 + w.toNat))) i.toNat), vi i] [] M N := by
  intro n
  induction n using Nat.strongRecOn with
  | ind n ih =>
  intro i hn hi
  have hI := hF.fi (j := 15 + v.toNat) (by omega)
  have hnn : M (7, f, 0) 3 = ν.1 := hF.2.1
  have hn0 := hF.2.2.1
  have hn1 := hF.2.2.2.1
  have hJ := hF.fi (j := 15 + w.toNat) (by omega)
  have hsb := shG_bd (φ (15 + v.toNat)) (φ (15 + w.toNat)) i.toNat
  refine go_iload dX1_sharedBy_5 rfl ?_
  refine go_aload_n dX1_sharedBy_7 rfl rfl ?_
  refine g1_53 dX1_sharedBy_8 ?_
  rw [hnn]
  refine go_icmp_ge (tgt := 57) dX1_sharedBy_11 rfl (fun h11 => ?_) (fun h11 => ?_)
  · refine go_iload_n dX1_sharedBy_57 rfl ?_
    exact go_reti dX1_sharedBy_58 ⟨by rw [show i = ν.1 by omega], rfl, rfl⟩
  · refine go_aload_n dX1_sharedBy_14 rfl rfl ?_
    refine g1_27 dX1_sharedBy_15 ?_
    refine go_iload_n dX1_sharedBy_18 rfl ?_
    refine go_aaldD dX1_sharedBy_19 (by omega) (by omega) ?_
    refine g1_104 dX1_sharedBy_20 ?_
    refine go_iload dX1_sharedBy_23 rfl ?_
    refine go_lald dX1_sharedBy_25 rfl (by omega) (by omega) ?_
    rw [hI.2.2.2.1 i hi (by omega)]
    refine go_lconst (x := 0) dX1_sharedBy_26 rfl ?_
    refine go_lcmp_eq (tgt := 51) dX1_sharedBy_27 dX1_sharedBy_28 rfl (fun h27 => ?_) (fun h27 => ?_)
    · refine go_iinc4c dX1_sharedBy_51 rfl rfl ⟨by omega, by omega⟩ ?_
      refine go_goto (tgt := 5) dX1_sharedBy_54 rfl ?_
      first
      | (
         have e : sumZ (shG (φ (15 + v.toNat)) (φ (15 + w.toNat))) (i + 1).toNat = sumZ (shG (φ (15 + v.toNat)) (φ (15 + w.toNat))) i.toNat + shG (φ (15 + v.toNat)) (φ (15 + w.toNat)) i := sumZ_s _ hi
         have h := ih (n - 1) (by omega) (i + 1) (by omega) (by omega)
         rw [e] at h
         have ez : shG (φ (15 + v.toNat)) (φ (15 + w.toNat)) i = 1 := by
           unfold shG
           first | rw [if_pos (by omega)] | rw [if_neg (by omega)]
         rw [ez] at h
         exact h)
      | (
         have e : sumZ (shG (φ (15 + v.toNat)) (φ (15 + w.toNat))) (i + 1).toNat = sumZ (shG (φ (15 + v.toNat)) (φ (15 + w.toNat))) i.toNat + shG (φ (15 + v.toNat)) (φ (15 + w.toNat)) i := sumZ_s _ hi
         have h := ih (n - 1) (by omega) (i + 1) (by omega) (by omega)
         rw [e] at h
         have ez : shG (φ (15 + v.toNat)) (φ (15 + w.toNat)) i = 0 := by
           unfold shG
           first | rw [if_pos (by omega)] | rw [if_neg (by omega)]
         rw [ez, Int.add_zero] at h
         exact h)
    · refine go_aload_n dX1_sharedBy_31 rfl rfl ?_
      refine g1_27 dX1_sharedBy_32 ?_
      refine go_iload_n dX1_sharedBy_35 rfl ?_
      refine go_aaldD dX1_sharedBy_36 (by omega) (by omega) ?_
      refine g1_104 dX1_sharedBy_37 ?_
      refine go_iload dX1_sharedBy_40 rfl ?_
      refine go_lald dX1_sharedBy_42 rfl (by omega) (by omega) ?_
      rw [hJ.2.2.2.1 i hi (by omega)]
      refine go_lconst (x := 0) dX1_sharedBy_43 rfl ?_
      refine go_lcmp_eq (tgt := 51) dX1_sharedBy_44 dX1_sharedBy_45 rfl (fun h44 => ?_) (fun h44 => ?_)
      · refine go_iinc4c dX1_sharedBy_51 rfl rfl ⟨by omega, by omega⟩ ?_
        refine go_goto (tgt := 5) dX1_sharedBy_54 rfl ?_
        first
        | (
           have e : sumZ (shG (φ (15 + v.toNat)) (φ (15 + w.toNat))) (i + 1).toNat = sumZ (shG (φ (15 + v.toNat)) (φ (15 + w.toNat))) i.toNat + shG (φ (15 + v.toNat)) (φ (15 + w.toNat)) i := sumZ_s _ hi
           have h := ih (n - 1) (by omega) (i + 1) (by omega) (by omega)
           rw [e] at h
           have ez : shG (φ (15 + v.toNat)) (φ (15 + w.toNat)) i = 1 := by
             unfold shG
             first | rw [if_pos (by omega)] | rw [if_neg (by omega)]
           rw [ez] at h
           exact h)
        | (
           have e : sumZ (shG (φ (15 + v.toNat)) (φ (15 + w.toNat))) (i + 1).toNat = sumZ (shG (φ (15 + v.toNat)) (φ (15 + w.toNat))) i.toNat + shG (φ (15 + v.toNat)) (φ (15 + w.toNat)) i := sumZ_s _ hi
           have h := ih (n - 1) (by omega) (i + 1) (by omega) (by omega)
           rw [e] at h
           have ez : shG (φ (15 + v.toNat)) (φ (15 + w.toNat)) i = 0 := by
             unfold shG
             first | rw [if_pos (by omega)] | rw [if_neg (by omega)]
           rw [ez, Int.add_zero] at h
           exact h)
      · refine go_iinc3c dX1_sharedBy_48 rfl rfl ⟨by omega, by omega⟩ ?_
        refine go_iinc4c dX1_sharedBy_51 rfl rfl ⟨by omega, by omega⟩ ?_
        refine go_goto (tgt := 5) dX1_sharedBy_54 rfl ?_
        first
        | (
           have e : sumZ (shG (φ (15 + v.toNat)) (φ (15 + w.toNat))) (i + 1).toNat = sumZ (shG (φ (15 + v.toNat)) (φ (15 + w.toNat))) i.toNat + shG (φ (15 + v.toNat)) (φ (15 + w.toNat)) i := sumZ_s _ hi
           have h := ih (n - 1) (by omega) (i + 1) (by omega) (by omega)
           rw [e] at h
           have ez : shG (φ (15 + v.toNat)) (φ (15 + w.toNat)) i = 1 := by
             unfold shG
             first | rw [if_pos (by omega)] | rw [if_neg (by omega)]
           rw [ez] at h
           exact h)
        | (
           have e : sumZ (shG (φ (15 + v.toNat)) (φ (15 + w.toNat))) (i + 1).toNat = sumZ (shG (φ (15 + v.toNat)) (φ (15 + w.toNat))) i.toNat + shG (φ (15 + v.toNat)) (φ (15 + w.toNat)) i := sumZ_s _ hi
           have h := ih (n - 1) (by omega) (i + 1) (by omega) (by omega)
           rw [e] at h
           have ez : shG (φ (15 + v.toNat)) (φ (15 + w.toNat)) i = 0 := by
             unfold shG
             first | rw [if_pos (by omega)] | rw [if_neg (by omega)]
           rw [ez, Int.add_zero] at h
           exact h)
set_option maxRecDepth 100000 in
set_option maxHeartbeats 4000000 in
theorem ct_X1_sharedBy {E : Ev} {M : Mm} {N : Nn} {f : Nat} {φ : Nat → FV} {ν : Nu} {ma : Int → Int} {v w : Int} (hF : FS M f φ ν ma) (h0 : 0 ≤ v) (h1 : v < 15) (w0 : 0 ≤ w) (w1 : w < 15) : Ct E yX1_sharedBy cX1_sharedBy 5 ((some .int)) (rmH 1) [vr (7, f, 0), vi v, vi w] M N (qi (fun r M1 N1 => r = sumZ (shG (φ (15 + v.toNat)) (φ (15 + w.toNat))) ν.1.toNat ∧ M = M1 ∧ N = N1)) := by
  refine ct_of (own := RX1) (L0 := [vr (7, f, 0), vi v, vi w, vn, vn]) rfl (by decide +kernel) rfl rfl ?_
  refine go_iconst dX1_sharedBy_0 (R32_lit rfl) ?_
  refine go_ist3 dX1_sharedBy_1 rfl rfl ?_
  refine go_iconst dX1_sharedBy_2 (R32_lit rfl) ?_
  refine go_ist4 dX1_sharedBy_3 rfl rfl ?_
  exact lp_X1_sharedBy hF h0 h1 w0 w1 ν.1.toNat 0 (by have := hF.2.2.1; omega) (by omega)
set_option maxRecDepth 100000 in
set_option maxHeartbeats 4000000 in
theorem lp_X1_blamed {E : Ev} {M : Mm} {N : Nn} {f : Nat} {φ : Nat → FV} {ν : Nu} {ma : Int → Int} {p : Nat} {v : Int} (hF : FS M f φ ν ma) (hc : pgC M p 11 0 ≤ 15) (h0 : 0 ≤ v) (h1 : v < pgC M p 11 0) : ∀ (n : Nat) (i : Int) (x7 x8 : Vv), (i + n = v + 1) → (0 ≤ i) → Go E RX1 cX1_blamed 9 ((some .int)) (rmH 3) 0 0 (zM E (qi (fun r M1 N1 => r = (blS (pgC M p) (φ (15 + v.toNat)) ν (v + 1).toNat).1 ∧ M = M1 ∧ N = N1))) 9 [vr (7, f, 0), vr (18, p, 0), vi v, vi (blS (pgC M p) (φ (15 + v.toNat)) ν i.toNat).1, vl (blS (pgC M p) (φ (15 + v.toNat)) ν i.toNat).2, vn, vi i, x7, x8] [] M N := by
  intro n
  induction n using Nat.strongRecOn with
  | ind n ih =>
  intro i x7 x8 hn hi
  have hit : ((i.toNat : Nat) : Int) = i := Int.toNat_of_nonneg hi
  have eb : blS (pgC M p) (φ (15 + v.toNat)) ν (i + 1).toNat = if pgC M p 0 i ≠ -2 ∧ (blS (pgC M p) (φ (15 + v.toNat)) ν i.toNat).2 < ptS (φ (15 + v.toNat)) ν i then (i, ptS (φ (15 + v.toNat)) ν i) else blS (pgC M p) (φ (15 + v.toNat)) ν i.toNat := by
    rw [show (i + 1).toNat = i.toNat + 1 by omega]
    show (if pgC M p 0 ((i.toNat : Nat) : Int) ≠ -2 ∧ _ < ptS _ ν ((i.toNat : Nat) : Int) then (((i.toNat : Nat) : Int), ptS _ ν ((i.toNat : Nat) : Int)) else _) = _
    rw [hit]
  refine go_iload dX1_blamed_9 rfl ?_
  refine go_iload_n dX1_blamed_11 rfl ?_
  refine go_icmp_gt (tgt := 57) dX1_blamed_12 rfl (fun h12 => ?_) (fun h12 => ?_)
  · refine go_iload_n dX1_blamed_57 rfl ?_
    exact go_reti dX1_blamed_58 ⟨by rw [show i = v + 1 by omega], rfl, rfl⟩
  · refine go_aload_n dX1_blamed_15 rfl rfl ?_
    refine go_iload dX1_blamed_16 rfl ?_
    refine v1_114 dX1_blamed_18 rfl ⟨rfl, rfl⟩ ⟨rfl, rfl⟩ (ct_X3_isStep hc) (fun r1 M1 N1 hr1 hq1 => ?_)
    obtain ⟨e1, rfl, rfl⟩ := hq1
    refine go_if_ne (tgt := 27) dX1_blamed_21 rfl (fun h21 => ?_) (fun h21 => ?_)
    · have hstp : pgC M p 0 i ≠ -2 := fun q => by rw [if_neg (fun z => z.2.2 q)] at e1; omega
      refine go_aload_n dX1_blamed_27 rfl rfl ?_
      refine go_iload_n dX1_blamed_28 rfl ?_
      refine go_iload dX1_blamed_29 rfl ?_
      refine v1_118 dX1_blamed_31 rfl ⟨rfl, rfl⟩ ⟨rfl, rfl⟩ (ct_X1_partOf hF h0 (by omega)) (fun r2 M2 N2 hr2 hq2 => ?_)
      obtain ⟨rfl, rfl, rfl⟩ := hq2
      refine go_lst7 dX1_blamed_34 rfl rfl ?_
      refine go_lload dX1_blamed_36 rfl ?_
      refine go_lload dX1_blamed_38 rfl ?_
      refine go_lcmp_le (tgt := 51) dX1_blamed_40 dX1_blamed_41 rfl (fun h40 => ?_) (fun h40 => ?_)
      · refine go_iinc6c dX1_blamed_51 rfl rfl ⟨by omega, by omega⟩ ?_
        refine go_goto (tgt := 9) dX1_blamed_54 rfl ?_
        first
        | (have hnn : ¬ (pgC M p 0 i ≠ -2 ∧ (blS (pgC M p) (φ (15 + v.toNat)) ν i.toNat).2 < ptS (φ (15 + v.toNat)) ν i) := by omega
           have h := fun x7 x8 => ih (n - 1) (by omega) (i + 1) x7 x8 (by omega) (by omega)
           rw [eb, if_neg hnn] at h
           exact h _ _)
        | (have hpp : pgC M p 0 i ≠ -2 ∧ (blS (pgC M p) (φ (15 + v.toNat)) ν i.toNat).2 < ptS (φ (15 + v.toNat)) ν i := by omega
           have h := fun x7 x8 => ih (n - 1) (by omega) (i + 1) x7 x8 (by omega) (by omega)
           rw [eb, if_pos hpp] at h
           exact h _ _)
      · refine go_lload dX1_blamed_44 rfl ?_
        refine go_lst4 dX1_blamed_46 rfl rfl ?_
        refine go_iload dX1_blamed_48 rfl ?_
        refine go_ist3 dX1_blamed_50 rfl rfl ?_
        refine go_iinc6c dX1_blamed_51 rfl rfl ⟨by omega, by omega⟩ ?_
        refine go_goto (tgt := 9) dX1_blamed_54 rfl ?_
        first
        | (have hnn : ¬ (pgC M p 0 i ≠ -2 ∧ (blS (pgC M p) (φ (15 + v.toNat)) ν i.toNat).2 < ptS (φ (15 + v.toNat)) ν i) := by omega
           have h := fun x7 x8 => ih (n - 1) (by omega) (i + 1) x7 x8 (by omega) (by omega)
           rw [eb, if_neg hnn] at h
           exact h _ _)
        | (have hpp : pgC M p 0 i ≠ -2 ∧ (blS (pgC M p) (φ (15 + v.toNat)) ν i.toNat).2 < ptS (φ (15 + v.toNat)) ν i := by omega
           have h := fun x7 x8 => ih (n - 1) (by omega) (i + 1) x7 x8 (by omega) (by omega)
           rw [eb, if_pos hpp] at h
           exact h _ _)
    · have hns : pgC M p 0 i = -2 := Classical.byContradiction (fun q => by rw [if_pos ⟨hi, by omega, q⟩] at e1; omega)
      refine go_goto (tgt := 51) dX1_blamed_24 rfl ?_
      refine go_iinc6c dX1_blamed_51 rfl rfl ⟨by omega, by omega⟩ ?_
      refine go_goto (tgt := 9) dX1_blamed_54 rfl ?_
      first
      | (have hnn : ¬ (pgC M p 0 i ≠ -2 ∧ (blS (pgC M p) (φ (15 + v.toNat)) ν i.toNat).2 < ptS (φ (15 + v.toNat)) ν i) := by omega
         have h := fun x7 x8 => ih (n - 1) (by omega) (i + 1) x7 x8 (by omega) (by omega)
         rw [eb, if_neg hnn] at h
         exact h _ _)
      | (have hpp : pgC M p 0 i ≠ -2 ∧ (blS (pgC M p) (φ (15 + v.toNat)) ν i.toNat).2 < ptS (φ (15 + v.toNat)) ν i := by omega
         have h := fun x7 x8 => ih (n - 1) (by omega) (i + 1) x7 x8 (by omega) (by omega)
         rw [eb, if_pos hpp] at h
         exact h _ _)
set_option maxRecDepth 100000 in
set_option maxHeartbeats 4000000 in
theorem ct_X1_blamed {E : Ev} {M : Mm} {N : Nn} {f : Nat} {φ : Nat → FV} {ν : Nu} {ma : Int → Int} {p : Nat} {v : Int} (hF : FS M f φ ν ma) (hc : pgC M p 11 0 ≤ 15) (h0 : 0 ≤ v) (h1 : v < pgC M p 11 0) : Ct E yX1_blamed cX1_blamed 9 ((some .int)) (rmH 3) [vr (7, f, 0), vr (18, p, 0), vi v] M N (qi (fun r M1 N1 => r = (blS (pgC M p) (φ (15 + v.toNat)) ν (v + 1).toNat).1 ∧ M = M1 ∧ N = N1)) := by
  refine ct_of (own := RX1) (L0 := [vr (7, f, 0), vr (18, p, 0), vi v, vn, vn, vn, vn, vn, vn]) rfl (by decide +kernel) rfl rfl ?_
  refine go_bipush dX1_blamed_0 ⟨by decide, by decide⟩ ?_
  refine go_ist3 dX1_blamed_2 rfl rfl ?_
  refine go_lconst (x := 0) dX1_blamed_3 rfl ?_
  refine go_lst4 dX1_blamed_4 rfl rfl ?_
  refine go_iconst dX1_blamed_6 (R32_lit rfl) ?_
  refine go_ist6 dX1_blamed_7 rfl rfl ?_
  exact lp_X1_blamed hF hc h0 h1 (v + 1).toNat 0 _ _ (by omega) (by omega)
