theorem c7w_298 {E : Ev} {cc : ByteArray} {nL : Nat} {ret : Option FieldType} {R : Room} {cl sl : Nat} {Z : Zt} {pc : Nat} {L st : List Vv} {M : Mm} {N : Nn} (hd : decode cc pc = .ok (.ldc_w 298, 3)) (k : Go E RX7 cc nL ret R cl sl Z (pc + 3) L (vi 65537 :: st) M N) : Go E RX7 cc nL ret R cl sl Z (pc) L (st) M N := by
  intro p e s m args below meth c C H locs ls hP hS hL hst hl
  exact lv_ldcw (v := 65537) C.1 C.2.1 C.2.2.2.2.1 (C.2.2.2.2.2.1 _ (bg4 140 (by decide +kernel) rfl)) hd (k p e s m args below meth c C H locs ls hP hS hL (okL_cons (R32_lit rfl) hst) hl)
theorem c7w_299 {E : Ev} {cc : ByteArray} {nL : Nat} {ret : Option FieldType} {R : Room} {cl sl : Nat} {Z : Zt} {pc : Nat} {L st : List Vv} {M : Mm} {N : Nn} (hd : decode cc pc = .ok (.ldc_w 299, 3)) (k : Go E RX7 cc nL ret R cl sl Z (pc + 3) L (vi 1000000 :: st) M N) : Go E RX7 cc nL ret R cl sl Z (pc) L (st) M N := by
  intro p e s m args below meth c C H locs ls hP hS hL hst hl
  exact lv_ldcw (v := 1000000) C.1 C.2.1 C.2.2.2.2.1 (C.2.2.2.2.2.1 _ (bg4 132 (by decide +kernel) rfl)) hd (k p e s m args below meth c C H locs ls hP hS hL (okL_cons (R32_lit rfl) hst) hl)
theorem b1_iff {c : Prop} [Decidable c] {r : Int} (e : r = if c then 1 else 0) : r ≠ 0 ↔ c := by
  rw [e]
  by_cases h : c
  · rw [if_pos h]; exact ⟨fun _ => h, fun _ => by decide⟩
  · rw [if_neg h]; exact ⟨fun z => absurd rfl z, fun z => absurd z h⟩
/-- trouble told -/
def tr (M : Mm) (k : Int) : Mm := wr M (3, 0, 0) 9 k
theorem FS.tr {M : Mm} {f : Nat} {φ : Nat → FV} {ν : Nu} {ma : Int → Int} {k : Int} (h : FS M f φ ν ma) : FS (wr M (3, 0, 0) 9 k) f φ ν ma := h.fr (fun a b a0 a1 => wr_nf (nm_ne1 (by omega)))
theorem pg_tr {M : Mm} {p : Nat} {k : Int} : pgC (wr M (3, 0, 0) 9 k) p = pgC M p := pgC_w (by decide) (by decide)
set_option maxRecDepth 100000 in
set_option maxHeartbeats 4000000 in
theorem ct_X7_none {E : Ev} {M : Mm} {N : Nn} {k : Int}  : Ct E yX7_none cX7_none 2 ((some .int)) (rmH 1) [vr (3, 0, 0), vi k] M N (qi (fun r M1 N1 => r = -1 ∧ M1 = tr M k ∧ N = N1)) := by
  refine ct_of (own := RX7) (L0 := [vr (3, 0, 0), vi k]) rfl (by decide +kernel) rfl rfl ?_
  refine go_aload_n dX7_none_0 rfl rfl ?_
  refine go_iload_n dX7_none_1 rfl ?_
  refine p7_61 dX7_none_2 ?_
  refine go_iconst dX7_none_5 (R32_lit rfl) ?_
  exact go_reti dX7_none_6 ⟨rfl, rfl, rfl⟩
set_option maxRecDepth 100000 in
set_option maxHeartbeats 4000000 in
theorem ct_X7_nothing {E : Ev} {M : Mm} {N : Nn} {k : Int}  : Ct E yX7_nothing cX7_nothing 2 ((some .long)) (rmH 1) [vr (3, 0, 0), vi k] M N (ql (fun r M1 N1 => r = -9223372036854775808 ∧ M1 = tr M k ∧ N = N1)) := by
  refine ct_of (own := RX7) (L0 := [vr (3, 0, 0), vi k]) rfl (by decide +kernel) rfl rfl ?_
  refine go_aload_n dX7_nothing_0 rfl rfl ?_
  refine go_iload_n dX7_nothing_1 rfl ?_
  refine p7_61 dX7_nothing_2 ?_
  refine c7_296 dX7_nothing_5 ?_
  exact go_retl dX7_nothing_8 ⟨rfl, rfl, rfl⟩
set_option maxRecDepth 100000 in
set_option maxHeartbeats 4000000 in
theorem ct_X7_refused {E : Ev} {M : Mm} {N : Nn} {k : Int}  : Ct E yX7_refused cX7_refused 2 ((some .boolean)) (rmH 1) [vr (3, 0, 0), vi k] M N (qi (fun r M1 N1 => r = 0 ∧ M1 = tr M k ∧ N = N1)) := by
  refine ct_of (own := RX7) (L0 := [vr (3, 0, 0), vi k]) rfl (by decide +kernel) rfl rfl ?_
  refine go_aload_n dX7_refused_0 rfl rfl ?_
  refine go_iload_n dX7_refused_1 rfl ?_
  refine p7_61 dX7_refused_2 ?_
  refine go_iconst dX7_refused_5 (R32_lit rfl) ?_
  exact go_retz dX7_refused_6 (by first | exact Or.inl rfl | exact Or.inr rfl | omega) ⟨rfl, rfl, rfl⟩
set_option maxRecDepth 100000 in
set_option maxHeartbeats 4000000 in
theorem ct_X7_isLimit {E : Ev} {M : Mm} {N : Nn} {x : Int}  : Ct E yX7_isLimit cX7_isLimit 1 ((some .boolean)) (rmH 1) [vi x] M N (qi (fun r M1 N1 => r = (if 0 ≤ x ∧ x ≤ 1000000 then 1 else 0) ∧ M = M1 ∧ N = N1)) := by
  refine ct_of (own := RX7) (L0 := [vi x]) rfl (by decide +kernel) rfl rfl ?_
  refine go_iload_n dX7_isLimit_0 rfl ?_
  refine go_if_lt (tgt := 15) dX7_isLimit_1 rfl (fun h1 => ?_) (fun h1 => ?_)
  · refine go_iconst dX7_isLimit_15 (R32_lit rfl) ?_
    exact go_retz dX7_isLimit_16 (by first | exact Or.inl rfl | exact Or.inr rfl | omega) ⟨by first | rw [if_pos (by omega)] | rw [if_neg (by omega)], rfl, rfl⟩
  · refine go_iload_n dX7_isLimit_4 rfl ?_
    refine c7w_299 dX7_isLimit_5 ?_
    refine go_icmp_gt (tgt := 15) dX7_isLimit_8 rfl (fun h8 => ?_) (fun h8 => ?_)
    · refine go_iconst dX7_isLimit_15 (R32_lit rfl) ?_
      exact go_retz dX7_isLimit_16 (by first | exact Or.inl rfl | exact Or.inr rfl | omega) ⟨by first | rw [if_pos (by omega)] | rw [if_neg (by omega)], rfl, rfl⟩
    · refine go_iconst dX7_isLimit_11 (R32_lit rfl) ?_
      refine go_goto (tgt := 16) dX7_isLimit_12 rfl ?_
      exact go_retz dX7_isLimit_16 (by first | exact Or.inl rfl | exact Or.inr rfl | omega) ⟨by first | rw [if_pos (by omega)] | rw [if_neg (by omega)], rfl, rfl⟩
set_option maxRecDepth 100000 in
set_option maxHeartbeats 4000000 in
theorem ct_X7_isSeed {E : Ev} {M : Mm} {N : Nn} {x : Int}  : Ct E yX7_isSeed cX7_isSeed 1 ((some .boolean)) (rmH 1) [vi x] M N (qi (fun r M1 N1 => r = (if 0 ≤ x ∧ x ≤ 65536 then 1 else 0) ∧ M = M1 ∧ N = N1)) := by
  refine ct_of (own := RX7) (L0 := [vi x]) rfl (by decide +kernel) rfl rfl ?_
  refine go_iload_n dX7_isSeed_0 rfl ?_
  refine go_if_lt (tgt := 15) dX7_isSeed_1 rfl (fun h1 => ?_) (fun h1 => ?_)
  · refine go_iconst dX7_isSeed_15 (R32_lit rfl) ?_
    exact go_retz dX7_isSeed_16 (by first | exact Or.inl rfl | exact Or.inr rfl | omega) ⟨by first | rw [if_pos (by omega)] | rw [if_neg (by omega)], rfl, rfl⟩
  · refine go_iload_n dX7_isSeed_4 rfl ?_
    refine c7w_298 dX7_isSeed_5 ?_
    refine go_icmp_ge (tgt := 15) dX7_isSeed_8 rfl (fun h8 => ?_) (fun h8 => ?_)
    · refine go_iconst dX7_isSeed_15 (R32_lit rfl) ?_
      exact go_retz dX7_isSeed_16 (by first | exact Or.inl rfl | exact Or.inr rfl | omega) ⟨by first | rw [if_pos (by omega)] | rw [if_neg (by omega)], rfl, rfl⟩
    · refine go_iconst dX7_isSeed_11 (R32_lit rfl) ?_
      refine go_goto (tgt := 16) dX7_isSeed_12 rfl ?_
      exact go_retz dX7_isSeed_16 (by first | exact Or.inl rfl | exact Or.inr rfl | omega) ⟨by first | rw [if_pos (by omega)] | rw [if_neg (by omega)], rfl, rfl⟩
set_option maxRecDepth 100000 in
set_option maxHeartbeats 4000000 in
theorem ct_X7_isNumber {E : Ev} {M : Mm} {N : Nn} {x : Int}  : Ct E yX7_isNumber cX7_isNumber 1 ((some .boolean)) (rmH 1) [vi x] M N (qi (fun r M1 N1 => r = (if -1000 ≤ x ∧ x ≤ 1000 then 1 else 0) ∧ M = M1 ∧ N = N1)) := by
  refine ct_of (own := RX7) (L0 := [vi x]) rfl (by decide +kernel) rfl rfl ?_
  refine go_iload_n dX7_isNumber_0 rfl ?_
  refine go_sipush dX7_isNumber_1 ⟨by decide, by decide⟩ ?_
  refine go_icmp_lt (tgt := 18) dX7_isNumber_4 rfl (fun h4 => ?_) (fun h4 => ?_)
  · refine go_iconst dX7_isNumber_18 (R32_lit rfl) ?_
    exact go_retz dX7_isNumber_19 (by first | exact Or.inl rfl | exact Or.inr rfl | omega) ⟨by first | rw [if_pos (by omega)] | rw [if_neg (by omega)], rfl, rfl⟩
  · refine go_iload_n dX7_isNumber_7 rfl ?_
    refine go_sipush dX7_isNumber_8 ⟨by decide, by decide⟩ ?_
    refine go_icmp_gt (tgt := 18) dX7_isNumber_11 rfl (fun h11 => ?_) (fun h11 => ?_)
    · refine go_iconst dX7_isNumber_18 (R32_lit rfl) ?_
      exact go_retz dX7_isNumber_19 (by first | exact Or.inl rfl | exact Or.inr rfl | omega) ⟨by first | rw [if_pos (by omega)] | rw [if_neg (by omega)], rfl, rfl⟩
    · refine go_iconst dX7_isNumber_14 (R32_lit rfl) ?_
      refine go_goto (tgt := 19) dX7_isNumber_15 rfl ?_
      exact go_retz dX7_isNumber_19 (by first | exact Or.inl rfl | exact Or.inr rfl | omega) ⟨by first | rw [if_pos (by omega)] | rw [if_neg (by omega)], rfl, rfl⟩
set_option maxRecDepth 100000 in
set_option maxHeartbeats 4000000 in
theorem ct_X7_isEndOf {E : Ev} {M : Mm} {N : Nn} {a x : Int} (ha : -1000 ≤ a) : Ct E yX7_isEndOf cX7_isEndOf 2 ((some .boolean)) (rmH 2) [vi a, vi x] M N (qi (fun r M1 N1 => r = (if -1000 ≤ x ∧ x ≤ 1000 ∧ a ≤ x ∧ (x - a).tmod 2 = 0 then 1 else 0) ∧ M = M1 ∧ N = N1)) := by
  refine ct_of (own := RX7) (L0 := [vi a, vi x]) rfl (by decide +kernel) rfl rfl ?_
  refine go_iload_n dX7_isEndOf_0 rfl ?_
  refine v7_282 dX7_isEndOf_1 rfl ⟨rfl, rfl⟩ ⟨rfl, rfl⟩ ct_X7_isNumber (fun r1 M1 N1 hr1 hq1 => ?_)
  obtain ⟨e1, rfl, rfl⟩ := hq1
  have z1 := b1_iff e1
  refine go_if_eq (tgt := 24) dX7_isEndOf_4 rfl (fun h4 => ?_) (fun h4 => ?_)
  · refine go_iconst dX7_isEndOf_24 (R32_lit rfl) ?_
    exact go_retz dX7_isEndOf_25 (by first | exact Or.inl rfl | exact Or.inr rfl | omega) ⟨by first | rw [if_pos (by omega)] | rw [if_neg (by omega)], rfl, rfl⟩
  · refine go_iload_n dX7_isEndOf_7 rfl ?_
    refine go_iload_n dX7_isEndOf_8 rfl ?_
    refine go_icmp_lt (tgt := 24) dX7_isEndOf_9 rfl (fun h9 => ?_) (fun h9 => ?_)
    · refine go_iconst dX7_isEndOf_24 (R32_lit rfl) ?_
      exact go_retz dX7_isEndOf_25 (by first | exact Or.inl rfl | exact Or.inr rfl | omega) ⟨by first | rw [if_pos (by omega)] | rw [if_neg (by omega)], rfl, rfl⟩
    · refine go_iload_n dX7_isEndOf_12 rfl ?_
      refine go_iload_n dX7_isEndOf_13 rfl ?_
      refine go_isubc dX7_isEndOf_14 ⟨by omega, by omega⟩ ?_
      refine go_iconst dX7_isEndOf_15 (R32_lit rfl) ?_
      refine go_irem dX7_isEndOf_16 (by decide) ?_
      refine go_if_ne (tgt := 24) dX7_isEndOf_17 rfl (fun h17 => ?_) (fun h17 => ?_)
      · refine go_iconst dX7_isEndOf_24 (R32_lit rfl) ?_
        exact go_retz dX7_isEndOf_25 (by first | exact Or.inl rfl | exact Or.inr rfl | omega) ⟨by first | rw [if_pos (by omega)] | rw [if_neg (by omega)], rfl, rfl⟩
      · refine go_iconst dX7_isEndOf_20 (R32_lit rfl) ?_
        refine go_goto (tgt := 25) dX7_isEndOf_21 rfl ?_
        exact go_retz dX7_isEndOf_25 (by first | exact Or.inl rfl | exact Or.inr rfl | omega) ⟨by first | rw [if_pos (by omega)] | rw [if_neg (by omega)], rfl, rfl⟩
set_option maxRecDepth 100000 in
set_option maxHeartbeats 4000000 in
theorem ct_X7_fault {E : Ev} {M : Mm} {N : Nn}   : Ct E yX7_fault cX7_fault 1 ((some .int)) (rmH 1) [vr (3, 0, 0)] M N (qi (fun r M1 N1 => r = M (3, 0, 0) 10 ∧ M = M1 ∧ N = N1)) := by
  refine ct_of (own := RX7) (L0 := [vr (3, 0, 0)]) rfl (by decide +kernel) rfl rfl ?_
  refine go_aload_n dX7_fault_0 rfl rfl ?_
  refine g7_64 dX7_fault_1 ?_
  exact go_reti dX7_fault_4 ⟨rfl, rfl, rfl⟩
set_option maxRecDepth 100000 in
set_option maxHeartbeats 4000000 in
theorem ct_X7_size {E : Ev} {M : Mm} {N : Nn}   : Ct E yX7_size cX7_size 1 ((some .int)) (rmH 1) [vr (3, 0, 0)] M N (qi (fun r M1 N1 => r = M (3, 0, 0) 8 ∧ M = M1 ∧ N = N1)) := by
  refine ct_of (own := RX7) (L0 := [vr (3, 0, 0)]) rfl (by decide +kernel) rfl rfl ?_
  refine go_aload_n dX7_size_0 rfl rfl ?_
  refine g7_57 dX7_size_1 ?_
  exact go_reti dX7_size_4 ⟨rfl, rfl, rfl⟩
set_option maxRecDepth 100000 in
set_option maxHeartbeats 4000000 in
theorem ct_X7_trouble {E : Ev} {M : Mm} {N : Nn}   : Ct E yX7_trouble cX7_trouble 1 ((some .int)) (rmH 1) [vr (3, 0, 0)] M N (qi (fun r M1 N1 => r = M (3, 0, 0) 9 ∧ M = M1 ∧ N = N1)) := by
  refine ct_of (own := RX7) (L0 := [vr (3, 0, 0)]) rfl (by decide +kernel) rfl rfl ?_
  refine go_aload_n dX7_trouble_0 rfl rfl ?_
  refine g7_61 dX7_trouble_1 ?_
  exact go_reti dX7_trouble_4 ⟨rfl, rfl, rfl⟩
set_option maxRecDepth 100000 in
set_option maxHeartbeats 4000000 in
theorem ct_X7_where {E : Ev} {M : Mm} {N : Nn}   : Ct E yX7_where cX7_where 1 ((some .int)) (rmH 1) [vr (3, 0, 0)] M N (qi (fun r M1 N1 => r = (if M (3, 0, 0) 9 = 4 then M (3, 0, 0) 11 else -1) ∧ M = M1 ∧ N = N1)) := by
  refine ct_of (own := RX7) (L0 := [vr (3, 0, 0)]) rfl (by decide +kernel) rfl rfl ?_
  refine go_aload_n dX7_where_0 rfl rfl ?_
  refine g7_61 dX7_where_1 ?_
  refine go_iconst dX7_where_4 (R32_lit rfl) ?_
  refine go_icmp_ne (tgt := 15) dX7_where_5 rfl (fun h5 => ?_) (fun h5 => ?_)
  · refine go_iconst dX7_where_15 (R32_lit rfl) ?_
    exact go_reti dX7_where_16 ⟨by first | rw [if_pos (by omega)] | rw [if_neg (by omega)], rfl, rfl⟩
  · refine go_aload_n dX7_where_8 rfl rfl ?_
    refine g7_67 dX7_where_9 ?_
    refine go_goto (tgt := 16) dX7_where_12 rfl ?_
    exact go_reti dX7_where_16 ⟨by first | rw [if_pos (by omega)] | rw [if_neg (by omega)], rfl, rfl⟩
set_option maxRecDepth 100000 in
set_option maxHeartbeats 4000000 in
theorem ct_X7_bound {E : Ev} {M : Mm} {N : Nn} {p : Nat} {v : Int} {φ : Nat → FV} {ν : Nu} {ma : Int → Int} (hC : N (3, 0, 0) 6 = (18, p, 0)) (hc : (pgC M p) 11 0 ≤ 15) (hF : FS M 0 φ ν ma) : Ct E yX7_bound cX7_bound 2 ((some .long)) (rmH 3) [vr (3, 0, 0), vi v] M N (ql (fun r M1 N1 => ((0 ≤ v ∧ v < (pgC M p) 11 0) ∧ r = w64 (absw (φ (15 + v.toNat)).1 + fra (φ (15 + v.toNat))) ∧ M1 = tr M 0 ∨ ¬ (0 ≤ v ∧ v < (pgC M p) 11 0) ∧ r = -9223372036854775808 ∧ M1 = tr M 1) ∧ N = N1)) := by
  refine ct_of (own := RX7) (L0 := [vr (3, 0, 0), vi v]) rfl (by decide +kernel) rfl rfl ?_
  refine go_aload_n dX7_bound_0 rfl rfl ?_
  refine g7_50 dX7_bound_1 ?_
  rw [hC]
  refine go_iload_n dX7_bound_4 rfl ?_
  refine v7_118 dX7_bound_5 rfl ⟨rfl, rfl⟩ ⟨rfl, rfl⟩ ct_X3_has (fun r1 M1 N1 hr1 hq1 => ?_)
  obtain ⟨e1, rfl, rfl⟩ := hq1
  have z1 := b1_iff e1
  refine go_if_ne (tgt := 17) dX7_bound_8 rfl (fun h8 => ?_) (fun h8 => ?_)
  · refine go_aload_n dX7_bound_17 rfl rfl ?_
    refine go_iconst dX7_bound_18 (R32_lit rfl) ?_
    refine p7_61 dX7_bound_19 ?_
    refine go_aload_n dX7_bound_22 rfl rfl ?_
    refine g7_29 dX7_bound_23 ?_
    refine go_iload_n dX7_bound_26 rfl ?_
    refine v7_204 dX7_bound_27 rfl ⟨rfl, rfl⟩ ⟨rfl, rfl⟩ (ct_X1_boundOf hF.tr (by omega) (by omega)) (fun r2 M2 N2 hr2 hq2 => ?_)
    refine go_retl dX7_bound_30 ?_
    obtain ⟨y1, rfl, rfl⟩ := hq2
    exact ⟨Or.inl ⟨by omega, y1, rfl⟩, rfl⟩
  · refine go_aload_n dX7_bound_11 rfl rfl ?_
    refine go_iconst dX7_bound_12 (R32_lit rfl) ?_
    refine v7_122 dX7_bound_13 rfl ⟨rfl, rfl⟩ ⟨rfl, rfl⟩ ct_X7_nothing (fun r9 M9 N9 hr9 hq9 => ?_)
    refine go_retl dX7_bound_16 ?_
    obtain ⟨y1, y2, rfl⟩ := hq9
    exact ⟨Or.inr ⟨by omega, y1, y2⟩, rfl⟩
set_option maxRecDepth 100000 in
set_option maxHeartbeats 4000000 in
theorem ct_X7_shared {E : Ev} {M : Mm} {N : Nn} {p : Nat} {v w : Int} {φ : Nat → FV} {ν : Nu} {ma : Int → Int} (hC : N (3, 0, 0) 6 = (18, p, 0)) (hc : (pgC M p) 11 0 ≤ 15) (hF : FS M 0 φ ν ma) : Ct E yX7_shared cX7_shared 3 ((some .int)) (rmH 3) [vr (3, 0, 0), vi v, vi w] M N (qi (fun r M1 N1 => ((0 ≤ v ∧ v < (pgC M p) 11 0 ∧ 0 ≤ w ∧ w < (pgC M p) 11 0) ∧ r = sumZ (shG (φ (15 + v.toNat)) (φ (15 + w.toNat))) ν.1.toNat ∧ M1 = tr M 0 ∨ ¬ (0 ≤ v ∧ v < (pgC M p) 11 0 ∧ 0 ≤ w ∧ w < (pgC M p) 11 0) ∧ r = -1 ∧ M1 = tr M 1) ∧ N = N1)) := by
  refine ct_of (own := RX7) (L0 := [vr (3, 0, 0), vi v, vi w]) rfl (by decide +kernel) rfl rfl ?_
  refine go_aload_n dX7_shared_0 rfl rfl ?_
  refine g7_50 dX7_shared_1 ?_
  rw [hC]
  refine go_iload_n dX7_shared_4 rfl ?_
  refine v7_118 dX7_shared_5 rfl ⟨rfl, rfl⟩ ⟨rfl, rfl⟩ ct_X3_has (fun r1 M1 N1 hr1 hq1 => ?_)
  obtain ⟨e1, rfl, rfl⟩ := hq1
  have z1 := b1_iff e1
  refine go_if_eq (tgt := 22) dX7_shared_8 rfl (fun h8 => ?_) (fun h8 => ?_)
  · refine go_aload_n dX7_shared_22 rfl rfl ?_
    refine go_iconst dX7_shared_23 (R32_lit rfl) ?_
    refine v7_74 dX7_shared_24 rfl ⟨rfl, rfl⟩ ⟨rfl, rfl⟩ ct_X7_none (fun r9 M9 N9 hr9 hq9 => ?_)
    refine go_reti dX7_shared_27 ?_
    obtain ⟨y1, y2, rfl⟩ := hq9
    exact ⟨Or.inr ⟨by omega, y1, y2⟩, rfl⟩
  · refine go_aload_n dX7_shared_11 rfl rfl ?_
    refine g7_50 dX7_shared_12 ?_
    rw [hC]
    refine go_iload_n dX7_shared_15 rfl ?_
    refine v7_118 dX7_shared_16 rfl ⟨rfl, rfl⟩ ⟨rfl, rfl⟩ ct_X3_has (fun r2 M2 N2 hr2 hq2 => ?_)
    obtain ⟨e2, rfl, rfl⟩ := hq2
    have z2 := b1_iff e2
    refine go_if_ne (tgt := 28) dX7_shared_19 rfl (fun h19 => ?_) (fun h19 => ?_)
    · refine go_aload_n dX7_shared_28 rfl rfl ?_
      refine go_iconst dX7_shared_29 (R32_lit rfl) ?_
      refine p7_61 dX7_shared_30 ?_
      refine go_aload_n dX7_shared_33 rfl rfl ?_
      refine g7_29 dX7_shared_34 ?_
      refine go_iload_n dX7_shared_37 rfl ?_
      refine go_iload_n dX7_shared_38 rfl ?_
      refine v7_213 dX7_shared_39 rfl ⟨rfl, rfl⟩ ⟨rfl, rfl⟩ (ct_X1_sharedBy hF.tr (by omega) (by omega) (by omega) (by omega)) (fun r3 M3 N3 hr3 hq3 => ?_)
      refine go_reti dX7_shared_42 ?_
      obtain ⟨y1, rfl, rfl⟩ := hq3
      exact ⟨Or.inl ⟨by omega, y1, rfl⟩, rfl⟩
    · refine go_aload_n dX7_shared_22 rfl rfl ?_
      refine go_iconst dX7_shared_23 (R32_lit rfl) ?_
      refine v7_74 dX7_shared_24 rfl ⟨rfl, rfl⟩ ⟨rfl, rfl⟩ ct_X7_none (fun r9 M9 N9 hr9 hq9 => ?_)
      refine go_reti dX7_shared_27 ?_
      obtain ⟨y1, y2, rfl⟩ := hq9
      exact ⟨Or.inr ⟨by omega, y1, y2⟩, rfl⟩
set_option maxRecDepth 100000 in
set_option maxHeartbeats 4000000 in
theorem ct_X7_part {E : Ev} {M : Mm} {N : Nn} {p : Nat} {v w : Int} {φ : Nat → FV} {ν : Nu} {ma : Int → Int} (hC : N (3, 0, 0) 6 = (18, p, 0)) (hc : (pgC M p) 11 0 ≤ 15) (hF : FS M 0 φ ν ma) : Ct E yX7_part cX7_part 3 ((some .long)) (rmH 3) [vr (3, 0, 0), vi v, vi w] M N (ql (fun r M1 N1 => ((0 ≤ v ∧ v < (pgC M p) 11 0 ∧ 0 ≤ w ∧ w < (pgC M p) 11 0 ∧ (pgC M p) 0 w ≠ -2) ∧ r = ptS (φ (15 + v.toNat)) ν w ∧ M1 = tr M 0 ∨ ¬ (0 ≤ v ∧ v < (pgC M p) 11 0 ∧ 0 ≤ w ∧ w < (pgC M p) 11 0 ∧ (pgC M p) 0 w ≠ -2) ∧ r = -9223372036854775808 ∧ M1 = tr M 1) ∧ N = N1)) := by
  refine ct_of (own := RX7) (L0 := [vr (3, 0, 0), vi v, vi w]) rfl (by decide +kernel) rfl rfl ?_
  refine go_aload_n dX7_part_0 rfl rfl ?_
  refine g7_50 dX7_part_1 ?_
  rw [hC]
  refine go_iload_n dX7_part_4 rfl ?_
  refine v7_118 dX7_part_5 rfl ⟨rfl, rfl⟩ ⟨rfl, rfl⟩ ct_X3_has (fun r1 M1 N1 hr1 hq1 => ?_)
  obtain ⟨e1, rfl, rfl⟩ := hq1
  have z1 := b1_iff e1
  refine go_if_eq (tgt := 22) dX7_part_8 rfl (fun h8 => ?_) (fun h8 => ?_)
  · refine go_aload_n dX7_part_22 rfl rfl ?_
    refine go_iconst dX7_part_23 (R32_lit rfl) ?_
    refine v7_122 dX7_part_24 rfl ⟨rfl, rfl⟩ ⟨rfl, rfl⟩ ct_X7_nothing (fun r9 M9 N9 hr9 hq9 => ?_)
    refine go_retl dX7_part_27 ?_
    obtain ⟨y1, y2, rfl⟩ := hq9
    exact ⟨Or.inr ⟨by omega, y1, y2⟩, rfl⟩
  · refine go_aload_n dX7_part_11 rfl rfl ?_
    refine g7_50 dX7_part_12 ?_
    rw [hC]
    refine go_iload_n dX7_part_15 rfl ?_
    refine v7_147 dX7_part_16 rfl ⟨rfl, rfl⟩ ⟨rfl, rfl⟩ (ct_X3_isStep hc) (fun r2 M2 N2 hr2 hq2 => ?_)
    obtain ⟨e2, rfl, rfl⟩ := hq2
    have z2 := b1_iff e2
    refine go_if_ne (tgt := 28) dX7_part_19 rfl (fun h19 => ?_) (fun h19 => ?_)
    · refine go_aload_n dX7_part_28 rfl rfl ?_
      refine go_iconst dX7_part_29 (R32_lit rfl) ?_
      refine p7_61 dX7_part_30 ?_
      refine go_aload_n dX7_part_33 rfl rfl ?_
      refine g7_29 dX7_part_34 ?_
      refine go_iload_n dX7_part_37 rfl ?_
      refine go_iload_n dX7_part_38 rfl ?_
      refine v7_217 dX7_part_39 rfl ⟨rfl, rfl⟩ ⟨rfl, rfl⟩ (ct_X1_partOf hF.tr (by omega) (by omega)) (fun r3 M3 N3 hr3 hq3 => ?_)
      refine go_retl dX7_part_42 ?_
      obtain ⟨y1, rfl, rfl⟩ := hq3
      exact ⟨Or.inl ⟨by omega, y1, rfl⟩, rfl⟩
    · refine go_aload_n dX7_part_22 rfl rfl ?_
      refine go_iconst dX7_part_23 (R32_lit rfl) ?_
      refine v7_122 dX7_part_24 rfl ⟨rfl, rfl⟩ ⟨rfl, rfl⟩ ct_X7_nothing (fun r9 M9 N9 hr9 hq9 => ?_)
      refine go_retl dX7_part_27 ?_
      obtain ⟨y1, y2, rfl⟩ := hq9
      exact ⟨Or.inr ⟨by omega, y1, y2⟩, rfl⟩
set_option maxRecDepth 100000 in
set_option maxHeartbeats 4000000 in
theorem ct_X7_blame {E : Ev} {M : Mm} {N : Nn} {p : Nat} {v : Int} {φ : Nat → FV} {ν : Nu} {ma : Int → Int} (hC : N (3, 0, 0) 6 = (18, p, 0)) (hc : (pgC M p) 11 0 ≤ 15) (hF : FS M 0 φ ν ma) : Ct E yX7_blame cX7_blame 2 ((some .int)) (rmH 4) [vr (3, 0, 0), vi v] M N (qi (fun r M1 N1 => ((0 ≤ v ∧ v < (pgC M p) 11 0) ∧ r = (blS (pgC M p) (φ (15 + v.toNat)) ν (v + 1).toNat).1 ∧ M1 = tr M 0 ∨ ¬ (0 ≤ v ∧ v < (pgC M p) 11 0) ∧ r = -1 ∧ M1 = tr M 1) ∧ N = N1)) := by
  refine ct_of (own := RX7) (L0 := [vr (3, 0, 0), vi v]) rfl (by decide +kernel) rfl rfl ?_
  refine go_aload_n dX7_blame_0 rfl rfl ?_
  refine g7_50 dX7_blame_1 ?_
  rw [hC]
  refine go_iload_n dX7_blame_4 rfl ?_
  refine v7_118 dX7_blame_5 rfl ⟨rfl, rfl⟩ ⟨rfl, rfl⟩ ct_X3_has (fun r1 M1 N1 hr1 hq1 => ?_)
  obtain ⟨e1, rfl, rfl⟩ := hq1
  have z1 := b1_iff e1
  refine go_if_ne (tgt := 17) dX7_blame_8 rfl (fun h8 => ?_) (fun h8 => ?_)
  · refine go_aload_n dX7_blame_17 rfl rfl ?_
    refine go_iconst dX7_blame_18 (R32_lit rfl) ?_
    refine p7_61 dX7_blame_19 ?_
    refine go_aload_n dX7_blame_22 rfl rfl ?_
    refine g7_29 dX7_blame_23 ?_
    refine go_aload_n dX7_blame_26 rfl rfl ?_
    refine g7_50 dX7_blame_27 ?_
    rw [hC]
    refine go_iload_n dX7_blame_30 rfl ?_
    refine v7_221 dX7_blame_31 rfl ⟨rfl, rfl⟩ ⟨rfl, rfl⟩ (ct_X1_blamed hF.tr (by rw [pg_tr]; exact hc) (by omega) (by rw [pg_tr]; omega)) (fun r2 M2 N2 hr2 hq2 => ?_)
    refine go_reti dX7_blame_34 ?_
    obtain ⟨y1, rfl, rfl⟩ := hq2
    rw [pg_tr] at y1
    exact ⟨Or.inl ⟨by omega, y1, rfl⟩, rfl⟩
  · refine go_aload_n dX7_blame_11 rfl rfl ?_
    refine go_iconst dX7_blame_12 (R32_lit rfl) ?_
    refine v7_74 dX7_blame_13 rfl ⟨rfl, rfl⟩ ⟨rfl, rfl⟩ ct_X7_none (fun r9 M9 N9 hr9 hq9 => ?_)
    refine go_reti dX7_blame_16 ?_
    obtain ⟨y1, y2, rfl⟩ := hq9
    exact ⟨Or.inr ⟨by omega, y1, y2⟩, rfl⟩
set_option maxRecDepth 100000 in
set_option maxHeartbeats 4000000 in
theorem ct_X7_noise {E : Ev} {M : Mm} {N : Nn} {p : Nat} {k w : Int} {φ : Nat → FV} {ν : Nu} {ma : Int → Int} (hC : N (3, 0, 0) 6 = (18, p, 0)) (hc : (pgC M p) 11 0 ≤ 15) (hF : FS M 0 φ ν ma) : Ct E yX7_noise cX7_noise 3 ((some .int)) (rmH 3) [vr (3, 0, 0), vi k, vi w] M N (qi (fun r M1 N1 => (((pgC M p) 11 0 ≠ 0 ∧ 0 ≤ k ∧ k < ν.1 ∧ 0 ≤ w ∧ w ≤ 1) ∧ r = (if w = 0 then ν.2.1 k else ν.2.2 k) ∧ M1 = tr M 0 ∨ ¬ ((pgC M p) 11 0 ≠ 0 ∧ 0 ≤ k ∧ k < ν.1 ∧ 0 ≤ w ∧ w ≤ 1) ∧ r = -1 ∧ M1 = tr M 1) ∧ N = N1)) := by
  refine ct_of (own := RX7) (L0 := [vr (3, 0, 0), vi k, vi w]) rfl (by decide +kernel) rfl rfl ?_
  have e11 : M (18, p, 0) 11 = (pgC M p) 11 0 := rfl
  have e3 : M (7, 0, 0) 3 = ν.1 := hF.2.1
  have e63 := hF.2.2.2.1
  refine go_aload_n dX7_noise_0 rfl rfl ?_
  refine g7_50 dX7_noise_1 ?_
  rw [hC]
  refine g7_96 dX7_noise_4 ?_
  rw [e11]
  refine go_if_eq (tgt := 34) dX7_noise_7 rfl (fun h7 => ?_) (fun h7 => ?_)
  · refine go_aload_n dX7_noise_34 rfl rfl ?_
    refine go_iconst dX7_noise_35 (R32_lit rfl) ?_
    refine v7_74 dX7_noise_36 rfl ⟨rfl, rfl⟩ ⟨rfl, rfl⟩ ct_X7_none (fun r9 M9 N9 hr9 hq9 => ?_)
    refine go_reti dX7_noise_39 ?_
    obtain ⟨y1, y2, rfl⟩ := hq9
    exact ⟨Or.inr ⟨by omega, y1, y2⟩, rfl⟩
  · refine go_iload_n dX7_noise_10 rfl ?_
    refine go_if_lt (tgt := 34) dX7_noise_11 rfl (fun h11 => ?_) (fun h11 => ?_)
    · refine go_aload_n dX7_noise_34 rfl rfl ?_
      refine go_iconst dX7_noise_35 (R32_lit rfl) ?_
      refine v7_74 dX7_noise_36 rfl ⟨rfl, rfl⟩ ⟨rfl, rfl⟩ ct_X7_none (fun r9 M9 N9 hr9 hq9 => ?_)
      refine go_reti dX7_noise_39 ?_
      obtain ⟨y1, y2, rfl⟩ := hq9
      exact ⟨Or.inr ⟨by omega, y1, y2⟩, rfl⟩
    · refine go_iload_n dX7_noise_14 rfl ?_
      refine go_aload_n dX7_noise_15 rfl rfl ?_
      refine g7_29 dX7_noise_16 ?_
      refine g7_103 dX7_noise_19 ?_
      rw [e3]
      refine go_icmp_ge (tgt := 34) dX7_noise_22 rfl (fun h22 => ?_) (fun h22 => ?_)
      · refine go_aload_n dX7_noise_34 rfl rfl ?_
        refine go_iconst dX7_noise_35 (R32_lit rfl) ?_
        refine v7_74 dX7_noise_36 rfl ⟨rfl, rfl⟩ ⟨rfl, rfl⟩ ct_X7_none (fun r9 M9 N9 hr9 hq9 => ?_)
        refine go_reti dX7_noise_39 ?_
        obtain ⟨y1, y2, rfl⟩ := hq9
        exact ⟨Or.inr ⟨by omega, y1, y2⟩, rfl⟩
      · refine go_iload_n dX7_noise_25 rfl ?_
        refine go_if_lt (tgt := 34) dX7_noise_26 rfl (fun h26 => ?_) (fun h26 => ?_)
        · refine go_aload_n dX7_noise_34 rfl rfl ?_
          refine go_iconst dX7_noise_35 (R32_lit rfl) ?_
          refine v7_74 dX7_noise_36 rfl ⟨rfl, rfl⟩ ⟨rfl, rfl⟩ ct_X7_none (fun r9 M9 N9 hr9 hq9 => ?_)
          refine go_reti dX7_noise_39 ?_
          obtain ⟨y1, y2, rfl⟩ := hq9
          exact ⟨Or.inr ⟨by omega, y1, y2⟩, rfl⟩
        · refine go_iload_n dX7_noise_29 rfl ?_
          refine go_iconst dX7_noise_30 (R32_lit rfl) ?_
          refine go_icmp_le (tgt := 40) dX7_noise_31 rfl (fun h31 => ?_) (fun h31 => ?_)
          · refine go_aload_n dX7_noise_40 rfl rfl ?_
            refine go_iconst dX7_noise_41 (R32_lit rfl) ?_
            refine p7_61 dX7_noise_42 ?_
            have hb := hF.2.2.2.2.1 k (by omega) (by omega)
            refine go_iload_n dX7_noise_45 rfl ?_
            refine go_if_ne (tgt := 61) dX7_noise_46 rfl (fun h46 => ?_) (fun h46 => ?_)
            · refine go_aload_n dX7_noise_61 rfl rfl ?_
              refine g7_29 dX7_noise_62 ?_
              refine g7_210 dX7_noise_65 ?_
              refine go_iload_n dX7_noise_68 rfl ?_
              refine go_iald dX7_noise_69 rfl (by omega) (by omega) ?_
              
              refine go_reti dX7_noise_70 ?_
              refine ⟨Or.inl ⟨by omega, ?_, rfl⟩, rfl⟩
              first
              | rw [if_pos (by omega)]
              | (rw [if_neg (by omega), wr_nf (nm_ne1 (by decide))]; exact hb.2)
            · refine go_aload_n dX7_noise_49 rfl rfl ?_
              refine g7_29 dX7_noise_50 ?_
              refine g7_207 dX7_noise_53 ?_
              refine go_iload_n dX7_noise_56 rfl ?_
              refine go_iald dX7_noise_57 rfl (by omega) (by omega) ?_
              rw [wr_nf (nm_ne1 (by decide)), hb.1]
              refine go_goto (tgt := 70) dX7_noise_58 rfl ?_
              
              refine go_reti dX7_noise_70 ?_
              refine ⟨Or.inl ⟨by omega, ?_, rfl⟩, rfl⟩
              first
              | rw [if_pos (by omega)]
              | (rw [if_neg (by omega), wr_nf (nm_ne1 (by decide))]; exact hb.2)
          · refine go_aload_n dX7_noise_34 rfl rfl ?_
            refine go_iconst dX7_noise_35 (R32_lit rfl) ?_
            refine v7_74 dX7_noise_36 rfl ⟨rfl, rfl⟩ ⟨rfl, rfl⟩ ct_X7_none (fun r9 M9 N9 hr9 hq9 => ?_)
            refine go_reti dX7_noise_39 ?_
            obtain ⟨y1, y2, rfl⟩ := hq9
            exact ⟨Or.inr ⟨by omega, y1, y2⟩, rfl⟩
