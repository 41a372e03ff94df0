/-! the reference: scalars at (29, 0, 0), rows at (30, 0, field) -/
def Kr (K : List Int) (A : List Nat) (M M1 : Mm) : Prop := (∀ n : Nm, n ≠ (29, 0, 0) → (∀ f ∈ A, n ≠ (30, 0, f)) → M1 n = M n) ∧ ∀ j, j ∉ K → M1 (29, 0, 0) j = M (29, 0, 0) j
theorem Kr.rf {K : List Int} {A : List Nat} {M : Mm} : Kr K A M M := ⟨fun _ _ _ => rfl, fun _ _ => rfl⟩
theorem Kr.tr {K : List Int} {A : List Nat} {M M1 M2 : Mm} (h : Kr K A M M1) (h2 : Kr K A M1 M2) : Kr K A M M2 := ⟨fun n a b => (h2.1 n a b).trans (h.1 n a b), fun j a => (h2.2 j a).trans (h.2 j a)⟩
theorem Kr.up {K K' : List Int} {A A' : List Nat} {M M1 : Mm} (h : Kr K A M M1) (hk : ∀ j ∈ K, j ∈ K') (ha : ∀ f ∈ A, f ∈ A') : Kr K' A' M M1 := ⟨fun n a b => h.1 n a (fun f hf => b f (ha f hf)), fun j a => h.2 j (fun z => a (hk j z))⟩
theorem Kr.ws {K : List Int} {A : List Nat} {M M1 : Mm} {k x : Int} (h : Kr K A M M1) (hk : k ∈ K) : Kr K A M (wr M1 (29, 0, 0) k x) := ⟨fun n a b => by rw [wr_nf a]; exact h.1 n a b, fun j a => by rw [wr_nk (fun e => a (by rw [e]; exact hk))]; exact h.2 j a⟩
theorem Kr.wa {K : List Int} {A : List Nat} {M M1 : Mm} {f : Nat} {k x : Int} (h : Kr K A M M1) (hf : f ∈ A) : Kr K A M (wr M1 (30, 0, f) k x) := ⟨fun n a b => by rw [wr_nf (b f hf)]; exact h.1 n a b, fun j a => by rw [wr_nf (nm_ne1 (by decide))]; exact h.2 j a⟩
theorem Kr.s {K : List Int} {A : List Nat} {M M1 : Mm} (h : Kr K A M M1) (j : Int) (hj : j ∉ K) : M1 (29, 0, 0) j = M (29, 0, 0) j := h.2 j hj
theorem Kr.a {K : List Int} {A : List Nat} {M M1 : Mm} (h : Kr K A M M1) (f : Nat) (hf : f ∉ A) : M1 (30, 0, f) = M (30, 0, f) := h.1 _ (nm_ne1 (by decide)) (fun g hg e => hf (by rw [show f = g from congrArg (fun z => z.2.2) e]; exact hg))
theorem Kr.o {K : List Int} {A : List Nat} {M M1 : Mm} (h : Kr K A M M1) (n : Nm) (h1 : n.1 < 29) : M1 n = M n := h.1 n (fun e => by rw [e] at h1; exact absurd h1 (by decide)) (fun g _ e => by rw [e] at h1; exact absurd h1 (by show ¬ 30 < 29; decide))
/-- the reference holds a program, from a base on -/
def PR (base n : Int) (S : Pg) (M : Mm) : Prop := ∀ v, 0 ≤ v → v < n → M (30, 0, 7) (base + v) = S 0 v ∧ M (30, 0, 8) (base + v) = S 4 v ∧ (S 0 v = -2 → M (30, 0, 9) (base + v) = S 2 v ∧ M (30, 0, 10) (base + v) = S 3 v) ∧ (S 0 v ≠ -2 → ∀ k, 0 ≤ k → k < opn S v → M (30, 0, 11) (4 * (base + v) + k) = S 8 (4 * v + k) ∧ (S 8 (4 * v + k) < 0 → S 8 (4 * v + k) = -2 ∧ M (30, 0, 12) (4 * (base + v) + k) = S 9 (4 * v + k)))
def QR (S : Pg) (M : Mm) : Prop := M (29, 0, 0) 6 = S 11 0 ∧ 0 ≤ S 11 0 ∧ S 11 0 ≤ 15 ∧ ((M (29, 0, 0) 14 = 1 ∧ S 11 0 ≠ 0) ∨ (M (29, 0, 0) 14 = 0 ∧ S 11 0 = 0)) ∧ PR 0 (S 11 0) S M
theorem PR.k {base n : Int} {S : Pg} {M M1 : Mm} (h : PR base n S M) (h7 : M1 (30, 0, 7) = M (30, 0, 7)) (h8 : M1 (30, 0, 8) = M (30, 0, 8)) (h9 : M1 (30, 0, 9) = M (30, 0, 9)) (h10 : M1 (30, 0, 10) = M (30, 0, 10)) (h11 : M1 (30, 0, 11) = M (30, 0, 11)) (h12 : M1 (30, 0, 12) = M (30, 0, 12)) : PR base n S M1 := by
  unfold PR
  rw [h7, h8, h9, h10, h11, h12]
  exact h
theorem QR.k {S : Pg} {M M1 : Mm} {K : List Int} {A : List Nat} (h : QR S M) (f : Kr K A M M1) (h6 : (6 : Int) ∉ K) (h14 : (14 : Int) ∉ K) (h7 : 7 ∉ A) (h8 : 8 ∉ A) (h9 : 9 ∉ A) (h10 : 10 ∉ A) (h11 : 11 ∉ A) (h12 : 12 ∉ A) : QR S M1 := by
  obtain ⟨a, b, c, d, e⟩ := h
  refine ⟨by rw [f.s 6 h6]; exact a, b, c, by rw [f.s 14 h14]; exact d, e.k (f.a 7 h7) (f.a 8 h8) (f.a 9 h9) (f.a 10 h10) (f.a 11 h11) (f.a 12 h12)⟩
theorem QR.srt {S : Pg} {M : Mm} (h : QR S M) {v : Int} (v0 : 0 ≤ v) (v1 : v < S 11 0) : M (30, 0, 7) v = S 0 v := by
  have := (h.2.2.2.2 v v0 v1).1
  rw [Int.zero_add] at this
  exact this
/-- refused or not: what is noted -/
def rfM (M : Mm) (k : Int) : Mm := wr (wr (wr M (29, 0, 0) 0 0) (29, 0, 0) 3 (-1)) (29, 0, 0) 1 k
theorem rfM_K {M : Mm} {k : Int} : Kr [0, 3, 1] [] M (rfM M k) := ((Kr.rf.ws (by decide)).ws (by decide)).ws (by decide)
theorem rfM_Q {S : Pg} {M : Mm} {k : Int} (h : QR S M) : QR S (rfM M k) := h.k rfM_K (by decide) (by decide) (by decide) (by decide) (by decide) (by decide) (by decide) (by decide)
set_option maxRecDepth 100000 in
set_option maxHeartbeats 4000000 in
theorem ct_X8_in {E : Ev} {M : Mm} {N : Nn} {a b c : Int}  : Ct E yX8_in cX8_in 6 ((some .boolean)) (rmH 1) [vl a, vl b, vl c] M N (qi (fun r M1 N1 => r = (if b ≤ a ∧ a ≤ c then 1 else 0) ∧ M = M1 ∧ N = N1)) := by
  refine ct_of (own := RX8) (L0 := [vl a, vn, vl b, vn, vl c, vn]) rfl (by decide +kernel) rfl rfl ?_
  refine go_lload_n dX8_in_0 rfl ?_
  refine go_lload_n dX8_in_1 rfl ?_
  refine go_lcmp_lt (tgt := 17) dX8_in_2 dX8_in_3 rfl (fun h2 => ?_) (fun h2 => ?_)
  · refine go_iconst dX8_in_17 (R32_lit rfl) ?_
    refine go_retz dX8_in_18 (by first | exact Or.inl rfl | exact Or.inr rfl | omega) ?_
    exact ⟨by first | (rw [if_pos (by omega)]; done) | (rw [if_neg (by omega)]; done) | (rw [if_neg (by omega), if_pos (by omega)]; done) | (rw [if_neg (by omega), if_neg (by omega)]; done), rfl, rfl⟩
  · refine go_lload_n dX8_in_6 rfl ?_
    refine go_lload dX8_in_7 rfl ?_
    refine go_lcmp_gt (tgt := 17) dX8_in_9 dX8_in_10 rfl (fun h9 => ?_) (fun h9 => ?_)
    · refine go_iconst dX8_in_17 (R32_lit rfl) ?_
      refine go_retz dX8_in_18 (by first | exact Or.inl rfl | exact Or.inr rfl | omega) ?_
      exact ⟨by first | (rw [if_pos (by omega)]; done) | (rw [if_neg (by omega)]; done) | (rw [if_neg (by omega), if_pos (by omega)]; done) | (rw [if_neg (by omega), if_neg (by omega)]; done), rfl, rfl⟩
    · refine go_iconst dX8_in_13 (R32_lit rfl) ?_
      refine go_goto (tgt := 18) dX8_in_14 rfl ?_
      refine go_retz dX8_in_18 (by first | exact Or.inl rfl | exact Or.inr rfl | omega) ?_
      exact ⟨by first | (rw [if_pos (by omega)]; done) | (rw [if_neg (by omega)]; done) | (rw [if_neg (by omega), if_pos (by omega)]; done) | (rw [if_neg (by omega), if_neg (by omega)]; done), rfl, rfl⟩
set_option maxRecDepth 100000 in
set_option maxHeartbeats 4000000 in
theorem ct_X8_sizeOf {E : Ev} {M : Mm} {N : Nn} {a : Int}  : Ct E yX8_sizeOf cX8_sizeOf 2 ((some .long)) (rmH 1) [vl a] M N (ql (fun r M1 N1 => r = absw a ∧ M = M1 ∧ N = N1)) := by
  refine ct_of (own := RX8) (L0 := [vl a, vn]) rfl (by decide +kernel) rfl rfl ?_
  refine go_lload_n dX8_sizeOf_0 rfl ?_
  refine go_lconst (x := 0) dX8_sizeOf_1 rfl ?_
  refine go_lcmp_ge (tgt := 11) dX8_sizeOf_2 dX8_sizeOf_3 rfl (fun h2 => ?_) (fun h2 => ?_)
  · refine go_lload_n dX8_sizeOf_11 rfl ?_
    refine go_retl dX8_sizeOf_12 ?_
    exact ⟨by unfold absw; first | rw [if_pos (by omega)] | rw [if_neg (by omega)], rfl, rfl⟩
  · refine go_lload_n dX8_sizeOf_6 rfl ?_
    refine go_lneg dX8_sizeOf_7 ?_
    refine go_goto (tgt := 12) dX8_sizeOf_8 rfl ?_
    refine go_retl dX8_sizeOf_12 ?_
    exact ⟨by unfold absw; first | rw [if_pos (by omega)] | rw [if_neg (by omega)], rfl, rfl⟩
set_option maxRecDepth 100000 in
set_option maxHeartbeats 4000000 in
theorem ct_X8_isInput {E : Ev} {M : Mm} {N : Nn} {a : Int}  : Ct E yX8_isInput cX8_isInput 1 ((some .boolean)) (rmH 1) [vi a] M N (qi (fun r M1 N1 => r = (if a = -2 then 1 else 0) ∧ M = M1 ∧ N = N1)) := by
  refine ct_of (own := RX8) (L0 := [vi a]) rfl (by decide +kernel) rfl rfl ?_
  refine go_iload_n dX8_isInput_0 rfl ?_
  refine go_bipush dX8_isInput_1 ⟨by decide, by decide⟩ ?_
  refine go_icmp_ne (tgt := 10) dX8_isInput_3 rfl (fun h3 => ?_) (fun h3 => ?_)
  · refine go_iconst dX8_isInput_10 (R32_lit rfl) ?_
    refine go_retz dX8_isInput_11 (by first | exact Or.inl rfl | exact Or.inr rfl | omega) ?_
    exact ⟨by first | (rw [if_pos (by omega)]; done) | (rw [if_neg (by omega)]; done) | (rw [if_neg (by omega), if_pos (by omega)]; done) | (rw [if_neg (by omega), if_neg (by omega)]; done), rfl, rfl⟩
  · refine go_iconst dX8_isInput_6 (R32_lit rfl) ?_
    refine go_goto (tgt := 11) dX8_isInput_7 rfl ?_
    refine go_retz dX8_isInput_11 (by first | exact Or.inl rfl | exact Or.inr rfl | omega) ?_
    exact ⟨by first | (rw [if_pos (by omega)]; done) | (rw [if_neg (by omega)]; done) | (rw [if_neg (by omega), if_pos (by omega)]; done) | (rw [if_neg (by omega), if_neg (by omega)]; done), rfl, rfl⟩
set_option maxRecDepth 100000 in
set_option maxHeartbeats 4000000 in
theorem ct_X8_operands {E : Ev} {M : Mm} {N : Nn} {a : Int}  : Ct E yX8_operands cX8_operands 1 ((some .int)) (rmH 1) [vi a] M N (qi (fun r M1 N1 => r = (if a = 3 then 4 else if a = -2 then 0 else 2) ∧ M = M1 ∧ N = N1)) := by
  refine ct_of (own := RX8) (L0 := [vi a]) rfl (by decide +kernel) rfl rfl ?_
  refine go_iload_n dX8_operands_0 rfl ?_
  refine go_iconst dX8_operands_1 (R32_lit rfl) ?_
  refine go_icmp_ne (tgt := 9) dX8_operands_2 rfl (fun h2 => ?_) (fun h2 => ?_)
  · refine go_iload_n dX8_operands_9 rfl ?_
    refine go_bipush dX8_operands_10 ⟨by decide, by decide⟩ ?_
    refine go_icmp_ne (tgt := 19) dX8_operands_12 rfl (fun h12 => ?_) (fun h12 => ?_)
    · refine go_iconst dX8_operands_19 (R32_lit rfl) ?_
      refine go_reti dX8_operands_20 ?_
      exact ⟨by first | (rw [if_pos (by omega)]; done) | (rw [if_neg (by omega)]; done) | (rw [if_neg (by omega), if_pos (by omega)]; done) | (rw [if_neg (by omega), if_neg (by omega)]; done), rfl, rfl⟩
    · refine go_iconst dX8_operands_15 (R32_lit rfl) ?_
      refine go_goto (tgt := 20) dX8_operands_16 rfl ?_
      refine go_reti dX8_operands_20 ?_
      exact ⟨by first | (rw [if_pos (by omega)]; done) | (rw [if_neg (by omega)]; done) | (rw [if_neg (by omega), if_pos (by omega)]; done) | (rw [if_neg (by omega), if_neg (by omega)]; done), rfl, rfl⟩
  · refine go_iconst dX8_operands_5 (R32_lit rfl) ?_
    refine go_goto (tgt := 20) dX8_operands_6 rfl ?_
    refine go_reti dX8_operands_20 ?_
    exact ⟨by first | (rw [if_pos (by omega)]; done) | (rw [if_neg (by omega)]; done) | (rw [if_neg (by omega), if_pos (by omega)]; done) | (rw [if_neg (by omega), if_neg (by omega)]; done), rfl, rfl⟩
set_option maxRecDepth 100000 in
set_option maxHeartbeats 4000000 in
theorem ct_X8_unless {E : Ev} {M : Mm} {N : Nn} {a : Int}  : Ct E yX8_unless cX8_unless 1 ((some .int)) (rmH 1) [vi a] M N (qi (fun r M1 N1 => r = (if a = 0 then 1 else 0) ∧ M = M1 ∧ N = N1)) := by
  refine ct_of (own := RX8) (L0 := [vi a]) rfl (by decide +kernel) rfl rfl ?_
  refine go_iload_n dX8_unless_0 rfl ?_
  refine go_if_eq (tgt := 8) dX8_unless_1 rfl (fun h1 => ?_) (fun h1 => ?_)
  · refine go_iconst dX8_unless_8 (R32_lit rfl) ?_
    refine go_reti dX8_unless_9 ?_
    exact ⟨by first | (rw [if_pos (by omega)]; done) | (rw [if_neg (by omega)]; done) | (rw [if_neg (by omega), if_pos (by omega)]; done) | (rw [if_neg (by omega), if_neg (by omega)]; done), rfl, rfl⟩
  · refine go_iconst dX8_unless_4 (R32_lit rfl) ?_
    refine go_goto (tgt := 9) dX8_unless_5 rfl ?_
    refine go_reti dX8_unless_9 ?_
    exact ⟨by first | (rw [if_pos (by omega)]; done) | (rw [if_neg (by omega)]; done) | (rw [if_neg (by omega), if_pos (by omega)]; done) | (rw [if_neg (by omega), if_neg (by omega)]; done), rfl, rfl⟩
set_option maxRecDepth 100000 in
set_option maxHeartbeats 4000000 in
theorem ct_X8_unless_ {E : Ev} {M : Mm} {N : Nn} {a b : Int}  : Ct E yX8_unless_ cX8_unless_ 2 ((some .int)) (rmH 1) [vi a, vi b] M N (qi (fun r M1 N1 => r = (if a = 0 then 1 else if b = 0 then 2 else 0) ∧ M = M1 ∧ N = N1)) := by
  refine ct_of (own := RX8) (L0 := [vi a, vi b]) rfl (by decide +kernel) rfl rfl ?_
  refine go_iload_n dX8_unless__0 rfl ?_
  refine go_if_ne (tgt := 8) dX8_unless__1 rfl (fun h1 => ?_) (fun h1 => ?_)
  · refine go_iload_n dX8_unless__8 rfl ?_
    refine go_if_eq (tgt := 16) dX8_unless__9 rfl (fun h9 => ?_) (fun h9 => ?_)
    · refine go_iconst dX8_unless__16 (R32_lit rfl) ?_
      refine go_reti dX8_unless__17 ?_
      exact ⟨by first | (rw [if_pos (by omega)]; done) | (rw [if_neg (by omega)]; done) | (rw [if_neg (by omega), if_pos (by omega)]; done) | (rw [if_neg (by omega), if_neg (by omega)]; done), rfl, rfl⟩
    · refine go_iconst dX8_unless__12 (R32_lit rfl) ?_
      refine go_goto (tgt := 17) dX8_unless__13 rfl ?_
      refine go_reti dX8_unless__17 ?_
      exact ⟨by first | (rw [if_pos (by omega)]; done) | (rw [if_neg (by omega)]; done) | (rw [if_neg (by omega), if_pos (by omega)]; done) | (rw [if_neg (by omega), if_neg (by omega)]; done), rfl, rfl⟩
  · refine go_iconst dX8_unless__4 (R32_lit rfl) ?_
    refine go_goto (tgt := 17) dX8_unless__5 rfl ?_
    refine go_reti dX8_unless__17 ?_
    exact ⟨by first | (rw [if_pos (by omega)]; done) | (rw [if_neg (by omega)]; done) | (rw [if_neg (by omega), if_pos (by omega)]; done) | (rw [if_neg (by omega), if_neg (by omega)]; done), rfl, rfl⟩
set_option maxRecDepth 100000 in
set_option maxHeartbeats 4000000 in
theorem ct_X8_see {E : Ev} {M : Mm} {N : Nn} {k : Int} (k0 : 0 ≤ k) (h : M (29, 0, 0) 15 ≤ 500) : Ct E yX8_see cX8_see 2 ((some .int)) (rmH 1) [vr (29, 0, 0), vi k] M N (qi (fun r M1 N1 => r = (if k < M (29, 0, 0) 15 then M (30, 0, 4) k else -1) ∧ M = M1 ∧ N = N1)) := by
  refine ct_of (own := RX8) (L0 := [vr (29, 0, 0), vi k]) rfl (by decide +kernel) rfl rfl ?_
  refine go_iload_n dX8_see_0 rfl ?_
  refine go_aload_n dX8_see_1 rfl rfl ?_
  refine g8_120 dX8_see_2 ?_
  refine go_icmp_ge (tgt := 17) dX8_see_5 rfl (fun h5 => ?_) (fun h5 => ?_)
  · refine go_iconst dX8_see_17 (R32_lit rfl) ?_
    refine go_reti dX8_see_18 ?_
    exact ⟨by first | (rw [if_pos (by omega)]; done) | (rw [if_neg (by omega)]; done) | (rw [if_neg (by omega), if_pos (by omega)]; done) | (rw [if_neg (by omega), if_neg (by omega)]; done), rfl, rfl⟩
  · refine go_aload_n dX8_see_8 rfl rfl ?_
    refine g8_15 dX8_see_9 ?_
    refine go_iload_n dX8_see_12 rfl ?_
    refine go_iald dX8_see_13 rfl (by omega) (by omega) ?_
    refine go_goto (tgt := 18) dX8_see_14 rfl ?_
    refine go_reti dX8_see_18 ?_
    exact ⟨by first | (rw [if_pos (by omega)]; done) | (rw [if_neg (by omega)]; done) | (rw [if_neg (by omega), if_pos (by omega)]; done) | (rw [if_neg (by omega), if_neg (by omega)]; done), rfl, rfl⟩
set_option maxRecDepth 100000 in
set_option maxHeartbeats 4000000 in
theorem ct_X8_middle {E : Ev} {M : Mm} {N : Nn} {a : Int} (a0 : 0 ≤ a) (a1 : a ≤ 49) : Ct E yX8_middle cX8_middle 1 ((some .int)) (rmH 1) [vi a] M N (qi (fun r M1 N1 => r = 81 * a ∧ M = M1 ∧ N = N1)) := by
  refine ct_of (own := RX8) (L0 := [vi a]) rfl (by decide +kernel) rfl rfl ?_
  refine go_bipush dX8_middle_0 ⟨by decide, by decide⟩ ?_
  refine go_iload_n dX8_middle_2 rfl ?_
  refine go_imulc dX8_middle_3 ⟨by omega, by omega⟩ ?_
  exact go_reti dX8_middle_4 ⟨rfl, rfl, rfl⟩
set_option maxRecDepth 100000 in
set_option maxHeartbeats 4000000 in
theorem ct_X8_bit {E : Ev} {M : Mm} {N : Nn} {a b : Int}  : Ct E yX8_bit cX8_bit 2 ((some .int)) (rmH 1) [vi a, vi b] M N (qi (fun r M1 N1 => r = (if a = 0 then 0 else b) ∧ M = M1 ∧ N = N1)) := by
  refine ct_of (own := RX8) (L0 := [vi a, vi b]) rfl (by decide +kernel) rfl rfl ?_
  refine go_iload_n dX8_bit_0 rfl ?_
  refine go_if_eq (tgt := 8) dX8_bit_1 rfl (fun h1 => ?_) (fun h1 => ?_)
  · refine go_iconst dX8_bit_8 (R32_lit rfl) ?_
    refine go_reti dX8_bit_9 ?_
    exact ⟨by first | (rw [if_pos (by omega)]; done) | (rw [if_neg (by omega)]; done) | (rw [if_neg (by omega), if_pos (by omega)]; done) | (rw [if_neg (by omega), if_neg (by omega)]; done), rfl, rfl⟩
  · refine go_iload_n dX8_bit_4 rfl ?_
    refine go_goto (tgt := 9) dX8_bit_5 rfl ?_
    refine go_reti dX8_bit_9 ?_
    exact ⟨by first | (rw [if_pos (by omega)]; done) | (rw [if_neg (by omega)]; done) | (rw [if_neg (by omega), if_pos (by omega)]; done) | (rw [if_neg (by omega), if_neg (by omega)]; done), rfl, rfl⟩
set_option maxRecDepth 100000 in
set_option maxHeartbeats 4000000 in
theorem ct_X8_lesser {E : Ev} {M : Mm} {N : Nn} {a b : Int}  : Ct E yX8_lesser cX8_lesser 2 ((some .int)) (rmH 1) [vi a, vi b] M N (qi (fun r M1 N1 => r = min a b ∧ M = M1 ∧ N = N1)) := by
  refine ct_of (own := RX8) (L0 := [vi a, vi b]) rfl (by decide +kernel) rfl rfl ?_
  refine go_iload_n dX8_lesser_0 rfl ?_
  refine go_iload_n dX8_lesser_1 rfl ?_
  refine go_icmp_ge (tgt := 9) dX8_lesser_2 rfl (fun h2 => ?_) (fun h2 => ?_)
  · refine go_iload_n dX8_lesser_9 rfl ?_
    refine go_reti dX8_lesser_10 ?_
    exact ⟨by omega, rfl, rfl⟩
  · refine go_iload_n dX8_lesser_5 rfl ?_
    refine go_goto (tgt := 10) dX8_lesser_6 rfl ?_
    refine go_reti dX8_lesser_10 ?_
    exact ⟨by omega, rfl, rfl⟩
set_option maxRecDepth 100000 in
set_option maxHeartbeats 4000000 in
theorem ct_X8_rowOf {E : Ev} {M : Mm} {N : Nn} {v d : Int} (v0 : 0 ≤ v) (v1 : v < 15) : Ct E yX8_rowOf cX8_rowOf 3 ((some .int)) (rmH 1) [vr (29, 0, 0), vi v, vi d] M N (qi (fun r M1 N1 => r = (if d = 0 then v else 15 + v) ∧ M = M1 ∧ N = N1)) := by
  refine ct_of (own := RX8) (L0 := [vr (29, 0, 0), vi v, vi d]) rfl (by decide +kernel) rfl rfl ?_
  refine go_iload_n dX8_rowOf_0 rfl ?_
  refine go_if_eq (tgt := 11) dX8_rowOf_1 rfl (fun h1 => ?_) (fun h1 => ?_)
  · refine go_iconst dX8_rowOf_11 (R32_lit rfl) ?_
    refine go_iload_n dX8_rowOf_12 rfl ?_
    refine go_iaddc dX8_rowOf_13 ⟨by omega, by omega⟩ ?_
    refine go_reti dX8_rowOf_14 ?_
    exact ⟨by first | (rw [if_pos (by omega)]; omega) | (rw [if_neg (by omega)]; done), rfl, rfl⟩
  · refine go_bipush dX8_rowOf_4 ⟨by decide, by decide⟩ ?_
    refine go_iload_n dX8_rowOf_6 rfl ?_
    refine go_iaddc dX8_rowOf_7 ⟨by omega, by omega⟩ ?_
    refine go_goto (tgt := 14) dX8_rowOf_8 rfl ?_
    refine go_reti dX8_rowOf_14 ?_
    exact ⟨by first | (rw [if_pos (by omega)]; omega) | (rw [if_neg (by omega)]; done), rfl, rfl⟩
set_option maxRecDepth 100000 in
set_option maxHeartbeats 4000000 in
theorem ct_X8_no {E : Ev} {M : Mm} {N : Nn} {k : Int}  : Ct E yX8_no cX8_no 2 ((some .int)) (rmH 1) [vr (29, 0, 0), vi k] M N (qi (fun r M1 N1 => r = -1 ∧ M1 = wr M (29, 0, 0) 1 k ∧ N = N1)) := by
  refine ct_of (own := RX8) (L0 := [vr (29, 0, 0), vi k]) rfl (by decide +kernel) rfl rfl ?_
  refine go_aload_n dX8_no_0 rfl rfl ?_
  refine go_iload_n dX8_no_1 rfl ?_
  refine p8_108 dX8_no_2 ?_
  refine go_iconst dX8_no_5 (R32_lit rfl) ?_
  exact go_reti dX8_no_6 ⟨rfl, rfl, rfl⟩
set_option maxRecDepth 100000 in
set_option maxHeartbeats 4000000 in
theorem ct_X8_nothing {E : Ev} {M : Mm} {N : Nn} {k : Int}  : Ct E yX8_nothing cX8_nothing 2 ((some .long)) (rmH 1) [vr (29, 0, 0), vi k] M N (ql (fun r M1 N1 => r = -9223372036854775808 ∧ M1 = wr M (29, 0, 0) 1 k ∧ N = N1)) := by
  refine ct_of (own := RX8) (L0 := [vr (29, 0, 0), vi k]) rfl (by decide +kernel) rfl rfl ?_
  refine go_aload_n dX8_nothing_0 rfl rfl ?_
  refine go_iload_n dX8_nothing_1 rfl ?_
  refine p8_108 dX8_nothing_2 ?_
  refine c8_111 dX8_nothing_5 ?_
  exact go_retl dX8_nothing_8 ⟨rfl, rfl, rfl⟩
set_option maxRecDepth 100000 in
set_option maxHeartbeats 4000000 in
theorem ct_X8_isRefused {E : Ev} {M : Mm} {N : Nn} {k : Int}  : Ct E yX8_isRefused cX8_isRefused 2 ((some .boolean)) (rmH 1) [vr (29, 0, 0), vi k] M N (qi (fun r M1 N1 => r = (if k ≠ 0 then 1 else 0) ∧ M1 = rfM M k ∧ N = N1)) := by
  refine ct_of (own := RX8) (L0 := [vr (29, 0, 0), vi k]) rfl (by decide +kernel) rfl rfl ?_
  refine go_aload_n dX8_isRefused_0 rfl rfl ?_
  refine go_iconst dX8_isRefused_1 (R32_lit rfl) ?_
  refine p8_105 dX8_isRefused_2 ?_
  refine go_aload_n dX8_isRefused_5 rfl rfl ?_
  refine go_iconst dX8_isRefused_6 (R32_lit rfl) ?_
  refine p8_11 dX8_isRefused_7 ?_
  refine go_aload_n dX8_isRefused_10 rfl rfl ?_
  refine go_iload_n dX8_isRefused_11 rfl ?_
  refine p8_108 dX8_isRefused_12 ?_
  refine go_iload_n dX8_isRefused_15 rfl ?_
  refine go_if_eq (tgt := 23) dX8_isRefused_16 rfl (fun h16 => ?_) (fun h16 => ?_)
  · refine go_iconst dX8_isRefused_23 (R32_lit rfl) ?_
    refine go_retz dX8_isRefused_24 (by first | exact Or.inl rfl | exact Or.inr rfl | omega) ?_
    exact ⟨by first | rw [if_pos (by omega)] | rw [if_neg (by omega)], rfl, rfl⟩
  · refine go_iconst dX8_isRefused_19 (R32_lit rfl) ?_
    refine go_goto (tgt := 24) dX8_isRefused_20 rfl ?_
    refine go_retz dX8_isRefused_24 (by first | exact Or.inl rfl | exact Or.inr rfl | omega) ?_
    exact ⟨by first | rw [if_pos (by omega)] | rw [if_neg (by omega)], rfl, rfl⟩
set_option maxRecDepth 100000 in
set_option maxHeartbeats 4000000 in
theorem ct_X8_errs {E : Ev} {M : Mm} {N : Nn} {k : Int}  : Ct E yX8_errs cX8_errs 2 ((some .boolean)) (rmH 1) [vr (29, 0, 0), vi k] M N (qi (fun r M1 N1 => r = 0 ∧ M1 = wr (wr M (29, 0, 0) 20 k) (29, 0, 0) 21 (M (29, 0, 0) 16) ∧ N = N1)) := by
  refine ct_of (own := RX8) (L0 := [vr (29, 0, 0), vi k]) rfl (by decide +kernel) rfl rfl ?_
  refine go_aload_n dX8_errs_0 rfl rfl ?_
  refine go_iload_n dX8_errs_1 rfl ?_
  refine p8_161 dX8_errs_2 ?_
  refine go_aload_n dX8_errs_5 rfl rfl ?_
  refine go_aload_n dX8_errs_6 rfl rfl ?_
  refine g8_130 dX8_errs_7 ?_
  rw [wr_nk (by decide)]
  refine p8_164 dX8_errs_10 ?_
  refine go_iconst dX8_errs_13 (R32_lit rfl) ?_
  exact go_retz dX8_errs_14 (by first | exact Or.inl rfl | exact Or.inr rfl | omega) ⟨rfl, rfl, rfl⟩
set_option maxRecDepth 100000 in
set_option maxHeartbeats 4000000 in
theorem ct_X8_size {E : Ev} {M : Mm} {N : Nn}   : Ct E yX8_size cX8_size 1 ((some .int)) (rmH 1) [vr (29, 0, 0)] M N (qi (fun r M1 N1 => r = M (29, 0, 0) 5 ∧ M1 = wr M (29, 0, 0) 0 0 ∧ N = N1)) := by
  refine ct_of (own := RX8) (L0 := [vr (29, 0, 0)]) rfl (by decide +kernel) rfl rfl ?_
  refine go_aload_n dX8_size_0 rfl rfl ?_
  refine go_iconst dX8_size_1 (R32_lit rfl) ?_
  refine p8_105 dX8_size_2 ?_
  refine go_aload_n dX8_size_5 rfl rfl ?_
  refine g8_113 dX8_size_6 ?_
  rw [wr_nk (by decide)]
  exact go_reti dX8_size_9 ⟨rfl, rfl, rfl⟩
set_option maxRecDepth 100000 in
set_option maxHeartbeats 4000000 in
theorem ct_X8_trouble {E : Ev} {M : Mm} {N : Nn}   : Ct E yX8_trouble cX8_trouble 1 ((some .int)) (rmH 1) [vr (29, 0, 0)] M N (qi (fun r M1 N1 => r = M (29, 0, 0) 1 ∧ M1 = wr M (29, 0, 0) 0 0 ∧ N = N1)) := by
  refine ct_of (own := RX8) (L0 := [vr (29, 0, 0)]) rfl (by decide +kernel) rfl rfl ?_
  refine go_aload_n dX8_trouble_0 rfl rfl ?_
  refine go_iconst dX8_trouble_1 (R32_lit rfl) ?_
  refine p8_105 dX8_trouble_2 ?_
  refine go_aload_n dX8_trouble_5 rfl rfl ?_
  refine g8_108 dX8_trouble_6 ?_
  rw [wr_nk (by decide)]
  exact go_reti dX8_trouble_9 ⟨rfl, rfl, rfl⟩
set_option maxRecDepth 100000 in
set_option maxHeartbeats 4000000 in
theorem ct_X8_fault {E : Ev} {M : Mm} {N : Nn}   : Ct E yX8_fault cX8_fault 1 ((some .int)) (rmH 1) [vr (29, 0, 0)] M N (qi (fun r M1 N1 => r = M (29, 0, 0) 2 ∧ M1 = wr M (29, 0, 0) 0 0 ∧ N = N1)) := by
  refine ct_of (own := RX8) (L0 := [vr (29, 0, 0)]) rfl (by decide +kernel) rfl rfl ?_
  refine go_aload_n dX8_fault_0 rfl rfl ?_
  refine go_iconst dX8_fault_1 (R32_lit rfl) ?_
  refine p8_105 dX8_fault_2 ?_
  refine go_aload_n dX8_fault_5 rfl rfl ?_
  refine g8_272 dX8_fault_6 ?_
  rw [wr_nk (by decide)]
  exact go_reti dX8_fault_9 ⟨rfl, rfl, rfl⟩
set_option maxRecDepth 100000 in
set_option maxHeartbeats 4000000 in
theorem ct_X8_thrown {E : Ev} {M : Mm} {N : Nn}   : Ct E yX8_thrown cX8_thrown 1 ((some .int)) (rmH 1) [vr (29, 0, 0)] M N (qi (fun r M1 N1 => r = M (29, 0, 0) 0 ∧ M = M1 ∧ N = N1)) := by
  refine ct_of (own := RX8) (L0 := [vr (29, 0, 0)]) rfl (by decide +kernel) rfl rfl ?_
  refine go_aload_n dX8_thrown_0 rfl rfl ?_
  refine g8_105 dX8_thrown_1 ?_
  exact go_reti dX8_thrown_4 ⟨rfl, rfl, rfl⟩
set_option maxRecDepth 100000 in
set_option maxHeartbeats 4000000 in
theorem ct_X8_where {E : Ev} {M : Mm} {N : Nn}   : Ct E yX8_where cX8_where 1 ((some .int)) (rmH 1) [vr (29, 0, 0)] M N (qi (fun r M1 N1 => r = (if M (29, 0, 0) 1 = 4 then M (29, 0, 0) 3 else -1) ∧ M1 = wr M (29, 0, 0) 0 0 ∧ N = N1)) := by
  refine ct_of (own := RX8) (L0 := [vr (29, 0, 0)]) rfl (by decide +kernel) rfl rfl ?_
  refine go_aload_n dX8_where_0 rfl rfl ?_
  refine go_iconst dX8_where_1 (R32_lit rfl) ?_
  refine p8_105 dX8_where_2 ?_
  refine go_aload_n dX8_where_5 rfl rfl ?_
  refine g8_108 dX8_where_6 ?_
  rw [wr_nk (by decide)]
  refine go_iconst dX8_where_9 (R32_lit rfl) ?_
  refine go_icmp_ne (tgt := 20) dX8_where_10 rfl (fun h10 => ?_) (fun h10 => ?_)
  · refine go_iconst dX8_where_20 (R32_lit rfl) ?_
    refine go_reti dX8_where_21 ?_
    exact ⟨by first | (rw [if_pos (by omega)]; done) | (rw [if_neg (by omega)]; done), rfl, rfl⟩
  · refine go_aload_n dX8_where_13 rfl rfl ?_
    refine g8_11 dX8_where_14 ?_
    rw [wr_nk (by decide)]
    refine go_goto (tgt := 21) dX8_where_17 rfl ?_
    refine go_reti dX8_where_21 ?_
    exact ⟨by first | (rw [if_pos (by omega)]; done) | (rw [if_neg (by omega)]; done), rfl, rfl⟩
theorem bit_iff {c : Prop} [Decidable c] {r : Int} (e : r = if c then 1 else 0) : (r = 1 ↔ c) ∧ (r = 0 ↔ ¬ c) := by
  subst e
  by_cases h : c
  · rw [if_pos h]; exact ⟨⟨fun _ => h, fun _ => rfl⟩, ⟨fun z => absurd z (by decide), fun z => absurd h z⟩⟩
  · rw [if_neg h]; exact ⟨⟨fun z => absurd z (by decide), fun z => absurd z h⟩, ⟨fun _ => h, fun _ => rfl⟩⟩
set_option maxRecDepth 100000 in
set_option maxHeartbeats 4000000 in
theorem ct_X8_isVariable {E : Ev} {M : Mm} {N : Nn} {S : Pg} {v : Int} (hQ : QR S M) : Ct E yX8_isVariable cX8_isVariable 2 ((some .boolean)) (rmH 2) [vr (29, 0, 0), vi v] M N (qi (fun r M1 N1 => r = (if 0 ≤ v ∧ v < S 11 0 then 1 else 0) ∧ M = M1 ∧ N = N1)) := by
  refine ct_of (own := RX8) (L0 := [vr (29, 0, 0), vi v]) rfl (by decide +kernel) rfl rfl ?_
  have q1 := hQ.1
  have q2 := hQ.2.1
  have q3 := hQ.2.2.1
  have q4 := hQ.2.2.2.1
  refine go_aload_n dX8_isVariable_0 rfl rfl ?_
  refine g8_281 dX8_isVariable_1 ?_
  refine go_if_eq (tgt := 27) dX8_isVariable_4 rfl (fun h4 => ?_) (fun h4 => ?_)
  · refine go_iconst dX8_isVariable_27 (R32_lit rfl) ?_
    refine go_retz dX8_isVariable_28 (by first | exact Or.inl rfl | exact Or.inr rfl | omega) ?_
    exact ⟨by first | (rw [if_pos (by omega)]; done) | (rw [if_neg (by omega)]; done) | (rw [if_neg (by omega), if_pos (by omega)]; done) | (rw [if_neg (by omega), if_neg (by omega)]; done), rfl, rfl⟩
  · refine go_iload_n dX8_isVariable_7 rfl ?_
    refine go_i2l dX8_isVariable_8 ?_
    refine go_lconst (x := 0) dX8_isVariable_9 rfl ?_
    refine go_aload_n dX8_isVariable_10 rfl rfl ?_
    refine g8_259 dX8_isVariable_11 ?_
    refine go_iconst dX8_isVariable_14 (R32_lit rfl) ?_
    refine go_isubc dX8_isVariable_15 ⟨by omega, by omega⟩ ?_
    refine go_i2l dX8_isVariable_16 ?_
    refine v8_140 dX8_isVariable_17 rfl ⟨rfl, rfl⟩ ⟨rfl, rfl⟩ ct_X8_in (fun r1 M1 N1 hr1 hq1 => ?_)
    obtain ⟨z1, rfl, rfl⟩ := hq1
    have z1 := bit_iff z1
    refine go_if_eq (tgt := 27) dX8_isVariable_20 rfl (fun h20 => ?_) (fun h20 => ?_)
    · refine go_iconst dX8_isVariable_27 (R32_lit rfl) ?_
      refine go_retz dX8_isVariable_28 (by first | exact Or.inl rfl | exact Or.inr rfl | omega) ?_
      exact ⟨by first | (rw [if_pos (by omega)]; done) | (rw [if_neg (by omega)]; done) | (rw [if_neg (by omega), if_pos (by omega)]; done) | (rw [if_neg (by omega), if_neg (by omega)]; done), rfl, rfl⟩
    · refine go_iconst dX8_isVariable_23 (R32_lit rfl) ?_
      refine go_goto (tgt := 28) dX8_isVariable_24 rfl ?_
      refine go_retz dX8_isVariable_28 (by first | exact Or.inl rfl | exact Or.inr rfl | omega) ?_
      exact ⟨by first | (rw [if_pos (by omega)]; done) | (rw [if_neg (by omega)]; done) | (rw [if_neg (by omega), if_pos (by omega)]; done) | (rw [if_neg (by omega), if_neg (by omega)]; done), rfl, rfl⟩
set_option maxRecDepth 100000 in
set_option maxHeartbeats 4000000 in
theorem ct_X8_isStep {E : Ev} {M : Mm} {N : Nn} {S : Pg} {v : Int} (hQ : QR S M) : Ct E yX8_isStep cX8_isStep 2 ((some .boolean)) (rmH 3) [vr (29, 0, 0), vi v] M N (qi (fun r M1 N1 => r = (if 0 ≤ v ∧ v < S 11 0 ∧ S 0 v ≠ -2 then 1 else 0) ∧ M = M1 ∧ N = N1)) := by
  refine ct_of (own := RX8) (L0 := [vr (29, 0, 0), vi v]) rfl (by decide +kernel) rfl rfl ?_
  have q1 := hQ.1
  have q2 := hQ.2.1
  have q3 := hQ.2.2.1
  have q4 := hQ.2.2.2.1
  refine go_aload_n dX8_isStep_0 rfl rfl ?_
  refine go_iload_n dX8_isStep_1 rfl ?_
  refine v8_285 dX8_isStep_2 rfl ⟨rfl, rfl⟩ ⟨rfl, rfl⟩ (ct_X8_isVariable hQ) (fun r1 M1 N1 hr1 hq1 => ?_)
  obtain ⟨z1, rfl, rfl⟩ := hq1
  have z1 := bit_iff z1
  refine go_if_eq (tgt := 24) dX8_isStep_5 rfl (fun h5 => ?_) (fun h5 => ?_)
  · refine go_iconst dX8_isStep_24 (R32_lit rfl) ?_
    refine go_retz dX8_isStep_25 (by first | exact Or.inl rfl | exact Or.inr rfl | omega) ?_
    exact ⟨by first | (rw [if_pos (by omega)]; done) | (rw [if_neg (by omega)]; done) | (rw [if_neg (by omega), if_pos (by omega)]; done) | (rw [if_neg (by omega), if_neg (by omega)]; done), rfl, rfl⟩
  · refine go_aload_n dX8_isStep_8 rfl rfl ?_
    refine g8_19 dX8_isStep_9 ?_
    refine go_iload_n dX8_isStep_12 rfl ?_
    refine go_iald dX8_isStep_13 rfl (by omega) (by omega) ?_
    rw [hQ.srt (by omega) (by omega)]
    refine v8_248 dX8_isStep_14 rfl ⟨rfl, rfl⟩ ⟨rfl, rfl⟩ ct_X8_isInput (fun r2 M2 N2 hr2 hq2 => ?_)
    obtain ⟨z2, rfl, rfl⟩ := hq2
    have z2 := bit_iff z2
    refine go_if_ne (tgt := 24) dX8_isStep_17 rfl (fun h17 => ?_) (fun h17 => ?_)
    · refine go_iconst dX8_isStep_24 (R32_lit rfl) ?_
      refine go_retz dX8_isStep_25 (by first | exact Or.inl rfl | exact Or.inr rfl | omega) ?_
      exact ⟨by first | (rw [if_pos (by omega)]; done) | (rw [if_neg (by omega)]; done) | (rw [if_neg (by omega), if_pos (by omega)]; done) | (rw [if_neg (by omega), if_neg (by omega)]; done), rfl, rfl⟩
    · refine go_iconst dX8_isStep_20 (R32_lit rfl) ?_
      refine go_goto (tgt := 25) dX8_isStep_21 rfl ?_
      refine go_retz dX8_isStep_25 (by first | exact Or.inl rfl | exact Or.inr rfl | omega) ?_
      exact ⟨by first | (rw [if_pos (by omega)]; done) | (rw [if_neg (by omega)]; done) | (rw [if_neg (by omega), if_pos (by omega)]; done) | (rw [if_neg (by omega), if_neg (by omega)]; done), rfl, rfl⟩
set_option maxRecDepth 100000 in
set_option maxHeartbeats 4000000 in
theorem ct_X8_isInputAt {E : Ev} {M : Mm} {N : Nn} {S : Pg} {v : Int} (hQ : QR S M) : Ct E yX8_isInputAt cX8_isInputAt 2 ((some .boolean)) (rmH 3) [vr (29, 0, 0), vi v] M N (qi (fun r M1 N1 => r = (if 0 ≤ v ∧ v < S 11 0 ∧ S 0 v = -2 then 1 else 0) ∧ M = M1 ∧ N = N1)) := by
  refine ct_of (own := RX8) (L0 := [vr (29, 0, 0), vi v]) rfl (by decide +kernel) rfl rfl ?_
  have q1 := hQ.1
  have q2 := hQ.2.1
  have q3 := hQ.2.2.1
  have q4 := hQ.2.2.2.1
  refine go_aload_n dX8_isInputAt_0 rfl rfl ?_
  refine go_iload_n dX8_isInputAt_1 rfl ?_
  refine v8_285 dX8_isInputAt_2 rfl ⟨rfl, rfl⟩ ⟨rfl, rfl⟩ (ct_X8_isVariable hQ) (fun r1 M1 N1 hr1 hq1 => ?_)
  obtain ⟨z1, rfl, rfl⟩ := hq1
  have z1 := bit_iff z1
  refine go_if_eq (tgt := 24) dX8_isInputAt_5 rfl (fun h5 => ?_) (fun h5 => ?_)
  · refine go_iconst dX8_isInputAt_24 (R32_lit rfl) ?_
    refine go_retz dX8_isInputAt_25 (by first | exact Or.inl rfl | exact Or.inr rfl | omega) ?_
    exact ⟨by first | (rw [if_pos (by omega)]; done) | (rw [if_neg (by omega)]; done) | (rw [if_neg (by omega), if_pos (by omega)]; done) | (rw [if_neg (by omega), if_neg (by omega)]; done), rfl, rfl⟩
  · refine go_aload_n dX8_isInputAt_8 rfl rfl ?_
    refine g8_19 dX8_isInputAt_9 ?_
    refine go_iload_n dX8_isInputAt_12 rfl ?_
    refine go_iald dX8_isInputAt_13 rfl (by omega) (by omega) ?_
    rw [hQ.srt (by omega) (by omega)]
    refine v8_248 dX8_isInputAt_14 rfl ⟨rfl, rfl⟩ ⟨rfl, rfl⟩ ct_X8_isInput (fun r2 M2 N2 hr2 hq2 => ?_)
    obtain ⟨z2, rfl, rfl⟩ := hq2
    have z2 := bit_iff z2
    refine go_if_eq (tgt := 24) dX8_isInputAt_17 rfl (fun h17 => ?_) (fun h17 => ?_)
    · refine go_iconst dX8_isInputAt_24 (R32_lit rfl) ?_
      refine go_retz dX8_isInputAt_25 (by first | exact Or.inl rfl | exact Or.inr rfl | omega) ?_
      exact ⟨by first | (rw [if_pos (by omega)]; done) | (rw [if_neg (by omega)]; done) | (rw [if_neg (by omega), if_pos (by omega)]; done) | (rw [if_neg (by omega), if_neg (by omega)]; done), rfl, rfl⟩
    · refine go_iconst dX8_isInputAt_20 (R32_lit rfl) ?_
      refine go_goto (tgt := 25) dX8_isInputAt_21 rfl ?_
      refine go_retz dX8_isInputAt_25 (by first | exact Or.inl rfl | exact Or.inr rfl | omega) ?_
      exact ⟨by first | (rw [if_pos (by omega)]; done) | (rw [if_neg (by omega)]; done) | (rw [if_neg (by omega), if_pos (by omega)]; done) | (rw [if_neg (by omega), if_neg (by omega)]; done), rfl, rfl⟩
set_option maxRecDepth 100000 in
set_option maxHeartbeats 4000000 in
theorem ct_X8_whyNoPick {E : Ev} {M : Mm} {N : Nn} {S : Pg} {v : Int} (hQ : QR S M) : Ct E yX8_whyNoPick cX8_whyNoPick 2 ((some .int)) (rmH 4) [vr (29, 0, 0), vi v] M N (qi (fun r M1 N1 => r = (if 0 ≤ v ∧ v < S 11 0 ∧ S 0 v ≠ -2 then (if S 0 v = 3 then 0 else 5) else 1) ∧ M = M1 ∧ N = N1)) := by
  refine ct_of (own := RX8) (L0 := [vr (29, 0, 0), vi v]) rfl (by decide +kernel) rfl rfl ?_
  have q1 := hQ.1
  have q2 := hQ.2.1
  have q3 := hQ.2.2.1
  have q4 := hQ.2.2.2.1
  refine go_aload_n dX8_whyNoPick_0 rfl rfl ?_
  refine go_iload_n dX8_whyNoPick_1 rfl ?_
  refine v8_316 dX8_whyNoPick_2 rfl ⟨rfl, rfl⟩ ⟨rfl, rfl⟩ (ct_X8_isStep hQ) (fun r1 M1 N1 hr1 hq1 => ?_)
  obtain ⟨z1, rfl, rfl⟩ := hq1
  have z1 := bit_iff z1
  refine go_if_ne (tgt := 12) dX8_whyNoPick_5 rfl (fun h5 => ?_) (fun h5 => ?_)
  · refine go_aload_n dX8_whyNoPick_12 rfl rfl ?_
    refine g8_19 dX8_whyNoPick_13 ?_
    refine go_iload_n dX8_whyNoPick_16 rfl ?_
    refine go_iald dX8_whyNoPick_17 rfl (by omega) (by omega) ?_
    rw [hQ.srt (by omega) (by omega)]
    refine go_iconst dX8_whyNoPick_18 (R32_lit rfl) ?_
    refine go_icmp_ne (tgt := 26) dX8_whyNoPick_19 rfl (fun h19 => ?_) (fun h19 => ?_)
    · refine go_iconst dX8_whyNoPick_26 (R32_lit rfl) ?_
      refine go_reti dX8_whyNoPick_27 ?_
      exact ⟨by first | rw [if_pos (by omega), if_pos (by omega)] | rw [if_pos (by omega), if_neg (by omega)] | rw [if_neg (by omega)], rfl, rfl⟩
    · refine go_iconst dX8_whyNoPick_22 (R32_lit rfl) ?_
      refine go_goto (tgt := 27) dX8_whyNoPick_23 rfl ?_
      refine go_reti dX8_whyNoPick_27 ?_
      exact ⟨by first | rw [if_pos (by omega), if_pos (by omega)] | rw [if_pos (by omega), if_neg (by omega)] | rw [if_neg (by omega)], rfl, rfl⟩
  · refine go_iconst dX8_whyNoPick_8 (R32_lit rfl) ?_
    refine go_goto (tgt := 27) dX8_whyNoPick_9 rfl ?_
    refine go_reti dX8_whyNoPick_27 ?_
    exact ⟨by first | rw [if_pos (by omega), if_pos (by omega)] | rw [if_pos (by omega), if_neg (by omega)] | rw [if_neg (by omega)], rfl, rfl⟩
set_option maxRecDepth 100000 in
set_option maxHeartbeats 4000000 in
theorem ct_X8_isClimb {E : Ev} {M : Mm} {N : Nn} {a b : Int}  : Ct E yX8_isClimb cX8_isClimb 3 ((some .boolean)) (rmH 2) [vr (29, 0, 0), vi a, vi b] M N (qi (fun r M1 N1 => r = (if 1 ≤ a ∧ a ≤ 10 ∧ 0 ≤ b ∧ b ≤ 65536 then 1 else 0) ∧ M = M1 ∧ N = N1)) := by
  refine ct_of (own := RX8) (L0 := [vr (29, 0, 0), vi a, vi b]) rfl (by decide +kernel) rfl rfl ?_
  refine go_iload_n dX8_isClimb_0 rfl ?_
  refine go_i2l dX8_isClimb_1 ?_
  refine go_lconst (x := 1) dX8_isClimb_2 rfl ?_
  refine c8_492 dX8_isClimb_3 ?_
  refine v8_140 dX8_isClimb_6 rfl ⟨rfl, rfl⟩ ⟨rfl, rfl⟩ ct_X8_in (fun r1 M1 N1 hr1 hq1 => ?_)
  obtain ⟨z1, rfl, rfl⟩ := hq1
  have z1 := bit_iff z1
  refine go_if_eq (tgt := 28) dX8_isClimb_9 rfl (fun h9 => ?_) (fun h9 => ?_)
  · refine go_iconst dX8_isClimb_28 (R32_lit rfl) ?_
    refine go_retz dX8_isClimb_29 (by first | exact Or.inl rfl | exact Or.inr rfl | omega) ?_
    exact ⟨by first | (rw [if_pos (by omega)]; done) | (rw [if_neg (by omega)]; done) | (rw [if_neg (by omega), if_pos (by omega)]; done) | (rw [if_neg (by omega), if_neg (by omega)]; done), rfl, rfl⟩
  · refine go_iload_n dX8_isClimb_12 rfl ?_
    refine go_i2l dX8_isClimb_13 ?_
    refine go_lconst (x := 0) dX8_isClimb_14 rfl ?_
    refine c8_494 dX8_isClimb_15 ?_
    refine v8_140 dX8_isClimb_18 rfl ⟨rfl, rfl⟩ ⟨rfl, rfl⟩ ct_X8_in (fun r2 M2 N2 hr2 hq2 => ?_)
    obtain ⟨z2, rfl, rfl⟩ := hq2
    have z2 := bit_iff z2
    refine go_if_eq (tgt := 28) dX8_isClimb_21 rfl (fun h21 => ?_) (fun h21 => ?_)
    · refine go_iconst dX8_isClimb_28 (R32_lit rfl) ?_
      refine go_retz dX8_isClimb_29 (by first | exact Or.inl rfl | exact Or.inr rfl | omega) ?_
      exact ⟨by first | (rw [if_pos (by omega)]; done) | (rw [if_neg (by omega)]; done) | (rw [if_neg (by omega), if_pos (by omega)]; done) | (rw [if_neg (by omega), if_neg (by omega)]; done), rfl, rfl⟩
    · refine go_iconst dX8_isClimb_24 (R32_lit rfl) ?_
      refine go_goto (tgt := 29) dX8_isClimb_25 rfl ?_
      refine go_retz dX8_isClimb_29 (by first | exact Or.inl rfl | exact Or.inr rfl | omega) ?_
      exact ⟨by first | (rw [if_pos (by omega)]; done) | (rw [if_neg (by omega)]; done) | (rw [if_neg (by omega), if_pos (by omega)]; done) | (rw [if_neg (by omega), if_neg (by omega)]; done), rfl, rfl⟩
set_option maxRecDepth 100000 in
set_option maxHeartbeats 4000000 in
theorem ct_X8_meets {E : Ev} {M : Mm} {N : Nn} {a b c d : Int}  : Ct E yX8_meets cX8_meets 8 ((some .boolean)) (rmH 1) [vl a, vl b, vl c, vl d] M N (qi (fun r M1 N1 => r = (if max a c ≤ min b d then 1 else 0) ∧ M = M1 ∧ N = N1)) := by
  refine ct_of (own := RX8) (L0 := [vl a, vn, vl b, vn, vl c, vn, vl d, vn]) rfl (by decide +kernel) rfl rfl ?_
  refine go_lload_n dX8_meets_0 rfl ?_
  refine go_lload dX8_meets_1 rfl ?_
  refine go_lcmp_le (tgt := 11) dX8_meets_3 dX8_meets_4 rfl (fun h3 => ?_) (fun h3 => ?_)
  · refine go_lload dX8_meets_11 rfl ?_
    refine go_lload_n dX8_meets_13 rfl ?_
    refine go_lload dX8_meets_14 rfl ?_
    refine go_lcmp_ge (tgt := 24) dX8_meets_16 dX8_meets_17 rfl (fun h16 => ?_) (fun h16 => ?_)
    · refine go_lload dX8_meets_24 rfl ?_
      refine go_lcmp_gt (tgt := 34) dX8_meets_26 dX8_meets_27 rfl (fun h26 => ?_) (fun h26 => ?_)
      · refine go_iconst dX8_meets_34 (R32_lit rfl) ?_
        refine go_retz dX8_meets_35 (by first | exact Or.inl rfl | exact Or.inr rfl | omega) ?_
        exact ⟨by first | (rw [if_pos (by omega)]; done) | (rw [if_neg (by omega)]; done) | (rw [if_neg (by omega), if_pos (by omega)]; done) | (rw [if_neg (by omega), if_neg (by omega)]; done), rfl, rfl⟩
      · refine go_iconst dX8_meets_30 (R32_lit rfl) ?_
        refine go_goto (tgt := 35) dX8_meets_31 rfl ?_
        refine go_retz dX8_meets_35 (by first | exact Or.inl rfl | exact Or.inr rfl | omega) ?_
        exact ⟨by first | (rw [if_pos (by omega)]; done) | (rw [if_neg (by omega)]; done) | (rw [if_neg (by omega), if_pos (by omega)]; done) | (rw [if_neg (by omega), if_neg (by omega)]; done), rfl, rfl⟩
    · refine go_lload_n dX8_meets_20 rfl ?_
      refine go_goto (tgt := 26) dX8_meets_21 rfl ?_
      refine go_lcmp_gt (tgt := 34) dX8_meets_26 dX8_meets_27 rfl (fun h26 => ?_) (fun h26 => ?_)
      · refine go_iconst dX8_meets_34 (R32_lit rfl) ?_
        refine go_retz dX8_meets_35 (by first | exact Or.inl rfl | exact Or.inr rfl | omega) ?_
        exact ⟨by first | (rw [if_pos (by omega)]; done) | (rw [if_neg (by omega)]; done) | (rw [if_neg (by omega), if_pos (by omega)]; done) | (rw [if_neg (by omega), if_neg (by omega)]; done), rfl, rfl⟩
      · refine go_iconst dX8_meets_30 (R32_lit rfl) ?_
        refine go_goto (tgt := 35) dX8_meets_31 rfl ?_
        refine go_retz dX8_meets_35 (by first | exact Or.inl rfl | exact Or.inr rfl | omega) ?_
        exact ⟨by first | (rw [if_pos (by omega)]; done) | (rw [if_neg (by omega)]; done) | (rw [if_neg (by omega), if_pos (by omega)]; done) | (rw [if_neg (by omega), if_neg (by omega)]; done), rfl, rfl⟩
  · refine go_lload_n dX8_meets_7 rfl ?_
    refine go_goto (tgt := 13) dX8_meets_8 rfl ?_
    refine go_lload_n dX8_meets_13 rfl ?_
    refine go_lload dX8_meets_14 rfl ?_
    refine go_lcmp_ge (tgt := 24) dX8_meets_16 dX8_meets_17 rfl (fun h16 => ?_) (fun h16 => ?_)
    · refine go_lload dX8_meets_24 rfl ?_
      refine go_lcmp_gt (tgt := 34) dX8_meets_26 dX8_meets_27 rfl (fun h26 => ?_) (fun h26 => ?_)
      · refine go_iconst dX8_meets_34 (R32_lit rfl) ?_
        refine go_retz dX8_meets_35 (by first | exact Or.inl rfl | exact Or.inr rfl | omega) ?_
        exact ⟨by first | (rw [if_pos (by omega)]; done) | (rw [if_neg (by omega)]; done) | (rw [if_neg (by omega), if_pos (by omega)]; done) | (rw [if_neg (by omega), if_neg (by omega)]; done), rfl, rfl⟩
      · refine go_iconst dX8_meets_30 (R32_lit rfl) ?_
        refine go_goto (tgt := 35) dX8_meets_31 rfl ?_
        refine go_retz dX8_meets_35 (by first | exact Or.inl rfl | exact Or.inr rfl | omega) ?_
        exact ⟨by first | (rw [if_pos (by omega)]; done) | (rw [if_neg (by omega)]; done) | (rw [if_neg (by omega), if_pos (by omega)]; done) | (rw [if_neg (by omega), if_neg (by omega)]; done), rfl, rfl⟩
    · refine go_lload_n dX8_meets_20 rfl ?_
      refine go_goto (tgt := 26) dX8_meets_21 rfl ?_
      refine go_lcmp_gt (tgt := 34) dX8_meets_26 dX8_meets_27 rfl (fun h26 => ?_) (fun h26 => ?_)
      · refine go_iconst dX8_meets_34 (R32_lit rfl) ?_
        refine go_retz dX8_meets_35 (by first | exact Or.inl rfl | exact Or.inr rfl | omega) ?_
        exact ⟨by first | (rw [if_pos (by omega)]; done) | (rw [if_neg (by omega)]; done) | (rw [if_neg (by omega), if_pos (by omega)]; done) | (rw [if_neg (by omega), if_neg (by omega)]; done), rfl, rfl⟩
      · refine go_iconst dX8_meets_30 (R32_lit rfl) ?_
        refine go_goto (tgt := 35) dX8_meets_31 rfl ?_
        refine go_retz dX8_meets_35 (by first | exact Or.inl rfl | exact Or.inr rfl | omega) ?_
        exact ⟨by first | (rw [if_pos (by omega)]; done) | (rw [if_neg (by omega)]; done) | (rw [if_neg (by omega), if_pos (by omega)]; done) | (rw [if_neg (by omega), if_neg (by omega)]; done), rfl, rfl⟩
set_option maxRecDepth 100000 in
set_option maxHeartbeats 4000000 in
theorem ct_X8_adds {E : Ev} {M : Mm} {N : Nn} {x : Int} (j0 : 0 ≤ M (29, 0, 0) 42) (j1 : M (29, 0, 0) 42 < 4) : Ct E yX8_adds cX8_adds 2 (none) (rmH 1) [vr (29, 0, 0), vi x] M N (qv (fun M1 N1 => M1 = wr (wr M (30, 0, 41) (M (29, 0, 0) 42) x) (29, 0, 0) 42 (M (29, 0, 0) 42 + 1) ∧ N = N1)) := by
  refine ct_of (own := RX8) (L0 := [vr (29, 0, 0), vi x]) rfl (by decide +kernel) rfl rfl ?_
  refine go_aload_n dX8_adds_0 rfl rfl ?_
  refine g8_83 dX8_adds_1 ?_
  refine go_aload_n dX8_adds_4 rfl rfl ?_
  refine g8_372 dX8_adds_5 ?_
  refine go_iload_n dX8_adds_8 rfl ?_
  refine go_iast dX8_adds_9 rfl (by omega) (by omega) ?_
  refine go_aload_n dX8_adds_10 rfl rfl ?_
  first | refine go_dup_r dX8_adds_11 ?_ | refine go_dup_i dX8_adds_11 ?_
  refine g8_372 dX8_adds_12 ?_
  rw [wr_nf (nm_ne1 (by decide))]
  refine go_iconst dX8_adds_15 (R32_lit rfl) ?_
  refine go_iaddc dX8_adds_16 ⟨by omega, by omega⟩ ?_
  refine p8_372 dX8_adds_17 ?_
  exact go_retv dX8_adds_20 ⟨rfl, rfl⟩
/-- a word's bytes laid behind one another -/
def lwF (x : Int) (b : Int → Int) (l : Int) : Nat → Int → Int
  | 0 => b
  | k + 1 => upI (lwF x b l k) (l + (k : Nat)) (iand (ishr x (24 - 8 * (k : Nat))) 255)
def lwW (x : Int) (b : Int → Int) (l : Int) : Int → Int := lwF x b l 4
set_option maxRecDepth 100000 in
set_option maxHeartbeats 4000000 in
theorem lp_X8_laysWord {E : Ev} {M : Mm} {N : Nn} {x : Int} (l0 : 0 ≤ M (29, 0, 0) 5) (l1 : M (29, 0, 0) 5 + 4 ≤ 500) : ∀ (n : Nat) (i : Int) (M2 : Mm), (i + n = 4) → (0 ≤ i) → (M2 (30, 0, 4) = lwF x (M (30, 0, 4)) (M (29, 0, 0) 5) i.toNat) → (Kr [] [4] M M2) → Go E RX8 cX8_laysWord 3 (none) (rmH 1) 0 0 (zM E (qv (fun M1 N1 => M1 (30, 0, 4) = lwW x (M (30, 0, 4)) (M (29, 0, 0) 5) ∧ M1 (29, 0, 0) 5 = M (29, 0, 0) 5 + 4 ∧ Kr [5] [4] M M1 ∧ N = N1))) 2 [vr (29, 0, 0), vi x, vi i] [] M2 N := by
  intro n
  induction n using Nat.strongRecOn with
  | ind n ih =>
  intro i M2 hn i0 t4 hf
  have h5 : M2 (29, 0, 0) 5 = M (29, 0, 0) 5 := hf.s 5 (by decide)
  refine go_iload_n dX8_laysWord_2 rfl ?_
  refine go_iconst dX8_laysWord_3 (R32_lit rfl) ?_
  refine go_icmp_ge (tgt := 37) dX8_laysWord_4 rfl (fun h4 => ?_) (fun h4 => ?_)
  · refine go_aload_n dX8_laysWord_37 rfl rfl ?_
    first | refine go_dup_r dX8_laysWord_38 ?_ | refine go_dup_i dX8_laysWord_38 ?_
    skip
    refine g8_113 dX8_laysWord_39 ?_
    rw [h5]
    refine go_iconst dX8_laysWord_42 (R32_lit rfl) ?_
    refine go_iaddc dX8_laysWord_43 ⟨by omega, by omega⟩ ?_
    refine p8_113 dX8_laysWord_44 ?_
    refine go_retv dX8_laysWord_47 ?_
    refine ⟨?_, by rw [wr_eq], (hf.up (K' := [5]) (by decide) (fun _ h => h)).ws (by decide), rfl⟩
    rw [wr_nf (nm_ne1 (by decide)), t4, show i = 4 by omega]
    rfl
  · refine go_aload_n dX8_laysWord_7 rfl rfl ?_
    refine g8_15 dX8_laysWord_8 ?_
    refine go_aload_n dX8_laysWord_11 rfl rfl ?_
    refine g8_113 dX8_laysWord_12 ?_
    rw [h5]
    refine go_iload_n dX8_laysWord_15 rfl ?_
    refine go_iaddc dX8_laysWord_16 ⟨by omega, by omega⟩ ?_
    refine go_iload_n dX8_laysWord_17 rfl ?_
    refine go_bipush dX8_laysWord_18 ⟨by decide, by decide⟩ ?_
    refine go_bipush dX8_laysWord_20 ⟨by decide, by decide⟩ ?_
    refine go_iload_n dX8_laysWord_22 rfl ?_
    refine go_imulc dX8_laysWord_23 ⟨by omega, by omega⟩ ?_
    refine go_isubc dX8_laysWord_24 ⟨by omega, by omega⟩ ?_
    refine go_ishr dX8_laysWord_25 ?_
    refine go_sipush dX8_laysWord_26 ⟨by decide, by decide⟩ ?_
    refine go_iand dX8_laysWord_29 ?_
    refine go_iast dX8_laysWord_30 rfl (by omega) (by omega) ?_
    refine go_iinc2c dX8_laysWord_31 rfl rfl ⟨by omega, by omega⟩ ?_
    refine go_goto (tgt := 2) dX8_laysWord_34 rfl ?_
    exact ih (n - 1) (by omega) (i + 1) _ (by omega) (by omega) (by
      rw [upI_wr, t4, show (i + 1).toNat = i.toNat + 1 by omega]
      show _ = upI (lwF x (M (30, 0, 4)) (M (29, 0, 0) 5) i.toNat) (M (29, 0, 0) 5 + (i.toNat : Int)) (iand (ishr x (24 - 8 * (i.toNat : Int))) 255)
      rw [Int.toNat_of_nonneg i0]) (hf.wa (by decide))
set_option maxRecDepth 100000 in
set_option maxHeartbeats 4000000 in
theorem ct_X8_laysWord {E : Ev} {M : Mm} {N : Nn} {x : Int} (l0 : 0 ≤ M (29, 0, 0) 5) (l1 : M (29, 0, 0) 5 + 4 ≤ 500) : Ct E yX8_laysWord cX8_laysWord 3 (none) (rmH 1) [vr (29, 0, 0), vi x] M N (qv (fun M1 N1 => M1 (30, 0, 4) = lwW x (M (30, 0, 4)) (M (29, 0, 0) 5) ∧ M1 (29, 0, 0) 5 = M (29, 0, 0) 5 + 4 ∧ Kr [5] [4] M M1 ∧ N = N1)) := by
  refine ct_of (own := RX8) (L0 := [vr (29, 0, 0), vi x, vn]) rfl (by decide +kernel) rfl rfl ?_
  refine go_iconst dX8_laysWord_0 (R32_lit rfl) ?_
  refine go_ist2 dX8_laysWord_1 rfl rfl ?_
  exact lp_X8_laysWord l0 l1 4 0 M (by omega) (by omega) rfl Kr.rf
set_option maxRecDepth 100000 in
set_option maxHeartbeats 4000000 in
theorem ct_X8_feed {E : Ev} {M : Mm} {N : Nn} {a b c d e : Int} (l0 : 0 ≤ M (29, 0, 0) 5) : Ct E yX8_feed cX8_feed 6 ((some .int)) (rmH 2) [vr (29, 0, 0), vi a, vi b, vi c, vi d, vi e] M N (qi (fun r M1 N1 => (((M (29, 0, 0) 5) + 20 ≤ 500 ∧ r = (M (29, 0, 0) 5) + 20 ∧ M1 (30, 0, 4) = lwW e (lwW d (lwW c (lwW b (lwW a (M (30, 0, 4)) (M (29, 0, 0) 5)) ((M (29, 0, 0) 5) + 4)) ((M (29, 0, 0) 5) + 8)) ((M (29, 0, 0) 5) + 12)) ((M (29, 0, 0) 5) + 16) ∧ M1 (29, 0, 0) 5 = (M (29, 0, 0) 5) + 20) ∨ (500 < (M (29, 0, 0) 5) + 20 ∧ r = -1 ∧ M1 (30, 0, 4) = (M (30, 0, 4)) ∧ M1 (29, 0, 0) 5 = (M (29, 0, 0) 5))) ∧ M1 (29, 0, 0) 0 = 0 ∧ Kr [0, 5] [4] M M1 ∧ N = N1)) := by
  refine ct_of (own := RX8) (L0 := [vr (29, 0, 0), vi a, vi b, vi c, vi d, vi e]) rfl (by decide +kernel) rfl rfl ?_
  refine go_aload_n dX8_feed_0 rfl rfl ?_
  refine go_iconst dX8_feed_1 (R32_lit rfl) ?_
  refine p8_105 dX8_feed_2 ?_
  refine go_nmM (fun Ma eMa => ?_)
  have a5 : Ma (29, 0, 0) 5 = M (29, 0, 0) 5 := by rw [eMa, wr_nk (by decide)]
  have a4 : Ma (30, 0, 4) = (M (30, 0, 4)) := by rw [eMa, wr_nf (nm_ne1 (by decide))]
  have a0 : Ma (29, 0, 0) 0 = 0 := by rw [eMa, wr_eq]
  have fa : Kr [0, 5] [4] M Ma := by rw [eMa]; exact Kr.rf.ws (by decide)
  clear eMa
  refine go_aload_n dX8_feed_5 rfl rfl ?_
  refine g8_113 dX8_feed_6 ?_
  rw [a5]
  refine go_sipush dX8_feed_9 ⟨by decide, by decide⟩ ?_
  refine go_icmp_le (tgt := 17) dX8_feed_12 rfl (fun h12 => ?_) (fun h12 => ?_)
  · refine go_aload_n dX8_feed_17 rfl rfl ?_
    refine go_iload_n dX8_feed_18 rfl ?_
    refine v8_116 dX8_feed_19 rfl ⟨rfl, rfl⟩ ⟨rfl, rfl⟩ (ct_X8_laysWord (by omega) (by omega)) (fun M1 N1 hq1 => ?_)
    obtain ⟨w1, v1, f1, rfl⟩ := hq1
    have v1 : M1 (29, 0, 0) 5 = M (29, 0, 0) 5 + 4 := by rw [v1, a5]; try omega
    rw [a4, a5] at w1
    refine go_aload_n dX8_feed_22 rfl rfl ?_
    refine go_iload_n dX8_feed_23 rfl ?_
    refine v8_116 dX8_feed_24 rfl ⟨rfl, rfl⟩ ⟨rfl, rfl⟩ (ct_X8_laysWord (by omega) (by omega)) (fun M2 N2 hq2 => ?_)
    obtain ⟨w2, v2, f2, rfl⟩ := hq2
    have v2 : M2 (29, 0, 0) 5 = M (29, 0, 0) 5 + 8 := by rw [v2, v1]; try omega
    rw [w1, v1] at w2
    refine go_aload_n dX8_feed_27 rfl rfl ?_
    refine go_iload_n dX8_feed_28 rfl ?_
    refine v8_116 dX8_feed_29 rfl ⟨rfl, rfl⟩ ⟨rfl, rfl⟩ (ct_X8_laysWord (by omega) (by omega)) (fun M3 N3 hq3 => ?_)
    obtain ⟨w3, v3, f3, rfl⟩ := hq3
    have v3 : M3 (29, 0, 0) 5 = M (29, 0, 0) 5 + 12 := by rw [v3, v2]; try omega
    rw [w2, v2] at w3
    refine go_aload_n dX8_feed_32 rfl rfl ?_
    refine go_iload dX8_feed_33 rfl ?_
    refine v8_116 dX8_feed_35 rfl ⟨rfl, rfl⟩ ⟨rfl, rfl⟩ (ct_X8_laysWord (by omega) (by omega)) (fun M4 N4 hq4 => ?_)
    obtain ⟨w4, v4, f4, rfl⟩ := hq4
    have v4 : M4 (29, 0, 0) 5 = M (29, 0, 0) 5 + 16 := by rw [v4, v3]; try omega
    rw [w3, v3] at w4
    refine go_aload_n dX8_feed_38 rfl rfl ?_
    refine go_iload dX8_feed_39 rfl ?_
    refine v8_116 dX8_feed_41 rfl ⟨rfl, rfl⟩ ⟨rfl, rfl⟩ (ct_X8_laysWord (by omega) (by omega)) (fun M5 N5 hq5 => ?_)
    obtain ⟨w5, v5, f5, rfl⟩ := hq5
    have v5 : M5 (29, 0, 0) 5 = M (29, 0, 0) 5 + 20 := by rw [v5, v4]; try omega
    rw [w4, v4] at w5
    refine go_aload_n dX8_feed_44 rfl rfl ?_
    refine g8_113 dX8_feed_45 ?_
    rw [v5]
    refine go_reti dX8_feed_48 ?_
    exact ⟨Or.inl ⟨by omega, rfl, w5, v5⟩, by rw [f5.s 0 (by decide), f4.s 0 (by decide), f3.s 0 (by decide), f2.s 0 (by decide), f1.s 0 (by decide)]; exact a0, ((((fa.tr (f1.up (by decide) (by decide))).tr (f2.up (by decide) (by decide))).tr (f3.up (by decide) (by decide))).tr (f4.up (by decide) (by decide))).tr (f5.up (by decide) (by decide)), rfl⟩
  · refine go_iconst dX8_feed_15 (R32_lit rfl) ?_
    refine go_reti dX8_feed_16 ?_
    exact ⟨Or.inr ⟨by omega, rfl, a4, a5⟩, a0, fa, rfl⟩
