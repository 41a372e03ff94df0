/-! the reference's rows of forms -/
def fR (A : Int → Int) (r : Int) (a : FV) : Prop := A (81 * r) = a.1 ∧ ∀ i, 0 ≤ i → i < 80 → A (81 * r + 1 + i) = a.2 i
def FM (M : Mm) (ψ : Int → FV) : Prop := ∀ r, 0 ≤ r → r < 50 → fR (M (30, 0, 33)) r (ψ r)
def upF (ψ : Int → FV) (r : Int) (a : FV) : Int → FV := fun j => if j = r then a else ψ j
def NuR (M : Mm) (ν : Nu) : Prop := M (29, 0, 0) 34 = ν.1 ∧ 0 ≤ ν.1 ∧ ν.1 ≤ 63 ∧ ∀ i, 0 ≤ i → i < ν.1 → M (30, 0, 35) i = ν.2.1 i ∧ M (30, 0, 36) i = ν.2.2 i
def Zn (a : FV) (n : Int) : Prop := ∀ i, (i < 0 ∨ n ≤ i) → a.2 i = 0
def FQ (M : Mm) (ψ : Int → FV) (ν : Nu) : Prop := FM M ψ ∧ NuR M ν ∧ ∀ r, 0 ≤ r → r < 50 → Zn (ψ r) ν.1
def rwA (A : Int → Int) (r k : Int) (g : Int → Int) : Int → Int := fun j => if 81 * r ≤ j ∧ j < 81 * r + k then g (j - 81 * r) else A j
theorem upF_eq {ψ : Int → FV} {r : Int} {a : FV} : upF ψ r a r = a := if_pos rfl
theorem upF_ne {ψ : Int → FV} {r j : Int} {a : FV} (h : j ≠ r) : upF ψ r a j = ψ j := if_neg h
theorem rwA_0 {A g : Int → Int} {r : Int} : rwA A r 0 g = A := by
  funext j; unfold rwA; rw [if_neg (by omega)]
theorem rwA_s {A g : Int → Int} {r k : Int} (k0 : 0 ≤ k) : upI (rwA A r k g) (81 * r + k) (g k) = rwA A r (k + 1) g := by
  funext j
  unfold upI rwA
  by_cases q : j = 81 * r + k
  · rw [if_pos q, if_pos (by omega), q, show 81 * r + k - 81 * r = k by omega]
  · rw [if_neg q]
    by_cases z : 81 * r ≤ j ∧ j < 81 * r + k
    · rw [if_pos z, if_pos (by omega)]
    · rw [if_neg z, if_neg (by omega)]
theorem rwA_rd {A g : Int → Int} {r a k : Int} (k0 : 0 ≤ k) (k1 : k < 81) : rwA A r k g (81 * a + k) = A (81 * a + k) := by
  unfold rwA
  rw [if_neg (by omega)]
theorem FM_row {M M1 : Mm} {ψ : Int → FV} {r : Int} {g : Int → Int} {f : FV} (h : FM M ψ) (e : M1 (30, 0, 33) = rwA (M (30, 0, 33)) r 81 g) (h0 : g 0 = f.1) (h1 : ∀ i, 0 ≤ i → i < 80 → g (1 + i) = f.2 i) : FM M1 (upF ψ r f) := by
  intro q q0 q1
  unfold fR
  rw [e]
  by_cases z : q = r
  · rw [z, upF_eq]
    unfold rwA
    refine ⟨by rw [if_pos (by omega), show 81 * r - 81 * r = 0 by omega]; exact h0, fun i i0 i1 => ?_⟩
    rw [if_pos (by omega), show 81 * r + 1 + i - 81 * r = 1 + i by omega]
    exact h1 i i0 i1
  · rw [upF_ne z]
    obtain ⟨a, c⟩ := h q q0 q1
    unfold rwA
    refine ⟨by rw [if_neg (by omega)]; exact a, fun i i0 i1 => ?_⟩
    rw [if_neg (by omega)]
    exact c i i0 i1
theorem NuR.k {M M1 : Mm} {ν : Nu} {K : List Int} {A : List Nat} (h : NuR M ν) (f : Kr K A M M1) (h34 : (34 : Int) ∉ K) (h35 : 35 ∉ A) (h36 : 36 ∉ A) : NuR M1 ν := by
  unfold NuR
  rw [f.s 34 h34, f.a 35 h35, f.a 36 h36]
  exact h
theorem FQ.k {M M1 : Mm} {ψ : Int → FV} {ν : Nu} {K : List Int} {A : List Nat} (h : FQ M ψ ν) (f : Kr K A M M1) (h33 : 33 ∉ A) (h34 : (34 : Int) ∉ K) (h35 : 35 ∉ A) (h36 : 36 ∉ A) : FQ M1 ψ ν := by
  refine ⟨?_, h.2.1.k f h34 h35 h36, h.2.2⟩
  unfold FM
  rw [f.a 33 h33]
  exact h.1
theorem Zn_up {ψ : Int → FV} {n r : Int} {a : FV} (h : ∀ q, 0 ≤ q → q < 50 → Zn (ψ q) n) (ha : Zn a n) : ∀ q, 0 ≤ q → q < 50 → Zn (upF ψ r a q) n := by
  intro q q0 q1
  by_cases z : q = r
  · rw [z, upF_eq]; exact ha
  · rw [upF_ne z]; exact h q q0 q1
theorem Zn_fz {n : Int} : Zn fz n := fun _ _ => rfl
theorem Zn_num {x n : Int} : Zn (fnum x) n := fun _ _ => rfl
theorem Zn_fad {a b : FV} {t n : Int} (ha : Zn a n) (hb : Zn b n) : Zn (fad a t b) n := fun i hi => by show w64 (a.2 i + t * b.2 i) = 0; rw [ha i hi, hb i hi, Int.mul_zero]; rfl
theorem Zn_fml {a b : FV} {n : Int} (ha : Zn a n) (hb : Zn b n) : Zn (fml a b) n := fun i hi => by show w64 (a.1 * b.2 i + b.1 * a.2 i) = 0; rw [ha i hi, hb i hi, Int.mul_zero, Int.mul_zero]; rfl
theorem Zn_fno {a : FV} {k c n : Int} (ha : Zn a n) (hk : n = k) (k0 : 0 ≤ k) : Zn (fno a k c) (n + 1) := fun i hi => by show (if i = k then w64 (a.2 i + c) else a.2 i) = 0; rw [if_neg (by omega)]; exact ha i (by omega)
theorem Zn.up {a : FV} {n m : Int} (h : Zn a n) (hm : n ≤ m) : Zn a m := fun i hi => h i (by omega)
set_option maxRecDepth 100000 in
set_option maxHeartbeats 4000000 in
theorem lp_X8_clears {E : Ev} {M : Mm} {N : Nn} {ψ : Int → FV} {ν : Nu} {r : Int} (hF : FQ M ψ ν) (r0 : 0 ≤ r) (r1 : r < 50) : ∀ (n : Nat) (k : Int) (M2 : Mm), (k + n = 81) → (0 ≤ k) → (M2 (30, 0, 33) = rwA (M (30, 0, 33)) r k (fun _ => (0 : Int))) → (Kr [] [33] M M2) → Go E RX8 cX8_clears 3 (none) (rmH 2) 0 0 (zM E (qv (fun M1 N1 => FQ M1 (upF ψ r fz) ν ∧ Kr [] [33] M M1 ∧ N = N1))) 2 [vr (29, 0, 0), vi r, vi k] [] M2 N := by
  intro n
  induction n using Nat.strongRecOn with
  | ind n ih =>
  intro k M2 hn k0 hA hf
  refine go_iload_n dX8_clears_2 rfl ?_
  refine go_bipush dX8_clears_3 ⟨by decide, by decide⟩ ?_
  refine go_icmp_ge (tgt := 26) dX8_clears_5 rfl (fun h5 => ?_) (fun h5 => ?_)
  · refine go_retv dX8_clears_26 ?_
    rw [show k = 81 by omega] at hA
    exact ⟨⟨FM_row (g := (fun _ => (0 : Int))) hF.1 hA rfl (fun _ _ _ => rfl), hF.2.1.k hf (by decide) (by decide) (by decide), Zn_up hF.2.2 Zn_fz⟩, hf, rfl⟩
  · refine go_aload_n dX8_clears_8 rfl rfl ?_
    refine g8_65 dX8_clears_9 ?_
    refine go_iload_n dX8_clears_12 rfl ?_
    refine v8_358 dX8_clears_13 rfl ⟨rfl, rfl⟩ ⟨rfl, rfl⟩ (ct_X8_middle r0 (by omega)) (fun r1 M1 N1 hr1 hq1 => ?_)
    obtain ⟨z1, rfl, rfl⟩ := hq1
    subst z1
    refine go_iload_n dX8_clears_16 rfl ?_
    refine go_iaddc dX8_clears_17 ⟨by omega, by omega⟩ ?_
    refine go_lconst (x := 0) dX8_clears_18 rfl ?_
    refine go_last dX8_clears_19 rfl (by omega) (by omega) ?_
    refine go_iinc2c dX8_clears_20 rfl rfl ⟨by omega, by omega⟩ ?_
    refine go_goto (tgt := 2) dX8_clears_23 rfl ?_
    exact ih (n - 1) (by omega) (k + 1) _ (by omega) (by omega) (by rw [upI_wr, hA]; exact rwA_s (g := (fun _ => (0 : Int))) k0) (hf.wa (by decide))
set_option maxRecDepth 100000 in
set_option maxHeartbeats 4000000 in
theorem ct_X8_clears {E : Ev} {M : Mm} {N : Nn} {ψ : Int → FV} {ν : Nu} {r : Int} (hF : FQ M ψ ν) (r0 : 0 ≤ r) (r1 : r < 50) : Ct E yX8_clears cX8_clears 3 (none) (rmH 2) [vr (29, 0, 0), vi r] M N (qv (fun M1 N1 => FQ M1 (upF ψ r fz) ν ∧ Kr [] [33] M M1 ∧ N = N1)) := by
  refine ct_of (own := RX8) (L0 := [vr (29, 0, 0), vi r, vn]) rfl (by decide +kernel) rfl rfl ?_
  refine go_iconst dX8_clears_0 (R32_lit rfl) ?_
  refine go_ist2 dX8_clears_1 rfl rfl ?_
  exact lp_X8_clears hF r0 r1 81 0 M (by omega) (by omega) rwA_0.symm Kr.rf
set_option maxRecDepth 100000 in
set_option maxHeartbeats 4000000 in
theorem lp_X8_copies {E : Ev} {M : Mm} {N : Nn} {ψ : Int → FV} {ν : Nu} {r a : Int} (hF : FQ M ψ ν) (r0 : 0 ≤ r) (r1 : r < 50) (a0 : 0 ≤ a) (a1 : a < 50) : ∀ (n : Nat) (k : Int) (M2 : Mm), (k + n = 81) → (0 ≤ k) → (M2 (30, 0, 33) = rwA (M (30, 0, 33)) r k (fun k => M (30, 0, 33) (81 * a + k))) → (Kr [] [33] M M2) → Go E RX8 cX8_copies 4 (none) (rmH 2) 0 0 (zM E (qv (fun M1 N1 => FQ M1 (upF ψ r (ψ a)) ν ∧ Kr [] [33] M M1 ∧ N = N1))) 2 [vr (29, 0, 0), vi r, vi a, vi k] [] M2 N := by
  intro n
  induction n using Nat.strongRecOn with
  | ind n ih =>
  intro k M2 hn k0 hA hf
  refine go_iload_n dX8_copies_2 rfl ?_
  refine go_bipush dX8_copies_3 ⟨by decide, by decide⟩ ?_
  refine go_icmp_ge (tgt := 36) dX8_copies_5 rfl (fun h5 => ?_) (fun h5 => ?_)
  · refine go_retv dX8_copies_36 ?_
    rw [show k = 81 by omega] at hA
    obtain ⟨e0, e1⟩ := hF.1 a a0 a1
    exact ⟨⟨FM_row (g := (fun k => M (30, 0, 33) (81 * a + k))) hF.1 hA (by rw [Int.add_zero]; exact e0) (fun i i0 i1 => by rw [← e1 i i0 i1, Int.add_assoc]), hF.2.1.k hf (by decide) (by decide) (by decide), Zn_up hF.2.2 (hF.2.2 a a0 a1)⟩, hf, rfl⟩
  · refine go_aload_n dX8_copies_8 rfl rfl ?_
    refine g8_65 dX8_copies_9 ?_
    refine go_iload_n dX8_copies_12 rfl ?_
    refine v8_358 dX8_copies_13 rfl ⟨rfl, rfl⟩ ⟨rfl, rfl⟩ (ct_X8_middle r0 (by omega)) (fun r1 M1 N1 hr1 hq1 => ?_)
    obtain ⟨z1, rfl, rfl⟩ := hq1
    subst z1
    refine go_iload_n dX8_copies_16 rfl ?_
    refine go_iaddc dX8_copies_17 ⟨by omega, by omega⟩ ?_
    refine go_aload_n dX8_copies_18 rfl rfl ?_
    refine g8_65 dX8_copies_19 ?_
    refine go_iload_n dX8_copies_22 rfl ?_
    refine v8_358 dX8_copies_23 rfl ⟨rfl, rfl⟩ ⟨rfl, rfl⟩ (ct_X8_middle a0 (by omega)) (fun r2 M3 N3 hr2 hq2 => ?_)
    obtain ⟨z2, rfl, rfl⟩ := hq2
    subst z2
    refine go_iload_n dX8_copies_26 rfl ?_
    refine go_iaddc dX8_copies_27 ⟨by omega, by omega⟩ ?_
    refine go_lald dX8_copies_28 rfl (by omega) (by omega) ?_
    rw [hA, rwA_rd k0 (by omega)]
    refine go_last dX8_copies_29 rfl (by omega) (by omega) ?_
    refine go_iinc3c dX8_copies_30 rfl rfl ⟨by omega, by omega⟩ ?_
    refine go_goto (tgt := 2) dX8_copies_33 rfl ?_
    exact ih (n - 1) (by omega) (k + 1) _ (by omega) (by omega) (by rw [upI_wr, hA]; exact rwA_s (g := (fun k => M (30, 0, 33) (81 * a + k))) k0) (hf.wa (by decide))
set_option maxRecDepth 100000 in
set_option maxHeartbeats 4000000 in
theorem ct_X8_copies {E : Ev} {M : Mm} {N : Nn} {ψ : Int → FV} {ν : Nu} {r a : Int} (hF : FQ M ψ ν) (r0 : 0 ≤ r) (r1 : r < 50) (a0 : 0 ≤ a) (a1 : a < 50) : Ct E yX8_copies cX8_copies 4 (none) (rmH 2) [vr (29, 0, 0), vi r, vi a] M N (qv (fun M1 N1 => FQ M1 (upF ψ r (ψ a)) ν ∧ Kr [] [33] M M1 ∧ N = N1)) := by
  refine ct_of (own := RX8) (L0 := [vr (29, 0, 0), vi r, vi a, vn]) rfl (by decide +kernel) rfl rfl ?_
  refine go_iconst dX8_copies_0 (R32_lit rfl) ?_
  refine go_ist3 dX8_copies_1 rfl rfl ?_
  exact lp_X8_copies hF r0 r1 a0 a1 81 0 M (by omega) (by omega) rwA_0.symm Kr.rf
set_option maxRecDepth 100000 in
set_option maxHeartbeats 4000000 in
theorem lp_X8_sums {E : Ev} {M : Mm} {N : Nn} {ψ : Int → FV} {ν : Nu} {r a b t : Int} (hF : FQ M ψ ν) (r0 : 0 ≤ r) (r1 : r < 50) (a0 : 0 ≤ a) (a1 : a < 50) (b0 : 0 ≤ b) (b1 : b < 50) : ∀ (n : Nat) (k : Int) (M2 : Mm), (k + n = 81) → (0 ≤ k) → (M2 (30, 0, 33) = rwA (M (30, 0, 33)) r k (fun k => w64 (M (30, 0, 33) (81 * a + k) + t * M (30, 0, 33) (81 * b + k)))) → (Kr [] [33] M M2) → Go E RX8 cX8_sums 7 (none) (rmH 2) 0 0 (zM E (qv (fun M1 N1 => FQ M1 (upF ψ r (fad (ψ a) t (ψ b))) ν ∧ Kr [] [33] M M1 ∧ N = N1))) 3 [vr (29, 0, 0), vi r, vi a, vi b, vl t, vn, vi k] [] M2 N := by
  intro n
  induction n using Nat.strongRecOn with
  | ind n ih =>
  intro k M2 hn k0 hA hf
  refine go_iload dX8_sums_3 rfl ?_
  refine go_bipush dX8_sums_5 ⟨by decide, by decide⟩ ?_
  refine go_icmp_ge (tgt := 56) dX8_sums_7 rfl (fun h7 => ?_) (fun h7 => ?_)
  · refine go_retv dX8_sums_56 ?_
    rw [show k = 81 by omega] at hA
    obtain ⟨e0, e1⟩ := hF.1 a a0 a1
    obtain ⟨d0, d1⟩ := hF.1 b b0 b1
    exact ⟨⟨FM_row (g := (fun k => w64 (M (30, 0, 33) (81 * a + k) + t * M (30, 0, 33) (81 * b + k)))) hF.1 hA (by rw [Int.add_zero, Int.add_zero, e0, d0]; rfl) (fun i i0 i1 => by rw [← Int.add_assoc, ← Int.add_assoc, e1 i i0 i1, d1 i i0 i1]; rfl), hF.2.1.k hf (by decide) (by decide) (by decide), Zn_up hF.2.2 (Zn_fad (hF.2.2 a a0 a1) (hF.2.2 b b0 b1))⟩, hf, rfl⟩
  · refine go_aload_n dX8_sums_10 rfl rfl ?_
    refine g8_65 dX8_sums_11 ?_
    refine go_iload_n dX8_sums_14 rfl ?_
    refine v8_358 dX8_sums_15 rfl ⟨rfl, rfl⟩ ⟨rfl, rfl⟩ (ct_X8_middle r0 (by omega)) (fun r1 M1 N1 hr1 hq1 => ?_)
    obtain ⟨z1, rfl, rfl⟩ := hq1
    subst z1
    refine go_iload dX8_sums_18 rfl ?_
    refine go_iaddc dX8_sums_20 ⟨by omega, by omega⟩ ?_
    refine go_aload_n dX8_sums_21 rfl rfl ?_
    refine g8_65 dX8_sums_22 ?_
    refine go_iload_n dX8_sums_25 rfl ?_
    refine v8_358 dX8_sums_26 rfl ⟨rfl, rfl⟩ ⟨rfl, rfl⟩ (ct_X8_middle a0 (by omega)) (fun r2 M3 N3 hr2 hq2 => ?_)
    obtain ⟨z2, rfl, rfl⟩ := hq2
    subst z2
    refine go_iload dX8_sums_29 rfl ?_
    refine go_iaddc dX8_sums_31 ⟨by omega, by omega⟩ ?_
    refine go_lald dX8_sums_32 rfl (by omega) (by omega) ?_
    rw [hA, rwA_rd k0 (by omega)]
    refine go_lload dX8_sums_33 rfl ?_
    refine go_aload_n dX8_sums_35 rfl rfl ?_
    refine g8_65 dX8_sums_36 ?_
    refine go_iload_n dX8_sums_39 rfl ?_
    refine v8_358 dX8_sums_40 rfl ⟨rfl, rfl⟩ ⟨rfl, rfl⟩ (ct_X8_middle b0 (by omega)) (fun r3 M4 N4 hr3 hq3 => ?_)
    obtain ⟨z3, rfl, rfl⟩ := hq3
    subst z3
    refine go_iload dX8_sums_43 rfl ?_
    refine go_iaddc dX8_sums_45 ⟨by omega, by omega⟩ ?_
    refine go_lald dX8_sums_46 rfl (by omega) (by omega) ?_
    rw [hA, rwA_rd k0 (by omega)]
    refine go_lmul dX8_sums_47 ?_
    refine go_ladd dX8_sums_48 ?_
    rw [w64_add']
    refine go_last dX8_sums_49 rfl (by omega) (by omega) ?_
    refine go_iinc6c dX8_sums_50 rfl rfl ⟨by omega, by omega⟩ ?_
    refine go_goto (tgt := 3) dX8_sums_53 rfl ?_
    exact ih (n - 1) (by omega) (k + 1) _ (by omega) (by omega) (by rw [upI_wr, hA]; exact rwA_s (g := (fun k => w64 (M (30, 0, 33) (81 * a + k) + t * M (30, 0, 33) (81 * b + k)))) k0) (hf.wa (by decide))
set_option maxRecDepth 100000 in
set_option maxHeartbeats 4000000 in
theorem ct_X8_sums {E : Ev} {M : Mm} {N : Nn} {ψ : Int → FV} {ν : Nu} {r a b t : Int} (hF : FQ M ψ ν) (r0 : 0 ≤ r) (r1 : r < 50) (a0 : 0 ≤ a) (a1 : a < 50) (b0 : 0 ≤ b) (b1 : b < 50) : Ct E yX8_sums cX8_sums 7 (none) (rmH 2) [vr (29, 0, 0), vi r, vi a, vi b, vl t] M N (qv (fun M1 N1 => FQ M1 (upF ψ r (fad (ψ a) t (ψ b))) ν ∧ Kr [] [33] M M1 ∧ N = N1)) := by
  refine ct_of (own := RX8) (L0 := [vr (29, 0, 0), vi r, vi a, vi b, vl t, vn, vn]) rfl (by decide +kernel) rfl rfl ?_
  refine go_iconst dX8_sums_0 (R32_lit rfl) ?_
  refine go_ist6 dX8_sums_1 rfl rfl ?_
  exact lp_X8_sums hF r0 r1 a0 a1 b0 b1 81 0 M (by omega) (by omega) rwA_0.symm Kr.rf
set_option maxRecDepth 100000 in
set_option maxHeartbeats 4000000 in
theorem lp_X8_radius {E : Ev} {M : Mm} {N : Nn} {ψ : Int → FV} {ν : Nu} {a : Int} (hF : FQ M ψ ν) (a0 : 0 ≤ a) (a1 : a < 50) : ∀ (n : Nat) (i x : Int), (i + n = ν.1) → (0 ≤ i) → (x = w64 (sumZ (fun i => absw ((ψ a).2 i)) i.toNat)) → Go E RX8 cX8_radius 5 ((some .long)) (rmH 2) 0 0 (zM E (ql (fun r M1 N1 => r = fra (ψ a) ∧ M = M1 ∧ N = N1))) 5 [vr (29, 0, 0), vi a, vl x, vn, vi i] [] M N := by
  intro n
  induction n using Nat.strongRecOn with
  | ind n ih =>
  intro i x hn i0 hx
  have nu := hF.2.1
  obtain ⟨n1, n2, n3, -⟩ := nu
  obtain ⟨e0, e1⟩ := hF.1 a a0 a1
  refine go_iload dX8_radius_5 rfl ?_
  refine go_aload_n dX8_radius_7 rfl rfl ?_
  refine g8_302 dX8_radius_8 ?_
  rw [n1]
  refine go_icmp_ge (tgt := 40) dX8_radius_11 rfl (fun h11 => ?_) (fun h11 => ?_)
  · refine go_lload_n dX8_radius_40 rfl ?_
    refine go_retl dX8_radius_41 ?_
    refine ⟨?_, rfl, rfl⟩
    rw [hx]
    unfold fra
    rw [sumZ_tail i.toNat 63 (by omega) (fun j j0 j1 => by show absw ((ψ a).2 j) = 0; rw [hF.2.2 a a0 a1 j (Or.inr (by omega))]; rfl)]
  · refine go_lload_n dX8_radius_14 rfl ?_
    refine go_aload_n dX8_radius_15 rfl rfl ?_
    refine g8_65 dX8_radius_16 ?_
    refine go_iload_n dX8_radius_19 rfl ?_
    refine v8_358 dX8_radius_20 rfl ⟨rfl, rfl⟩ ⟨rfl, rfl⟩ (ct_X8_middle a0 (by omega)) (fun r1 M1 N1 hr1 hq1 => ?_)
    obtain ⟨z1, rfl, rfl⟩ := hq1
    subst z1
    refine go_iconst dX8_radius_23 (R32_lit rfl) ?_
    refine go_iaddc dX8_radius_24 ⟨by omega, by omega⟩ ?_
    refine go_iload dX8_radius_25 rfl ?_
    refine go_iaddc dX8_radius_27 ⟨by omega, by omega⟩ ?_
    refine go_lald dX8_radius_28 rfl (by omega) (by omega) ?_
    rw [e1 i i0 (by omega)]
    refine v8_244 dX8_radius_29 rfl ⟨rfl, rfl⟩ ⟨rfl, rfl⟩ ct_X8_sizeOf (fun r2 M2 N2 hr2 hq2 => ?_)
    obtain ⟨z2, rfl, rfl⟩ := hq2
    subst z2
    refine go_ladd dX8_radius_32 ?_
    refine go_lst2 dX8_radius_33 rfl rfl ?_
    refine go_iinc4c dX8_radius_34 rfl rfl ⟨by omega, by omega⟩ ?_
    refine go_goto (tgt := 5) dX8_radius_37 rfl ?_
    exact ih (n - 1) (by omega) (i + 1) _ (by omega) (by omega) (by
      rw [hx, show (i + 1).toNat = i.toNat + 1 by omega]
      show _ = w64 (sumZ (fun i => absw ((ψ a).2 i)) i.toNat + absw ((ψ a).2 (i.toNat : Int)))
      rw [Int.toNat_of_nonneg i0, w64_add])
set_option maxRecDepth 100000 in
set_option maxHeartbeats 4000000 in
theorem ct_X8_radius {E : Ev} {M : Mm} {N : Nn} {ψ : Int → FV} {ν : Nu} {a : Int} (hF : FQ M ψ ν) (a0 : 0 ≤ a) (a1 : a < 50) : Ct E yX8_radius cX8_radius 5 ((some .long)) (rmH 2) [vr (29, 0, 0), vi a] M N (ql (fun r M1 N1 => r = fra (ψ a) ∧ M = M1 ∧ N = N1)) := by
  refine ct_of (own := RX8) (L0 := [vr (29, 0, 0), vi a, vn, vn, vn]) rfl (by decide +kernel) rfl rfl ?_
  refine go_lconst (x := 0) dX8_radius_0 rfl ?_
  refine go_lst2 dX8_radius_1 rfl rfl ?_
  refine go_iconst dX8_radius_2 (R32_lit rfl) ?_
  refine go_ist4 dX8_radius_3 rfl rfl ?_
  have nu := hF.2.1
  obtain ⟨n1, n2, n3, -⟩ := nu
  exact lp_X8_radius hF a0 a1 ν.1.toNat 0 0 (by omega) (by omega) rfl
set_option maxRecDepth 100000 in
set_option maxHeartbeats 4000000 in
theorem ct_X8_leastOf {E : Ev} {M : Mm} {N : Nn} {ψ : Int → FV} {ν : Nu} {a : Int} (hF : FQ M ψ ν) (a0 : 0 ≤ a) (a1 : a < 50) : Ct E yX8_leastOf cX8_leastOf 2 ((some .long)) (rmH 3) [vr (29, 0, 0), vi a] M N (ql (fun r M1 N1 => r = flo (ψ a) ∧ M = M1 ∧ N = N1)) := by
  refine ct_of (own := RX8) (L0 := [vr (29, 0, 0), vi a]) rfl (by decide +kernel) rfl rfl ?_
  refine go_aload_n dX8_leastOf_0 rfl rfl ?_
  refine g8_65 dX8_leastOf_1 ?_
  refine go_iload_n dX8_leastOf_4 rfl ?_
  refine v8_358 dX8_leastOf_5 rfl ⟨rfl, rfl⟩ ⟨rfl, rfl⟩ (ct_X8_middle a0 (by omega)) (fun r1 M1 N1 hr1 hq1 => ?_)
  obtain ⟨z1, rfl, rfl⟩ := hq1
  subst z1
  refine go_lald dX8_leastOf_8 rfl (by omega) (by omega) ?_
  rw [(hF.1 a a0 a1).1]
  refine go_aload_n dX8_leastOf_9 rfl rfl ?_
  refine go_iload_n dX8_leastOf_10 rfl ?_
  refine v8_361 dX8_leastOf_11 rfl ⟨rfl, rfl⟩ ⟨rfl, rfl⟩ (ct_X8_radius hF a0 a1) (fun r2 M2 N2 hr2 hq2 => ?_)
  obtain ⟨z2, rfl, rfl⟩ := hq2
  subst z2
  refine go_lsub dX8_leastOf_14 ?_
  exact go_retl dX8_leastOf_15 ⟨rfl, rfl, rfl⟩
set_option maxRecDepth 100000 in
set_option maxHeartbeats 4000000 in
theorem ct_X8_greatestOf {E : Ev} {M : Mm} {N : Nn} {ψ : Int → FV} {ν : Nu} {a : Int} (hF : FQ M ψ ν) (a0 : 0 ≤ a) (a1 : a < 50) : Ct E yX8_greatestOf cX8_greatestOf 2 ((some .long)) (rmH 3) [vr (29, 0, 0), vi a] M N (ql (fun r M1 N1 => r = fhi (ψ a) ∧ M = M1 ∧ N = N1)) := by
  refine ct_of (own := RX8) (L0 := [vr (29, 0, 0), vi a]) rfl (by decide +kernel) rfl rfl ?_
  refine go_aload_n dX8_greatestOf_0 rfl rfl ?_
  refine g8_65 dX8_greatestOf_1 ?_
  refine go_iload_n dX8_greatestOf_4 rfl ?_
  refine v8_358 dX8_greatestOf_5 rfl ⟨rfl, rfl⟩ ⟨rfl, rfl⟩ (ct_X8_middle a0 (by omega)) (fun r1 M1 N1 hr1 hq1 => ?_)
  obtain ⟨z1, rfl, rfl⟩ := hq1
  subst z1
  refine go_lald dX8_greatestOf_8 rfl (by omega) (by omega) ?_
  rw [(hF.1 a a0 a1).1]
  refine go_aload_n dX8_greatestOf_9 rfl rfl ?_
  refine go_iload_n dX8_greatestOf_10 rfl ?_
  refine v8_361 dX8_greatestOf_11 rfl ⟨rfl, rfl⟩ ⟨rfl, rfl⟩ (ct_X8_radius hF a0 a1) (fun r2 M2 N2 hr2 hq2 => ?_)
  obtain ⟨z2, rfl, rfl⟩ := hq2
  subst z2
  refine go_ladd dX8_greatestOf_14 ?_
  exact go_retl dX8_greatestOf_15 ⟨rfl, rfl, rfl⟩
theorem go_dup2_ir' {E : Ev} {own : String} {cc : ByteArray} {nL : Nat} {ret : Option FieldType} {R : Room} {cl sl : Nat} {Z : Zt} {pc : Nat} {L st : List Vv} {M : Mm} {N : Nn} {x : Int} {n : Nm} (hd : decode cc pc = .ok (.dup2, 1)) (k : Go E own cc nL ret R cl sl Z (pc + 1) L (vi x :: vr n :: vi x :: vr n :: st) M N) : Go E own cc nL ret R cl sl Z pc L (vi x :: vr n :: st) M N := go_dup2_ir hd k
theorem FM_no {M M1 : Mm} {ψ : Int → FV} {r k c : Int} (h : FM M ψ) (r0 : 0 ≤ r) (r1 : r < 50) (k0 : 0 ≤ k) (k1 : k < 80) (e : M1 (30, 0, 33) = upI (M (30, 0, 33)) (81 * r + 1 + k) (w64 ((ψ r).2 k + c))) : FM M1 (upF ψ r (fno (ψ r) k c)) := by
  intro q q0 q1
  unfold fR
  rw [e]
  obtain ⟨a, d⟩ := h q q0 q1
  unfold upI
  by_cases z : q = r
  · subst z
    rw [upF_eq]
    refine ⟨by rw [if_neg (by omega)]; exact a, fun i i0 i1 => ?_⟩
    show _ = if i = k then w64 ((ψ q).2 i + c) else (ψ q).2 i
    by_cases y : i = k
    · rw [if_pos (by omega), if_pos y, y]
    · rw [if_neg (by omega), if_neg y]; exact d i i0 i1
  · rw [upF_ne z]
    refine ⟨by rw [if_neg (by omega)]; exact a, fun i i0 i1 => ?_⟩
    rw [if_neg (by omega)]; exact d i i0 i1
set_option maxRecDepth 100000 in
set_option maxHeartbeats 4000000 in
theorem ct_X8_brings {E : Ev} {M : Mm} {N : Nn} {ψ : Int → FV} {ν : Nu} {r c b : Int} (hF : FQ M ψ ν) (r0 : 0 ≤ r) (r1 : r < 50) (hn : ν.1 < 63) : Ct E yX8_brings cX8_brings 5 (none) (rmH 2) [vr (29, 0, 0), vi r, vl c, vi b] M N (qv (fun M1 N1 => FQ M1 (upF ψ r (fno (ψ r) ν.1 c)) (nw ν (M (29, 0, 0) 37) b) ∧ Kr [34] [33, 35, 36] M M1 ∧ N = N1)) := by
  refine ct_of (own := RX8) (L0 := [vr (29, 0, 0), vi r, vl c, vn, vi b]) rfl (by decide +kernel) rfl rfl ?_
  obtain ⟨n1, n2, n3, n4⟩ := hF.2.1
  obtain ⟨e0, e1⟩ := hF.1 r r0 r1
  refine go_aload_n dX8_brings_0 rfl rfl ?_
  refine g8_68 dX8_brings_1 ?_
  refine go_aload_n dX8_brings_4 rfl rfl ?_
  refine g8_302 dX8_brings_5 ?_
  rw [n1]
  refine go_aload_n dX8_brings_8 rfl rfl ?_
  refine g8_365 dX8_brings_9 ?_
  refine go_iast dX8_brings_12 rfl (by omega) (by omega) ?_
  refine go_aload_n dX8_brings_13 rfl rfl ?_
  refine g8_71 dX8_brings_14 ?_
  refine go_aload_n dX8_brings_17 rfl rfl ?_
  refine g8_302 dX8_brings_18 ?_
  rw [wr_nf (nm_ne1 (by decide)), n1]
  refine go_iload dX8_brings_21 rfl ?_
  refine go_iast dX8_brings_23 rfl (by omega) (by omega) ?_
  refine go_aload_n dX8_brings_24 rfl rfl ?_
  refine g8_65 dX8_brings_25 ?_
  refine go_iload_n dX8_brings_28 rfl ?_
  refine v8_358 dX8_brings_29 rfl ⟨rfl, rfl⟩ ⟨rfl, rfl⟩ (ct_X8_middle r0 (by omega)) (fun r1 M1 N1 hr1 hq1 => ?_)
  obtain ⟨z1, rfl, rfl⟩ := hq1
  subst z1
  refine go_iconst dX8_brings_32 (R32_lit rfl) ?_
  refine go_iaddc dX8_brings_33 ⟨by omega, by omega⟩ ?_
  refine go_aload_n dX8_brings_34 rfl rfl ?_
  refine g8_302 dX8_brings_35 ?_
  rw [wr_nf (nm_ne1 (by decide)), wr_nf (nm_ne1 (by decide)), n1]
  refine go_iaddc dX8_brings_38 ⟨by omega, by omega⟩ ?_
  refine go_dup2_ir dX8_brings_39 ?_
  refine go_lald dX8_brings_40 rfl (by omega) (by omega) ?_
  rw [wr_nf (nm_ne3 (by decide)), wr_nf (nm_ne3 (by decide)), e1 ν.1 n2 (by omega)]
  refine go_lload_n dX8_brings_41 rfl ?_
  refine go_ladd dX8_brings_42 ?_
  refine go_last dX8_brings_43 rfl (by omega) (by omega) ?_
  refine go_aload_n dX8_brings_44 rfl rfl ?_
  first | refine go_dup_r dX8_brings_45 ?_ | refine go_dup_i dX8_brings_45 ?_
  refine g8_302 dX8_brings_46 ?_
  rw [wr_nf (nm_ne1 (by decide)), wr_nf (nm_ne1 (by decide)), wr_nf (nm_ne1 (by decide)), n1]
  refine go_iconst dX8_brings_49 (R32_lit rfl) ?_
  refine go_iaddc dX8_brings_50 ⟨by omega, by omega⟩ ?_
  refine p8_302 dX8_brings_51 ?_
  refine go_retv dX8_brings_54 ?_
  refine ⟨⟨?_, ⟨?_, ?_, ?_, ?_⟩, ?_⟩, ?_, rfl⟩
  · have h1 := FM_no (M1 := wr (wr (wr (wr M (30, 0, 35) ν.1 (M (29, 0, 0) 37)) (30, 0, 36) ν.1 b) (30, 0, 33) (81 * r + 1 + ν.1) (w64 ((ψ r).2 ν.1 + c))) (29, 0, 0) 34 (ν.1 + 1)) (c := c) hF.1 r0 r1 n2 (by omega) (by rw [wr_nf (nm_ne1 (by decide)), upI_wr, wr_nf (nm_ne3 (by decide)), wr_nf (nm_ne3 (by decide))])
    exact h1
  · rw [wr_eq]; rfl
  · show 0 ≤ ν.1 + 1; omega
  · show ν.1 + 1 ≤ 63; omega
  · intro i i0 i1
    have i1 : i < ν.1 + 1 := i1
    rw [wr_nf (nm_ne1 (by decide)), wr_nf (nm_ne3 (by decide)), wr_nf (nm_ne3 (by decide)), upI_wr, wr_nf (nm_ne1 (by decide)), wr_nf (nm_ne3 (by decide)), upI_wr, wr_nf (nm_ne3 (by decide))]
    show upI _ _ _ i = (if i = ν.1 then M (29, 0, 0) 37 else ν.2.1 i) ∧ upI _ _ _ i = (if i = ν.1 then b else ν.2.2 i)
    unfold upI
    by_cases z : i = ν.1
    · rw [if_pos z, if_pos z, if_pos z, if_pos z]; exact ⟨rfl, rfl⟩
    · rw [if_neg z, if_neg z, if_neg z, if_neg z]; exact n4 i i0 (by omega)
  · intro q q0 q1
    show Zn _ (ν.1 + 1)
    by_cases z : q = r
    · rw [z, upF_eq]; exact Zn_fno (hF.2.2 r r0 r1) rfl n2
    · rw [upF_ne z]; exact (hF.2.2 q q0 q1).up (by omega)
  · exact (((Kr.rf.wa (by decide)).wa (by decide)).wa (by decide)).ws (by decide)
