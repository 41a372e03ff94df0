/-- a pick has candidates -/
def NEq (S : Pg) (φ : Nat → FV) (v : Int) : Prop := S 0 v = 3 → 1 ≤ (pkV (tsT S φ v) (vA S φ v 2) (vA S φ v 3)).length ∧ 1 ≤ (pkD (tsT S φ v) (tsU S φ v) (vA S φ v 2) (vA S φ v 3) (dA S φ v 2) (dA S φ v 3)).length
theorem NEq_op {S : Pg} {φ φ' : Nat → FV} {v : Int} (h : Op S v φ φ') (g : NEq S φ' v) : NEq S φ v := by
  intro h3
  have a0 := vA_op h (k := 0) (by decide) (by rw [opn_3 h3]; decide)
  have a1 := vA_op h (k := 1) (by decide) (by rw [opn_3 h3]; decide)
  have a2 := vA_op h (k := 2) (by decide) (by rw [opn_3 h3]; decide)
  have a3 := vA_op h (k := 3) (by decide) (by rw [opn_3 h3]; decide)
  have := g h3
  unfold tsT tsU at this ⊢
  rw [a0.1, a0.2, a1.1, a1.2, a2.1, a2.2, a3.1, a3.2]
  exact this
/-- pieces change the ranges of inputs only -/
def XS (S X : Pg) : Prop := ∀ f, f ≠ 2 → f ≠ 3 → X f = S f
theorem st_X {S X : Pg} (h : XS S X) (φ : Nat → FV) (ν : Nu) (fi : Int → Int) (v : Int) : stV X φ ν v = stV S φ ν v ∧ stD X φ ν v = stD S φ ν v ∧ stN X φ ν v = stN S φ ν v ∧ stM X φ v = stM S φ v ∧ rnC X fi v = rnC S fi v := by
  have e0 := h 0 (by decide) (by decide)
  have e4 := h 4 (by decide) (by decide)
  have e8 := h 8 (by decide) (by decide)
  have e9 := h 9 (by decide) (by decide)
  have ea : ∀ k, vA X φ v k = vA S φ v k := fun k => by unfold vA; rw [e8, e9]
  have ed : ∀ k, dA X φ v k = dA S φ v k := fun k => by unfold dA; rw [e8]
  have eo : ∀ i, opF X fi i = opF S fi i := fun i => by unfold opF; rw [e8, e9]
  unfold stV stD stN stM rnC rfS tsT tsU sgn
  rw [ea, ea, ea, ea, ed, ed, ed, ed, eo, eo, eo, eo, e0, e4]
  exact ⟨rfl, rfl, rfl, rfl, rfl⟩
theorem sK_X {S X : Pg} {W : Int → Bool} (h : XS S X) {v : Int} (v0 : 0 ≤ v) (hB : W v = true) : sK X W (v + 1).toNat = if S 0 v ≠ -2 then (va_up (va_up (sK X W v.toNat).1 v.toNat (stV S (sK X W v.toNat).1 (sK X W v.toNat).2.1 v)) (15 + v.toNat) (bfo (stN S (sK X W v.toNat).1 (sK X W v.toNat).2.1 v) (stD S (sK X W v.toNat).1 (sK X W v.toNat).2.1 v) (rnC S (S 5) v)), bnu (stN S (sK X W v.toNat).1 (sK X W v.toNat).2.1 v) (rnC S (S 5) v) v 3, maU (sK X W v.toNat).2.2 v (stM S (sK X W v.toNat).1 v)) else sK X W v.toNat := by
  rw [show (v + 1).toNat = v.toNat + 1 by omega]
  show (if X 0 (v.toNat : Int) ≠ -2 ∧ W (v.toNat : Int) = true then stF X (X 5) (v.toNat : Int) (sK X W v.toNat) else sK X W v.toNat) = _
  rw [Int.toNat_of_nonneg v0, h 0 (by decide) (by decide), h 5 (by decide) (by decide)]
  obtain ⟨s1, s2, s3, s4, s5⟩ := st_X h (sK X W v.toNat).1 (sK X W v.toNat).2.1 (S 5) v
  by_cases q : S 0 v = -2
  · rw [if_neg (fun z => z.1 q), if_neg (fun z => z q)]
  · rw [if_pos ⟨q, hB⟩, if_pos q]
    unfold stF
    rw [s1, s2, s3, s4, s5]
/-- inputs before a variable -/
def iX (S : Pg) (v : Int) : Nat := (v - cnS S v.toNat).toNat
theorem cnS_s {S : Pg} {v : Int} (v0 : 0 ≤ v) : cnS S (v + 1).toNat = if S 0 v ≠ -2 then cnS S v.toNat + 1 else cnS S v.toNat := by
  rw [show (v + 1).toNat = v.toNat + 1 by omega]
  show (if S 0 (v.toNat : Int) ≠ -2 then _ else _) = _
  rw [Int.toNat_of_nonneg v0]
theorem iX_n {S : Pg} {v : Int} (v0 : 0 ≤ v) (q : S 0 v ≠ -2) : iX S (v + 1) = iX S v := by
  unfold iX
  rw [cnS_s v0, if_pos q, show v + 1 - (cnS S v.toNat + 1) = v - cnS S v.toNat by omega]
theorem sI_X {S X : Pg} (h : XS S X) (hW : WF S) {v : Int} (v0 : 0 ≤ v) (v1 : v < S 11 0) (q : S 0 v = -2) : sI X (iX S (v + 1)) = inF (X 2) (X 3) v (sI X (iX S v)) := by
  obtain ⟨i1, i2, i3⟩ := in_at hW v0 v1 q
  have e : iX S (v + 1) = iX S v + 1 := by
    unfold iX
    rw [cnS_s v0, if_neg (fun z => z q)]; omega
  rw [e]
  show inF (X 2) (X 3) (X 10 (iX S v : Int)) (sI X (iX S v)) = _
  rw [h 10 (by decide) (by decide)]
  unfold iX at *
  rw [Int.toNat_of_nonneg i1, i3]
theorem fR_clr {A B : Int → Int} {row : Int} (e : B = rwA A row 81 (fun _ => 0)) (h : ∀ r, 0 ≤ r → r < row → fR A r fz) : ∀ r, 0 ≤ r → r < row + 1 → fR B r fz := by
  intro r r0 r1
  by_cases z : r = row
  · rw [e, z]; exact ⟨if_pos ⟨by omega, by omega⟩, fun i i0 i1 => if_pos ⟨by omega, by omega⟩⟩
  · obtain ⟨h0, h1⟩ := h r r0 (by omega)
    rw [e]
    exact ⟨(if_neg (by omega)).trans h0, fun i i0 i1 => (if_neg (by omega)).trans (h1 i i0 i1)⟩
set_option maxRecDepth 100000 in
set_option maxHeartbeats 4000000 in
theorem lp_X8_clr {E : Ev} {M : Mm} {N : Nn} {r : Int} (r0 : 0 ≤ r) (r1 : r < 50) : ∀ (n : Nat) (k : Int) (M2 : Mm), (k + n = 81) → (0 ≤ k) → (M2 (30, 0, 33) = rwA (M (30, 0, 33)) r k (fun _ => (0 : Int))) → (Kr [] [33] M M2) → Go E RX8 cX8_clears 3 (none) (rmH 2) 0 0 (zM E (qv (fun M1 N1 => M1 (30, 0, 33) = rwA (M (30, 0, 33)) r 81 (fun _ => (0 : Int)) ∧ Kr [] [33] M M1 ∧ N = N1))) 2 [vr (29, 0, 0), vi r, vi k] [] M2 N := by
  intro n
  induction n using Nat.strongRecOn with
  | ind n ih =>
  intro k M2 hn k0 hA hf
  refine go_iload_n dX8_clears_2 rfl ?_
  refine go_bipush dX8_clears_3 ⟨by decide, by decide⟩ ?_
  refine go_icmp_ge (tgt := 26) dX8_clears_5 rfl (fun h5 => ?_) (fun h5 => ?_)
  · refine go_retv dX8_clears_26 ?_
    rw [show k = 81 by omega] at hA
    exact ⟨hA, hf, rfl⟩
  · refine go_aload_n dX8_clears_8 rfl rfl ?_
    refine g8_65 dX8_clears_9 ?_
    refine go_iload_n dX8_clears_12 rfl ?_
    refine v8_358 dX8_clears_13 rfl ⟨rfl, rfl⟩ ⟨rfl, rfl⟩ (ct_X8_middle r0 (by omega)) (fun r1 M1 N1 hr1 hq1 => ?_)
    obtain ⟨z1, rfl, rfl⟩ := hq1
    subst z1
    refine go_iload_n dX8_clears_16 rfl ?_
    refine go_iaddc dX8_clears_17 ⟨by omega, by omega⟩ ?_
    refine go_lconst (x := 0) dX8_clears_18 rfl ?_
    refine go_last dX8_clears_19 rfl (by omega) (by omega) ?_
    refine go_iinc2c dX8_clears_20 rfl rfl ⟨by omega, by omega⟩ ?_
    refine go_goto (tgt := 2) dX8_clears_23 rfl ?_
    exact ih (n - 1) (by omega) (k + 1) _ (by omega) (by omega) (by rw [upI_wr, hA]; exact rwA_s (g := (fun _ => (0 : Int))) k0) (hf.wa (by decide))
set_option maxRecDepth 100000 in
set_option maxHeartbeats 4000000 in
theorem ct_X8_clr {E : Ev} {M : Mm} {N : Nn} {r : Int} (r0 : 0 ≤ r) (r1 : r < 50) : Ct E yX8_clears cX8_clears 3 (none) (rmH 2) [vr (29, 0, 0), vi r] M N (qv (fun M1 N1 => M1 (30, 0, 33) = rwA (M (30, 0, 33)) r 81 (fun _ => (0 : Int)) ∧ Kr [] [33] M M1 ∧ N = N1)) := by
  refine ct_of (own := RX8) (L0 := [vr (29, 0, 0), vi r, vn]) rfl (by decide +kernel) rfl rfl ?_
  refine go_iconst dX8_clears_0 (R32_lit rfl) ?_
  refine go_ist2 dX8_clears_1 rfl rfl ?_
  exact lp_X8_clr r0 r1 81 0 M (by omega) (by omega) rwA_0.symm Kr.rf
set_option maxRecDepth 100000 in
set_option maxHeartbeats 4000000 in
theorem lf_steps {E : Ev} {M : Mm} {N : Nn} {S X : Pg} {W : Int → Bool} {M0 : Mm} (hQ : QR S M) (hW : WF S) (hX : XS S X) (hl : ∀ v, 0 ≤ v → v < S 11 0 → S 0 v = -2 → M (30, 0, 38) v = X 2 v ∧ M (30, 0, 39) v = X 3 v ∧ -1000 ≤ X 2 v ∧ X 2 v ≤ X 3 v ∧ X 3 v ≤ 1000) (hB : ∀ v, 0 ≤ v → v < S 11 0 → W v = true) (hNE : ∀ v : Nat, (v : Int) < S 11 0 → NEq S (sK X W v).1 v) (hR : ∀ v, 0 ≤ v → v < S 11 0 → S 0 v ≠ -2 → M (30, 0, 29) v = rfS S (S 5) v) (f0 : Kr [] [28, 29] M0 M) : ∀ (n : Nat) (v : Int) (ψ : Int → FV) (M2 : Mm) (x2 x3 : Vv), (v + n = S 11 0) → (0 ≤ v) → (FQ M2 ψ (sK X W v.toNat).2.1) → (∀ j : Nat, j < 30 → ψ (j : Int) = (sK X W v.toNat).1 j) → (∀ j, 0 ≤ j → j < v → S 0 j = 3 → M2 (30, 0, 40) j = (sK X W v.toNat).2.2 j) → (Kr [34, 37, 42] [33, 35, 36, 40, 41] M M2) → Go E RX8 cX8_laysFormsBy 4 (none) (rmH 7) 0 0 (zM E (qv (fun M1 N1 => ∃ ψ, FQ M1 ψ (sK X W (S 11 0).toNat).2.1 ∧ (∀ j : Nat, j < 30 → ψ (j : Int) = (sK X W (S 11 0).toNat).1 j) ∧ (∀ v, 0 ≤ v → v < S 11 0 → S 0 v = 3 → M1 (30, 0, 40) v = (sK X W (S 11 0).toNat).2.2 v) ∧ Kr [34, 37, 42] [28, 29, 33, 35, 36, 40, 41] M0 M1 ∧ N = N1))) 109 [vr (29, 0, 0), vi v, x2, x3] [] M2 N := by
  intro n
  induction n using Nat.strongRecOn with
  | ind n ih =>
  intro v ψ M2 x2 x3 hn v0 hF hE hm hf
  have c6 := hQ.1
  have c5 := hQ.2.2.1
  have c0 := hQ.2.1
  refine go_iload_n dX8_laysFormsBy_109 rfl ?_
  refine go_aload_n dX8_laysFormsBy_110 rfl rfl ?_
  refine g8_259 dX8_laysFormsBy_111 ?_
  rw [hf.s 6 (by decide), c6]
  refine go_icmp_ge (tgt := 140) dX8_laysFormsBy_114 rfl (fun h114 => ?_) (fun h114 => ?_)
  · refine go_retv dX8_laysFormsBy_140 ?_
    have ev : v = S 11 0 := by omega
    rw [ev] at hF hE hm
    exact ⟨ψ, hF, hE, hm, (f0.up (by decide) (by decide)).tr (hf.up (by decide) (by decide)), rfl⟩
  · have c7 : v < S 11 0 := by omega
    have es := sK_X hX v0 (hB v v0 c7)
    refine go_aload_n dX8_laysFormsBy_117 rfl rfl ?_
    refine g8_19 dX8_laysFormsBy_118 ?_
    refine go_iload_n dX8_laysFormsBy_121 rfl ?_
    refine go_iald dX8_laysFormsBy_122 rfl (by omega) (by omega) ?_
    rw [hf.a 7 (by decide), hQ.srt v0 c7]
    refine v8_248 dX8_laysFormsBy_123 rfl ⟨rfl, rfl⟩ ⟨rfl, rfl⟩ ct_X8_isInput (fun r1 M3 N3 hr1 hq1 => ?_)
    obtain ⟨z1, rfl, rfl⟩ := hq1
    have z1 := bit_iff z1
    refine go_if_ne (tgt := 134) dX8_laysFormsBy_126 rfl (fun h126 => ?_) (fun h126 => ?_)
    · refine go_iinc1c dX8_laysFormsBy_134 rfl rfl ⟨by omega, by omega⟩ ?_
      refine go_goto (tgt := 109) dX8_laysFormsBy_137 rfl ?_
      first
      | (rw [if_neg (show ¬ (S 0 v ≠ -2) by omega)] at es
         exact ih (n - 1) (by omega) (v + 1) ψ _ _ _ (by omega) (by omega) (by rw [es]; exact hF) (by rw [es]; exact hE) (fun j j0 j1 j2 => by
           rw [es]
           exact hm j j0 (by by_cases z : j = v; (rw [z] at j2; omega); omega) j2) hf)
      | (obtain ⟨ψ1, k1, k2, k3, k4, ⟨k5, k6⟩, k7, rfl⟩ := hq2
         rw [sc.2.2.1] at k1 k3
         rw [sc.1] at k2
         rw [sc.2.1] at k3
         rw [sc.2.2.2] at k5
         refine ih (n - 1) (by omega) (v + 1) ψ1 _ _ _ (by omega) (by omega) (by rw [es]; exact k1) ?_ ?_ (hf.tr k7)
         · intro j hj
           rw [es]
           by_cases y : j = 15 + v.toNat
           · rw [y, show ((15 + v.toNat : Nat) : Int) = 15 + v by omega, k3]; exact up_eq.symm
           · by_cases z : j = v.toNat
             · rw [z, Int.toNat_of_nonneg v0, k2]; exact ((up_ne (by omega)).trans up_eq).symm
             · rw [k4 j (by omega) (by omega) (by omega) (by omega), hE j hj]; exact ((up_ne y).trans (up_ne z)).symm
         · intro j j0 j1 j2
           rw [es]
           show _ = if j = v then _ else _
           by_cases z : j = v
           · rw [if_pos z, z]; rw [z] at j2; exact k5 j2
           · rw [if_neg z, k6 j z]; exact hm j j0 (by omega) j2)
    · have hs : S 0 v ≠ -2 := by omega
      rw [if_pos hs] at es
      have Q2 : QR S M2 := hQ.k hf (by decide) (by decide) (by decide) (by decide) (by decide) (by decide) (by decide) (by decide)
      have wr := (hW.2.2.2.2.2.2.1 v v0 c7).1
      have nu : (sK X W v.toNat).2.1.1 + 5 ≤ 63 := by
        have a := (sK_nu X W v.toNat).1
        have c := sI_nu X (X 12 0).toNat
        have d := cnS_cg (c := S 11 0) (S := S) (S' := X) (fun u _ _ => by rw [hX 0 (by decide) (by decide)]) v.toNat (by omega)
        have e := cnS_le S (v + 1).toNat (S 11 0).toNat (by omega)
        rw [cnS_s v0, if_pos hs] at e
        rw [hX 12 (by decide) (by decide)] at a c
        have g1 := hW.2.2.1
        have g2 := hW.2.2.2.1
        have g3 := hW.2.2.2.2.1
        have g4 := hW.2.2.2.2.2.1
        omega
      have op : Op S v (tN ψ) (sK X W v.toNat).1 := by
        intro k k0 k1 q
        have := (((wr.2 hs).2.2.2.2 k k0 k1).1 q)
        refine ⟨hE _ (by omega), ?_⟩
        exact hE _ (by omega)
      have h8 : M2 (30, 0, 8) v = S 4 v := by
        have := (Q2.2.2.2.2 v v0 c7).2.1
        rw [Int.zero_add] at this; exact this
      have ne : NEp S ψ v := by
        have := hNE v.toNat (by omega)
        rw [Int.toNat_of_nonneg v0] at this
        exact NEq_op op this
      have rf := (rfS_bd (hW.ok v0 c7 hs)).1
      have sc := st_congr (ν := (sK X W v.toNat).2.1) op
      refine go_aload_n dX8_laysFormsBy_129 rfl rfl ?_
      refine go_iload_n dX8_laysFormsBy_130 rfl ?_
      refine v8_422 dX8_laysFormsBy_131 rfl ⟨rfl, rfl⟩ ⟨rfl, rfl⟩ (ct_X8_laysStep hF Q2.2.2.2.2 v0 c7 c5 hs wr nu (by rw [hf.a 29 (by decide)]; exact hR v v0 c7 hs) h8 rf ne) (fun M4 N4 hq2 => ?_)
      refine go_iinc1c dX8_laysFormsBy_134 rfl rfl ⟨by omega, by omega⟩ ?_
      refine go_goto (tgt := 109) dX8_laysFormsBy_137 rfl ?_
      first
      | (rw [if_neg (show ¬ (S 0 v ≠ -2) by omega)] at es
         exact ih (n - 1) (by omega) (v + 1) ψ _ _ _ (by omega) (by omega) (by rw [es]; exact hF) (by rw [es]; exact hE) (fun j j0 j1 j2 => by
           rw [es]
           exact hm j j0 (by by_cases z : j = v; (rw [z] at j2; omega); omega) j2) hf)
      | (obtain ⟨ψ1, k1, k2, k3, k4, ⟨k5, k6⟩, k7, rfl⟩ := hq2
         rw [sc.2.2.1] at k1 k3
         rw [sc.1] at k2
         rw [sc.2.1] at k3
         rw [sc.2.2.2] at k5
         refine ih (n - 1) (by omega) (v + 1) ψ1 _ _ _ (by omega) (by omega) (by rw [es]; exact k1) ?_ ?_ (hf.tr k7)
         · intro j hj
           rw [es]
           by_cases y : j = 15 + v.toNat
           · rw [y, show ((15 + v.toNat : Nat) : Int) = 15 + v by omega, k3]; exact up_eq.symm
           · by_cases z : j = v.toNat
             · rw [z, Int.toNat_of_nonneg v0, k2]; exact ((up_ne (by omega)).trans up_eq).symm
             · rw [k4 j (by omega) (by omega) (by omega) (by omega), hE j hj]; exact ((up_ne y).trans (up_ne z)).symm
         · intro j j0 j1 j2
           rw [es]
           show _ = if j = v then _ else _
           by_cases z : j = v
           · rw [if_pos z, z]; rw [z] at j2; exact k5 j2
           · rw [if_neg z, k6 j z]; exact hm j j0 (by omega) j2)
set_option maxRecDepth 100000 in
set_option maxHeartbeats 4000000 in
theorem lf_inputs {E : Ev} {M : Mm} {N : Nn} {S X : Pg} {W : Int → Bool} {M0 : Mm} (hQ : QR S M) (hW : WF S) (hX : XS S X) (hl : ∀ v, 0 ≤ v → v < S 11 0 → S 0 v = -2 → M (30, 0, 38) v = X 2 v ∧ M (30, 0, 39) v = X 3 v ∧ -1000 ≤ X 2 v ∧ X 2 v ≤ X 3 v ∧ X 3 v ≤ 1000) (hB : ∀ v, 0 ≤ v → v < S 11 0 → W v = true) (hNE : ∀ v : Nat, (v : Int) < S 11 0 → NEq S (sK X W v).1 v) (hR : ∀ v, 0 ≤ v → v < S 11 0 → S 0 v ≠ -2 → M (30, 0, 29) v = rfS S (S 5) v) (f0 : Kr [] [28, 29] M0 M) : ∀ (n : Nat) (v : Int) (ψ : Int → FV) (M2 : Mm) (x2 x3 : Vv), (v + n = S 11 0) → (0 ≤ v) → (FQ M2 ψ (sI X (iX S v)).2.1) → (∀ j : Nat, j < 30 → ψ (j : Int) = (sI X (iX S v)).1 j) → (∀ j, v ≤ j → j < 15 → ψ j = fz) → (∀ j, 15 ≤ j → j < 30 → ψ j = fz) → (Kr [34, 37, 42] [33, 35, 36, 40, 41] M M2) → Go E RX8 cX8_laysFormsBy 4 (none) (rmH 7) 0 0 (zM E (qv (fun M1 N1 => ∃ ψ, FQ M1 ψ (sK X W (S 11 0).toNat).2.1 ∧ (∀ j : Nat, j < 30 → ψ (j : Int) = (sK X W (S 11 0).toNat).1 j) ∧ (∀ v, 0 ≤ v → v < S 11 0 → S 0 v = 3 → M1 (30, 0, 40) v = (sK X W (S 11 0).toNat).2.2 v) ∧ Kr [34, 37, 42] [28, 29, 33, 35, 36, 40, 41] M0 M1 ∧ N = N1))) 30 [vr (29, 0, 0), vi v, x2, x3] [] M2 N := by
  intro n
  induction n using Nat.strongRecOn with
  | ind n ih =>
  intro v ψ M2 x2 x3 hn v0 hF hE hz hz2 hf
  have c6 := hQ.1
  have c5 := hQ.2.2.1
  have c0 := hQ.2.1
  refine go_iload_n dX8_laysFormsBy_30 rfl ?_
  refine go_aload_n dX8_laysFormsBy_31 rfl rfl ?_
  refine g8_259 dX8_laysFormsBy_32 ?_
  rw [hf.s 6 (by decide), c6]
  refine go_icmp_ge (tgt := 107) dX8_laysFormsBy_35 rfl (fun h35 => ?_) (fun h35 => ?_)
  · refine go_iconst dX8_laysFormsBy_107 (R32_lit rfl) ?_
    refine go_ist1 dX8_laysFormsBy_108 rfl rfl ?_
    have ev : v = S 11 0 := by omega
    have ei : iX S v = (X 12 0).toNat := by
      have := hW.2.2.2.2.1
      unfold iX
      rw [ev, this, hX 12 (by decide) (by decide)]; omega
    rw [ei] at hF hE
    exact lf_steps hQ hW hX hl hB hNE hR f0 (S 11 0).toNat 0 ψ M2 _ _ (by omega) (by omega) hF hE (fun j j0 j1 => absurd j1 (by omega)) hf
  · have c7 : v < S 11 0 := by omega
    refine go_aload_n dX8_laysFormsBy_38 rfl rfl ?_
    refine g8_19 dX8_laysFormsBy_39 ?_
    refine go_iload_n dX8_laysFormsBy_42 rfl ?_
    refine go_iald dX8_laysFormsBy_43 rfl (by omega) (by omega) ?_
    rw [hf.a 7 (by decide), hQ.srt v0 c7]
    refine v8_248 dX8_laysFormsBy_44 rfl ⟨rfl, rfl⟩ ⟨rfl, rfl⟩ ct_X8_isInput (fun r1 M3 N3 hr1 hq1 => ?_)
    obtain ⟨z1, rfl, rfl⟩ := hq1
    have z1 := bit_iff z1
    refine go_if_eq (tgt := 101) dX8_laysFormsBy_47 rfl (fun h47 => ?_) (fun h47 => ?_)
    · refine go_iinc1c dX8_laysFormsBy_101 rfl rfl ⟨by omega, by omega⟩ ?_
      refine go_goto (tgt := 30) dX8_laysFormsBy_104 rfl ?_
      first
      | (have hs : S 0 v ≠ -2 := by omega
         have ei := iX_n v0 hs
         exact ih (n - 1) (by omega) (v + 1) ψ _ _ _ (by omega) (by omega) (by rw [ei]; exact hF) (by rw [ei]; exact hE) (fun j j0 j1 => hz j (by omega) j1) hz2 hf)
      | (obtain ⟨k1, k2, rfl⟩ := hq3
         rw [upF_eq, upF_up, fc.s 37 (by decide), la] at k1
         refine ih (n - 1) (by omega) (v + 1) _ _ _ _ (by omega) (by omega) (by rw [es]; exact k1) ?_ ?_ ?_ ((hf.tr fa).tr ((fc.up (by decide) (by decide)).tr (k2.up (by decide) (by decide))))
         · intro j hj
           rw [es]
           unfold inF
           by_cases y1 : j = 15 + v.toNat
           · rw [upF_ne (by omega), y1, hz2 _ (by omega) (by omega)]; exact up_eq.symm
           · by_cases z : j = v.toNat
             · rw [z, Int.toNat_of_nonneg v0, upF_eq, ey]; exact ((up_ne (by omega)).trans up_eq).symm
             · rw [upF_ne (by omega), hE j hj]; exact ((up_ne y1).trans (up_ne z)).symm
         · intro j j0 j1
           rw [upF_ne (by omega)]; exact hz j (by omega) j1
         · intro j j0 j1
           rw [upF_ne (by omega)]; exact hz2 j j0 j1)
    · have hin : S 0 v = -2 := by omega
      obtain ⟨l1, l2, l3, l4, l5⟩ := hl v v0 c7 hin
      have es := sI_X hX hW v0 c7 hin
      have nu : (sI X (iX S v)).2.1.1 < 63 := by
        rw [sI_nu]
        have a := in_at hW v0 c7 hin
        have c := hW.2.2.2.1
        unfold iX
        omega
      refine go_aload_n dX8_laysFormsBy_50 rfl rfl ?_
      refine go_iload_n dX8_laysFormsBy_51 rfl ?_
      refine p8_365 dX8_laysFormsBy_52 ?_
      refine go_nmM (fun Ma eMa => ?_)
      have fa : Kr [34, 37, 42] [33, 35, 36, 40, 41] M2 Ma := by rw [eMa]; exact Kr.rf.ws (by decide)
      have fb : Kr [37] [] M2 Ma := by rw [eMa]; exact Kr.rf.ws (by decide)
      have la : Ma (29, 0, 0) 37 = v := by rw [eMa, wr_eq]
      clear eMa
      have Fa := hF.k fb (by decide) (by decide) (by decide) (by decide)
      refine go_aload_n dX8_laysFormsBy_55 rfl rfl ?_
      refine g8_77 dX8_laysFormsBy_56 ?_
      refine go_iload_n dX8_laysFormsBy_59 rfl ?_
      refine go_iald dX8_laysFormsBy_60 rfl (by omega) (by omega) ?_
      rw [fa.a 39 (by decide), hf.a 39 (by decide), l2]
      refine go_aload_n dX8_laysFormsBy_61 rfl rfl ?_
      refine g8_74 dX8_laysFormsBy_62 ?_
      refine go_iload_n dX8_laysFormsBy_65 rfl ?_
      refine go_iald dX8_laysFormsBy_66 rfl (by omega) (by omega) ?_
      rw [fa.a 38 (by decide), hf.a 38 (by decide), l1]
      have hd : (X 3 v - X 2 v).tdiv 2 = (X 3 v - X 2 v) / 2 := Int.tdiv_eq_ediv_of_nonneg (by omega)
      have hd0 : 0 ≤ (X 3 v - X 2 v) / 2 ∧ (X 3 v - X 2 v) / 2 ≤ 1000 := by omega
      refine go_isubc dX8_laysFormsBy_67 ⟨by omega, by omega⟩ ?_
      refine go_iconst dX8_laysFormsBy_68 (R32_lit rfl) ?_
      refine go_idivc dX8_laysFormsBy_69 (by decide) ⟨by rw [hd]; omega, by rw [hd]; omega⟩ ?_
      refine go_nmi (fun y ey => ?_)
      have hy : 0 ≤ y ∧ y ≤ 1000 := by rw [ey, hd]; exact hd0
      clear hd hd0
      refine go_i2l dX8_laysFormsBy_70 ?_
      refine go_lst2 dX8_laysFormsBy_71 rfl rfl ?_
      refine go_aload_n dX8_laysFormsBy_72 rfl rfl ?_
      refine g8_65 dX8_laysFormsBy_73 ?_
      refine go_iconst dX8_laysFormsBy_76 (R32_lit rfl) ?_
      refine go_iload_n dX8_laysFormsBy_77 rfl ?_
      refine go_iaddc dX8_laysFormsBy_78 ⟨by omega, by omega⟩ ?_
      rw [Int.zero_add]
      refine v8_358 dX8_laysFormsBy_79 rfl ⟨rfl, rfl⟩ ⟨rfl, rfl⟩ (ct_X8_middle v0 (by omega)) (fun r2 M4 N4 hr2 hq2 => ?_)
      obtain ⟨z2, rfl, rfl⟩ := hq2
      subst z2
      refine go_aload_n dX8_laysFormsBy_82 rfl rfl ?_
      refine g8_74 dX8_laysFormsBy_83 ?_
      refine go_iload_n dX8_laysFormsBy_86 rfl ?_
      refine go_iald dX8_laysFormsBy_87 rfl (by omega) (by omega) ?_
      rw [fa.a 38 (by decide), hf.a 38 (by decide), l1]
      refine go_i2l dX8_laysFormsBy_88 ?_
      refine go_lload_n dX8_laysFormsBy_89 rfl ?_
      refine go_laddc dX8_laysFormsBy_90 ⟨by omega, by omega⟩ ?_
      refine go_last dX8_laysFormsBy_91 rfl (by omega) (by omega) ?_
      refine go_nmM (fun Mb eMb => ?_)
      have fc : Kr [] [33] Ma Mb := by rw [eMb]; exact Kr.rf.wa (by decide)
      have ec : Mb (30, 0, 33) = upI (Ma (30, 0, 33)) (81 * v) (X 2 v + y) := by rw [eMb]; exact upI_wr
      clear eMb
      have Fc : FQ Mb (upF ψ v (X 2 v + y, (ψ v).2)) (sI X (iX S v)).2.1 := ⟨FM_mid Fa.1 ec, Fa.2.1.k fc (by decide) (by decide) (by decide), Zn_up Fa.2.2 (fun i hi => hF.2.2 v v0 (by omega) i hi)⟩
      rw [hz v (by omega) (by omega)] at Fc
      have Fc : FQ Mb (upF ψ v (fnum (X 2 v + y))) (sI X (iX S v)).2.1 := Fc
      refine go_aload_n dX8_laysFormsBy_92 rfl rfl ?_
      refine go_iconst dX8_laysFormsBy_93 (R32_lit rfl) ?_
      refine go_iload_n dX8_laysFormsBy_94 rfl ?_
      refine go_iaddc dX8_laysFormsBy_95 ⟨by omega, by omega⟩ ?_
      rw [Int.zero_add]
      refine go_lload_n dX8_laysFormsBy_96 rfl ?_
      refine go_iconst dX8_laysFormsBy_97 (R32_lit rfl) ?_
      refine v8_368 dX8_laysFormsBy_98 rfl ⟨rfl, rfl⟩ ⟨rfl, rfl⟩ (ct_X8_brings Fc v0 (by omega) nu) (fun M5 N5 hq3 => ?_)
      refine go_iinc1c dX8_laysFormsBy_101 rfl rfl ⟨by omega, by omega⟩ ?_
      refine go_goto (tgt := 30) dX8_laysFormsBy_104 rfl ?_
      first
      | (have hs : S 0 v ≠ -2 := by omega
         have ei := iX_n v0 hs
         exact ih (n - 1) (by omega) (v + 1) ψ _ _ _ (by omega) (by omega) (by rw [ei]; exact hF) (by rw [ei]; exact hE) (fun j j0 j1 => hz j (by omega) j1) hz2 hf)
      | (obtain ⟨k1, k2, rfl⟩ := hq3
         rw [upF_eq, upF_up, fc.s 37 (by decide), la] at k1
         refine ih (n - 1) (by omega) (v + 1) _ _ _ _ (by omega) (by omega) (by rw [es]; exact k1) ?_ ?_ ?_ ((hf.tr fa).tr ((fc.up (by decide) (by decide)).tr (k2.up (by decide) (by decide))))
         · intro j hj
           rw [es]
           unfold inF
           by_cases y1 : j = 15 + v.toNat
           · rw [upF_ne (by omega), y1, hz2 _ (by omega) (by omega)]; exact up_eq.symm
           · by_cases z : j = v.toNat
             · rw [z, Int.toNat_of_nonneg v0, upF_eq, ey]; exact ((up_ne (by omega)).trans up_eq).symm
             · rw [upF_ne (by omega), hE j hj]; exact ((up_ne y1).trans (up_ne z)).symm
         · intro j j0 j1
           rw [upF_ne (by omega)]; exact hz j (by omega) j1
         · intro j j0 j1
           rw [upF_ne (by omega)]; exact hz2 j j0 j1)
set_option maxRecDepth 100000 in
set_option maxHeartbeats 4000000 in
theorem lf_rows {E : Ev} {M : Mm} {N : Nn} {S X : Pg} {W : Int → Bool} {M0 : Mm} (hQ : QR S M) (hW : WF S) (hX : XS S X) (hl : ∀ v, 0 ≤ v → v < S 11 0 → S 0 v = -2 → M (30, 0, 38) v = X 2 v ∧ M (30, 0, 39) v = X 3 v ∧ -1000 ≤ X 2 v ∧ X 2 v ≤ X 3 v ∧ X 3 v ≤ 1000) (hB : ∀ v, 0 ≤ v → v < S 11 0 → W v = true) (hNE : ∀ v : Nat, (v : Int) < S 11 0 → NEq S (sK X W v).1 v) (hR : ∀ v, 0 ≤ v → v < S 11 0 → S 0 v ≠ -2 → M (30, 0, 29) v = rfS S (S 5) v) (f0 : Kr [] [28, 29] M0 M) : ∀ (n : Nat) (r : Int) (M2 : Mm), (r + n = 50) → (0 ≤ r) → (∀ q, 0 ≤ q → q < r → fR (M2 (30, 0, 33)) q fz) → (Kr [34, 37, 42] [33, 35, 36, 40, 41] M M2) → (M2 (29, 0, 0) 34 = 0) → Go E RX8 cX8_laysFormsBy 4 (none) (rmH 7) 0 0 (zM E (qv (fun M1 N1 => ∃ ψ, FQ M1 ψ (sK X W (S 11 0).toNat).2.1 ∧ (∀ j : Nat, j < 30 → ψ (j : Int) = (sK X W (S 11 0).toNat).1 j) ∧ (∀ v, 0 ≤ v → v < S 11 0 → S 0 v = 3 → M1 (30, 0, 40) v = (sK X W (S 11 0).toNat).2.2 v) ∧ Kr [34, 37, 42] [28, 29, 33, 35, 36, 40, 41] M0 M1 ∧ N = N1))) 11 [vr (29, 0, 0), vi r, vn, vn] [] M2 N := by
  intro n
  induction n using Nat.strongRecOn with
  | ind n ih =>
  intro r M2 hn r0 hz hf h34
  refine go_iload_n dX8_laysFormsBy_11 rfl ?_
  refine go_bipush dX8_laysFormsBy_12 ⟨by decide, by decide⟩ ?_
  refine go_icmp_ge (tgt := 28) dX8_laysFormsBy_14 rfl (fun h14 => ?_) (fun h14 => ?_)
  · refine go_iconst dX8_laysFormsBy_28 (R32_lit rfl) ?_
    refine go_ist1 dX8_laysFormsBy_29 rfl rfl ?_
    have er : r = 50 := by omega
    rw [er] at hz
    have c0 := hQ.2.1
    have ei : iX S 0 = 0 := rfl
    have FF : FQ M2 (fun _ => fz) nu0 := ⟨fun r r0 r1 => hz r r0 r1, ⟨h34, Int.le_refl 0, by decide, fun i i0 i1 => absurd i1 (by show ¬ i < (0 : Int); omega)⟩, fun _ _ _ => Zn_fz⟩
    exact lf_inputs hQ hW hX hl hB hNE hR f0 (S 11 0).toNat 0 _ M2 _ _ (by omega) (by omega) (by rw [ei]; exact FF) (fun j hj => by rw [ei]; rfl) (fun _ _ _ => rfl) (fun _ _ _ => rfl) hf
  · refine go_aload_n dX8_laysFormsBy_17 rfl rfl ?_
    refine go_iload_n dX8_laysFormsBy_18 rfl ?_
    refine v8_385 dX8_laysFormsBy_19 rfl ⟨rfl, rfl⟩ ⟨rfl, rfl⟩ (ct_X8_clr r0 (by omega)) (fun M3 N3 hq1 => ?_)
    refine go_iinc1c dX8_laysFormsBy_22 rfl rfl ⟨by omega, by omega⟩ ?_
    refine go_goto (tgt := 11) dX8_laysFormsBy_25 rfl ?_
    obtain ⟨k1, k2, rfl⟩ := hq1
    exact ih (n - 1) (by omega) (r + 1) _ (by omega) (by omega) (fR_clr k1 hz) (hf.tr (k2.up (by decide) (by decide))) (by rw [k2.s 34 (by decide)]; exact h34)
set_option maxRecDepth 100000 in
set_option maxHeartbeats 4000000 in
theorem ct_X8_laysFormsBy {E : Ev} {M : Mm} {N : Nn} {S X : Pg} {W : Int → Bool} (hQ : QR S M) (hW : WF S) (hX : XS S X) (hl : ∀ v, 0 ≤ v → v < S 11 0 → S 0 v = -2 → M (30, 0, 38) v = X 2 v ∧ M (30, 0, 39) v = X 3 v ∧ -1000 ≤ X 2 v ∧ X 2 v ≤ X 3 v ∧ X 3 v ≤ 1000) (hB : ∀ v, 0 ≤ v → v < S 11 0 → W v = true) (hNE : ∀ v : Nat, (v : Int) < S 11 0 → NEq S (sK X W v).1 v) : Ct E yX8_laysFormsBy cX8_laysFormsBy 4 (none) (rmH 7) [vr (29, 0, 0)] M N (qv (fun M1 N1 => ∃ ψ, FQ M1 ψ (sK X W (S 11 0).toNat).2.1 ∧ (∀ j : Nat, j < 30 → ψ (j : Int) = (sK X W (S 11 0).toNat).1 j) ∧ (∀ v, 0 ≤ v → v < S 11 0 → S 0 v = 3 → M1 (30, 0, 40) v = (sK X W (S 11 0).toNat).2.2 v) ∧ Kr [34, 37, 42] [28, 29, 33, 35, 36, 40, 41] M M1 ∧ N = N1)) := by
  refine ct_of (own := RX8) (L0 := [vr (29, 0, 0), vn, vn, vn]) rfl (by decide +kernel) rfl rfl ?_
  refine go_aload_n dX8_laysFormsBy_0 rfl rfl ?_
  refine v8_313 dX8_laysFormsBy_1 rfl ⟨rfl, rfl⟩ ⟨rfl, rfl⟩ (ct_X8_laysFine hQ (fun u u0 u1 => ⟨(hW.2.2.2.2.2.2.1 u u0 u1).1, (hW.2.2.2.2.2.2.1 u u0 u1).2.1⟩) (fun u u0 u1 => hW.f5 u0 u1)) (fun M1 N1 hq1 => ?_)
  obtain ⟨g1, g2, rfl⟩ := hq1
  have Q1 : QR S M1 := hQ.k g2 (by decide) (by decide) (by decide) (by decide) (by decide) (by decide) (by decide) (by decide)
  refine go_aload_n dX8_laysFormsBy_4 rfl rfl ?_
  refine go_iconst dX8_laysFormsBy_5 (R32_lit rfl) ?_
  refine p8_302 dX8_laysFormsBy_6 ?_
  refine go_iconst dX8_laysFormsBy_9 (R32_lit rfl) ?_
  refine go_ist1 dX8_laysFormsBy_10 rfl rfl ?_
  exact lf_rows Q1 hW hX (by rw [g2.a 38 (by decide), g2.a 39 (by decide)]; exact hl) hB hNE (fun v v0 v1 q => (g1 v v0 v1).2 q) g2 50 0 _ (by omega) (by omega) (fun q q0 q1 => absurd q1 (by omega)) (Kr.rf.ws (by decide)) (wr_eq _ _ _ _)
set_option maxRecDepth 100000 in
set_option maxHeartbeats 4000000 in
theorem lp_X8_laysForms {E : Ev} {M : Mm} {N : Nn} {S : Pg} {W : Int → Bool} (hQ : QR S M) (hW : WF S) (hB : ∀ v, 0 ≤ v → v < S 11 0 → W v = true) (hNE : ∀ v : Nat, (v : Int) < S 11 0 → NEq S (sK S W v).1 v) : ∀ (n : Nat) (v : Int) (M2 : Mm), (v + n = S 11 0) → (0 ≤ v) → (∀ j, 0 ≤ j → j < v → M2 (30, 0, 38) j = M (30, 0, 9) j ∧ M2 (30, 0, 39) j = M (30, 0, 10) j) → (Kr [] [38, 39] M M2) → Go E RX8 cX8_laysForms 2 (none) (rmH 8) 0 0 (zM E (qv (fun M1 N1 => ∃ ψ, FQ M1 ψ (sK S W (S 11 0).toNat).2.1 ∧ (∀ j : Nat, j < 30 → ψ (j : Int) = (sK S W (S 11 0).toNat).1 j) ∧ (∀ v, 0 ≤ v → v < S 11 0 → S 0 v = 3 → M1 (30, 0, 40) v = (sK S W (S 11 0).toNat).2.2 v) ∧ Kr [34, 37, 42] [28, 29, 33, 35, 36, 38, 39, 40, 41] M M1 ∧ N = N1))) 2 [vr (29, 0, 0), vi v] [] M2 N := by
  intro n
  induction n using Nat.strongRecOn with
  | ind n ih =>
  intro v M2 hn v0 hA hf
  have c6 := hQ.1
  have c5 := hQ.2.2.1
  have c0 := hQ.2.1
  refine go_iload_n dX8_laysForms_2 rfl ?_
  refine go_aload_n dX8_laysForms_3 rfl rfl ?_
  refine g8_259 dX8_laysForms_4 ?_
  rw [hf.s 6 (by decide), c6]
  refine go_icmp_ge (tgt := 40) dX8_laysForms_7 rfl (fun h7 => ?_) (fun h7 => ?_)
  · refine go_aload_n dX8_laysForms_40 rfl rfl ?_
    have Q2 : QR S M2 := hQ.k hf (by decide) (by decide) (by decide) (by decide) (by decide) (by decide) (by decide) (by decide)
    have hl : ∀ v, 0 ≤ v → v < S 11 0 → S 0 v = -2 → M2 (30, 0, 38) v = S 2 v ∧ M2 (30, 0, 39) v = S 3 v ∧ -1000 ≤ S 2 v ∧ S 2 v ≤ S 3 v ∧ S 3 v ≤ 1000 := by
      intro u u0 u1 q
      have a := (hQ.2.2.2.2 u u0 u1).2.2.1 q
      rw [Int.zero_add] at a
      have e := hA u u0 (by omega)
      have w := (hW.2.2.2.2.2.2.1 u u0 u1).1.1 q
      exact ⟨e.1.trans a.1, e.2.trans a.2, w.1, w.2.1, w.2.2⟩
    refine v8_425 dX8_laysForms_41 rfl ⟨rfl, rfl⟩ ⟨rfl, rfl⟩ (ct_X8_laysFormsBy (X := S) Q2 hW (fun _ _ _ => rfl) hl hB hNE) (fun M3 N3 hq1 => ?_)
    refine go_retv dX8_laysForms_44 ?_
    obtain ⟨ψ, k1, k2, k3, k4, rfl⟩ := hq1
    exact ⟨ψ, k1, k2, k3, (hf.up (by decide) (by decide)).tr (k4.up (by decide) (by decide)), rfl⟩
  · refine go_aload_n dX8_laysForms_10 rfl rfl ?_
    refine g8_74 dX8_laysForms_11 ?_
    refine go_iload_n dX8_laysForms_14 rfl ?_
    refine go_aload_n dX8_laysForms_15 rfl rfl ?_
    refine g8_25 dX8_laysForms_16 ?_
    refine go_iload_n dX8_laysForms_19 rfl ?_
    refine go_iald dX8_laysForms_20 rfl (by omega) (by omega) ?_
    rw [hf.a 9 (by decide)]
    refine go_iast dX8_laysForms_21 rfl (by omega) (by omega) ?_
    refine go_aload_n dX8_laysForms_22 rfl rfl ?_
    refine g8_77 dX8_laysForms_23 ?_
    refine go_iload_n dX8_laysForms_26 rfl ?_
    refine go_aload_n dX8_laysForms_27 rfl rfl ?_
    refine g8_28 dX8_laysForms_28 ?_
    refine go_iload_n dX8_laysForms_31 rfl ?_
    refine go_iald dX8_laysForms_32 rfl (by omega) (by omega) ?_
    rw [(hf.wa (f := 38) (by decide)).a 10 (by decide)]
    refine go_iast dX8_laysForms_33 rfl (by omega) (by omega) ?_
    refine go_iinc1c dX8_laysForms_34 rfl rfl ⟨by omega, by omega⟩ ?_
    refine go_goto (tgt := 2) dX8_laysForms_37 rfl ?_
    refine ih (n - 1) (by omega) (v + 1) _ (by omega) (by omega) ?_ ((hf.wa (by decide)).wa (by decide))
    intro j j0 j1
    have e := hA j j0
    by_cases z : j = v
    · rw [z]
      exact ⟨by rw [wr_nn (nm_ne3 (by decide)), wr_eq], by rw [wr_eq]⟩
    · exact ⟨by rw [wr_nn (nm_ne3 (by decide)), wr_nk z]; exact (e (by omega)).1, by rw [wr_nk z, wr_nn (nm_ne3 (by decide))]; exact (e (by omega)).2⟩
set_option maxRecDepth 100000 in
set_option maxHeartbeats 4000000 in
theorem ct_X8_laysForms {E : Ev} {M : Mm} {N : Nn} {S : Pg} {W : Int → Bool} (hQ : QR S M) (hW : WF S) (hB : ∀ v, 0 ≤ v → v < S 11 0 → W v = true) (hNE : ∀ v : Nat, (v : Int) < S 11 0 → NEq S (sK S W v).1 v) : Ct E yX8_laysForms cX8_laysForms 2 (none) (rmH 8) [vr (29, 0, 0)] M N (qv (fun M1 N1 => ∃ ψ, FQ M1 ψ (sK S W (S 11 0).toNat).2.1 ∧ (∀ j : Nat, j < 30 → ψ (j : Int) = (sK S W (S 11 0).toNat).1 j) ∧ (∀ v, 0 ≤ v → v < S 11 0 → S 0 v = 3 → M1 (30, 0, 40) v = (sK S W (S 11 0).toNat).2.2 v) ∧ Kr [34, 37, 42] [28, 29, 33, 35, 36, 38, 39, 40, 41] M M1 ∧ N = N1)) := by
  refine ct_of (own := RX8) (L0 := [vr (29, 0, 0), vn]) rfl (by decide +kernel) rfl rfl ?_
  refine go_iconst dX8_laysForms_0 (R32_lit rfl) ?_
  refine go_ist1 dX8_laysForms_1 rfl rfl ?_
  have c0 := hQ.2.1
  exact lp_X8_laysForms hQ hW hB hNE (S 11 0).toNat 0 M (by omega) (by omega) (fun j j0 j1 => absurd j1 (by omega)) Kr.rf
