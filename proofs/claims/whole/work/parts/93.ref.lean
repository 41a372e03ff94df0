/-- what a question may touch of the reference -/
def F8 (M M1 : Mm) : Prop := Kr [15, 16, 17, 18, 19, 20, 21, 22, 23, 26, 34, 37, 42, 47, 48, 50] [24, 25, 27, 28, 29, 30, 31, 32, 33, 35, 36, 38, 39, 40, 41, 43, 44, 45, 46, 49, 51] M M1
theorem F8.of {K : List Int} {A : List Nat} {M M1 : Mm} (f : Kr K A M M1) (hk : ∀ j ∈ K, j ∈ [15, 16, 17, 18, 19, 20, 21, 22, 23, 26, 34, 37, 42, 47, 48, 50]) (ha : ∀ g ∈ A, g ∈ [24, 25, 27, 28, 29, 30, 31, 32, 33, 35, 36, 38, 39, 40, 41, 43, 44, 45, 46, 49, 51]) : F8 M M1 := f.up hk ha
theorem F8.rf {M : Mm} : F8 M M := Kr.rf
theorem F8.tr {M M1 M2 : Mm} (h : F8 M M1) (g : F8 M1 M2) : F8 M M2 := Kr.tr h g
theorem F8.q {S : Pg} {M M1 : Mm} (f : F8 M M1) (h : QR S M) : QR S M1 := h.k f (by decide) (by decide) (by decide) (by decide) (by decide) (by decide) (by decide) (by decide)
theorem tb_cg {S : Pg} {a b : Int → Int} : ∀ n : Nat, (∀ v : Int, 0 ≤ v → v < n → S 0 v = -2 → a v = b v) → tbE S a n = tbE S b n ∧ tbC S a n = tbC S b n
  | 0, _ => ⟨rfl, rfl⟩
  | n + 1, h => by
    obtain ⟨h1, h2⟩ := tb_cg (S := S) (a := a) (b := b) n (fun v v0 v1 => h v v0 (by omega))
    constructor
    · funext w
      unfold tbE
      rw [h1]
      by_cases q : S 0 n = -2
      · rw [if_pos q, if_pos q, h n (by omega) (by omega) q]
      · rw [if_neg q, if_neg q]
    · funext w
      unfold tbC
      rw [h2]
      by_cases q : S 0 n = -2
      · rw [if_pos q, if_pos q, h n (by omega) (by omega) q]
      · rw [if_neg q, if_neg q]
theorem tb_at {S : Pg} {pt : Int → Int} (m : Nat) : ∀ n : Nat, m ≤ n → ∀ u : Int, u < m → tbE S pt n u = tbE S pt m u ∧ tbC S pt n u = tbC S pt m u
  | 0, h, u, hu => by rw [show m = 0 by omega]; exact ⟨rfl, rfl⟩
  | n + 1, h, u, hu => by
    by_cases q : m = n + 1
    · rw [q]; exact ⟨rfl, rfl⟩
    · obtain ⟨h1, h2⟩ := tb_at (S := S) (pt := pt) m n (by omega) u hu
      constructor
      · show (if u = (n : Int) then _ else tbE S pt n u) = _
        rw [if_neg (by omega)]; exact h1
      · show (if u = (n : Int) then _ else tbC S pt n u) = _
        rw [if_neg (by omega)]; exact h2
set_option maxRecDepth 100000 in
set_option maxHeartbeats 4000000 in
theorem lp_X8_laysPoint {E : Ev} {M : Mm} {N : Nn} {S : Pg} (hQ : QR S M) (hw : ∀ v, 0 ≤ v → v < S 11 0 → WFr S v) : ∀ (n : Nat) (v : Int) (M2 : Mm), (v + n = S 11 0) → (0 ≤ v) → (∀ u, 0 ≤ u → u < v → M2 (30, 0, 32) u = M (30, 0, 13) u) → (Kr [] [32] M M2) → Go E RX8 cX8_laysPoint 2 (none) (rmH 4) 0 0 (zM E (qv (fun M1 N1 => (∀ w, 0 ≤ w → w < S 11 0 → M1 (30, 0, 30) w = tbE S (M (30, 0, 13)) (S 11 0).toNat w ∧ M1 (30, 0, 31) w = tbC S (M (30, 0, 13)) (S 11 0).toNat w) ∧ Kr [] [30, 31, 32] M M1 ∧ N = N1))) 2 [vr (29, 0, 0), vi v] [] M2 N := by
  intro n
  induction n using Nat.strongRecOn with
  | ind n ih =>
  intro v M2 hn v0 hu hf
  have c6 : M2 (29, 0, 0) 6 = S 11 0 := by rw [hf.s 6 (by decide)]; exact hQ.1
  have c5 := hQ.2.2.1
  refine go_iload_n dX8_laysPoint_2 rfl ?_
  refine go_aload_n dX8_laysPoint_3 rfl rfl ?_
  refine g8_259 dX8_laysPoint_4 ?_
  rw [c6]
  refine go_icmp_ge (tgt := 28) dX8_laysPoint_7 rfl (fun h7 => ?_) (fun h7 => ?_)
  · have Q2 : QR S M2 := hQ.k hf (by decide) (by decide) (by decide) (by decide) (by decide) (by decide) (by decide) (by decide)
    refine go_aload_n dX8_laysPoint_28 rfl rfl ?_
    refine v8_340 dX8_laysPoint_29 rfl ⟨rfl, rfl⟩ ⟨rfl, rfl⟩ (ct_X8_reckons Q2 hw) (fun M3 N3 hq3 => ?_)
    refine go_retv dX8_laysPoint_32 ?_
    obtain ⟨g1, g2, rfl⟩ := hq3
    obtain ⟨t1, t2⟩ := tb_cg (S := S) (a := M2 (30, 0, 32)) (b := M (30, 0, 13)) (S 11 0).toNat (fun u u0 u1 _ => hu u u0 (by omega))
    rw [t1, t2] at g1
    exact ⟨g1, (hf.up (by decide) (by decide)).tr (g2.up (by decide) (by decide)), rfl⟩
  · refine go_aload_n dX8_laysPoint_10 rfl rfl ?_
    refine g8_62 dX8_laysPoint_11 ?_
    refine go_iload_n dX8_laysPoint_14 rfl ?_
    refine go_aload_n dX8_laysPoint_15 rfl rfl ?_
    refine g8_37 dX8_laysPoint_16 ?_
    refine go_iload_n dX8_laysPoint_19 rfl ?_
    refine go_iald dX8_laysPoint_20 rfl (by omega) (by omega) ?_
    rw [hf.a 13 (by decide)]
    refine go_iast dX8_laysPoint_21 rfl (by omega) (by omega) ?_
    refine go_iinc1c dX8_laysPoint_22 rfl rfl ⟨by omega, by omega⟩ ?_
    refine go_goto (tgt := 2) dX8_laysPoint_25 rfl ?_
    exact ih (n - 1) (by omega) (v + 1) _ (by omega) (by omega) (fun u u0 u1 => by
      rw [upI_wr]
      unfold upI
      by_cases z : u = v
      · rw [if_pos z, z]
      · rw [if_neg z]; exact hu u u0 (by omega)) (hf.wa (by decide))
set_option maxRecDepth 100000 in
set_option maxHeartbeats 4000000 in
theorem ct_X8_laysPoint {E : Ev} {M : Mm} {N : Nn} {S : Pg} (hQ : QR S M) (hw : ∀ v, 0 ≤ v → v < S 11 0 → WFr S v) : Ct E yX8_laysPoint cX8_laysPoint 2 (none) (rmH 4) [vr (29, 0, 0)] M N (qv (fun M1 N1 => (∀ w, 0 ≤ w → w < S 11 0 → M1 (30, 0, 30) w = tbE S (M (30, 0, 13)) (S 11 0).toNat w ∧ M1 (30, 0, 31) w = tbC S (M (30, 0, 13)) (S 11 0).toNat w) ∧ Kr [] [30, 31, 32] M M1 ∧ N = N1)) := by
  refine ct_of (own := RX8) (L0 := [vr (29, 0, 0), vn]) rfl (by decide +kernel) rfl rfl ?_
  refine go_iconst dX8_laysPoint_0 (R32_lit rfl) ?_
  refine go_ist1 dX8_laysPoint_1 rfl rfl ?_
  have c0 := hQ.2.1
  exact lp_X8_laysPoint hQ hw (S 11 0).toNat 0 M (by omega) (by omega) (fun u u0 u1 => absurd u1 (by omega)) Kr.rf
set_option maxRecDepth 100000 in
set_option maxHeartbeats 4000000 in
theorem ct_X8_wentOf {E : Ev} {M : Mm} {N : Nn} {S : Pg} {v : Int} {pt : Int → Int} (hQ : QR S M) (hw : ∀ v, 0 ≤ v → v < S 11 0 → WFr S v) (v0 : 0 ≤ v) (v1 : v < S 11 0) (h3 : S 0 v = 3) (hT : ∀ w, 0 ≤ w → w < S 11 0 → M (30, 0, 30) w = tbE S pt (S 11 0).toNat w ∧ M (30, 0, 31) w = tbC S pt (S 11 0).toNat w) : Ct E yX8_wentOf cX8_wentOf 3 ((some .int)) (rmH 2) [vr (29, 0, 0), vi v] M N (qi (fun r M1 N1 => r = wyP S pt v ∧ M = M1 ∧ N = N1)) := by
  refine ct_of (own := RX8) (L0 := [vr (29, 0, 0), vi v, vn]) rfl (by decide +kernel) rfl rfl ?_
  have c5 := hQ.2.2.1
  have o3 := opn_3 h3
  have ww := ((hw v v0 v1).2 (by omega)).2.2.2.2
  have eE : ∀ k, 0 ≤ k → k < 4 → opE S (M (30, 0, 30)) v k = opE S (tbE S pt (v + 1).toNat) v k ∧ opE S (M (30, 0, 31)) v k = opE S (tbC S pt (v + 1).toNat) v k := by
    intro k k0 k1
    have w1 := ww k k0 (by omega)
    refine ⟨opE_tab w1 (fun u u0 u1 => ?_), opE_tab w1 (fun u u0 u1 => ?_)⟩
    · rw [(hT u u0 (by omega)).1]; exact (tb_at (v + 1).toNat (S 11 0).toNat (by omega) u (by omega)).1
    · rw [(hT u u0 (by omega)).2]; exact (tb_at (v + 1).toNat (S 11 0).toNat (by omega) u (by omega)).2
  refine go_aload_n dX8_wentOf_0 rfl rfl ?_
  refine go_aload_n dX8_wentOf_1 rfl rfl ?_
  refine g8_56 dX8_wentOf_2 ?_
  refine go_iload_n dX8_wentOf_5 rfl ?_
  refine go_iconst dX8_wentOf_6 (R32_lit rfl) ?_
  refine v8_328 dX8_wentOf_7 rfl ⟨rfl, rfl⟩ ⟨rfl, rfl⟩ (ct_X8_told (S := S) (n := S 11 0) hQ.2.2.2.2 v0 v1 c5 (by omega) (hw v v0 v1) (by decide) (by omega) rfl) (fun r1 M1 N1 hr1 hq1 => ?_)
  obtain ⟨z1, rfl, rfl⟩ := hq1
  subst z1
  rw [(eE 0 (by decide) (by decide)).1]
  refine go_aload_n dX8_wentOf_10 rfl rfl ?_
  refine go_aload_n dX8_wentOf_11 rfl rfl ?_
  refine g8_56 dX8_wentOf_12 ?_
  refine go_iload_n dX8_wentOf_15 rfl ?_
  refine go_iconst dX8_wentOf_16 (R32_lit rfl) ?_
  refine v8_328 dX8_wentOf_17 rfl ⟨rfl, rfl⟩ ⟨rfl, rfl⟩ (ct_X8_told (S := S) (n := S 11 0) hQ.2.2.2.2 v0 v1 c5 (by omega) (hw v v0 v1) (by decide) (by omega) rfl) (fun r2 M2 N2 hr2 hq2 => ?_)
  obtain ⟨z2, rfl, rfl⟩ := hq2
  subst z2
  rw [(eE 1 (by decide) (by decide)).1]
  refine go_lcmp_ge (tgt := 28) dX8_wentOf_20 dX8_wentOf_21 rfl (fun h20 => ?_) (fun h20 => ?_)
  · refine go_iconst dX8_wentOf_28 (R32_lit rfl) ?_
    refine go_ist2 dX8_wentOf_29 rfl rfl ?_
    refine go_iload_n dX8_wentOf_30 rfl ?_
    refine go_aload_n dX8_wentOf_31 rfl rfl ?_
    refine go_aload_n dX8_wentOf_32 rfl rfl ?_
    refine g8_59 dX8_wentOf_33 ?_
    refine go_iload_n dX8_wentOf_36 rfl ?_
    refine go_iconst dX8_wentOf_37 (R32_lit rfl) ?_
    refine v8_328 dX8_wentOf_38 rfl ⟨rfl, rfl⟩ ⟨rfl, rfl⟩ (ct_X8_told (S := S) (n := S 11 0) hQ.2.2.2.2 v0 v1 c5 (by omega) (hw v v0 v1) (by decide) (by omega) rfl) (fun r3 M3 N3 hr3 hq3 => ?_)
    obtain ⟨z3, rfl, rfl⟩ := hq3
    subst z3
    rw [(eE 0 (by decide) (by decide)).2]
    refine go_aload_n dX8_wentOf_41 rfl rfl ?_
    refine go_aload_n dX8_wentOf_42 rfl rfl ?_
    refine g8_59 dX8_wentOf_43 ?_
    refine go_iload_n dX8_wentOf_46 rfl ?_
    refine go_iconst dX8_wentOf_47 (R32_lit rfl) ?_
    refine v8_328 dX8_wentOf_48 rfl ⟨rfl, rfl⟩ ⟨rfl, rfl⟩ (ct_X8_told (S := S) (n := S 11 0) hQ.2.2.2.2 v0 v1 c5 (by omega) (hw v v0 v1) (by decide) (by omega) rfl) (fun r4 M4 N4 hr4 hq4 => ?_)
    obtain ⟨z4, rfl, rfl⟩ := hq4
    subst z4
    rw [(eE 1 (by decide) (by decide)).2]
    refine go_lcmp_ge (tgt := 59) dX8_wentOf_51 dX8_wentOf_52 rfl (fun h51 => ?_) (fun h51 => ?_)
    · refine go_iconst dX8_wentOf_59 (R32_lit rfl) ?_
      refine go_iaddc dX8_wentOf_60 ⟨by omega, by omega⟩ ?_
      refine go_reti dX8_wentOf_61 ?_
      refine ⟨?_, rfl, rfl⟩
      unfold wyP b2
      first
      | (rw [if_pos (by omega), if_pos (by omega)]; done)
      | (rw [if_pos (by omega), if_neg (by omega)]; done)
      | (rw [if_neg (by omega), if_pos (by omega)]; done)
      | (rw [if_neg (by omega), if_neg (by omega)]; done)
    · refine go_iconst dX8_wentOf_55 (R32_lit rfl) ?_
      refine go_goto (tgt := 60) dX8_wentOf_56 rfl ?_
      refine go_iaddc dX8_wentOf_60 ⟨by omega, by omega⟩ ?_
      refine go_reti dX8_wentOf_61 ?_
      refine ⟨?_, rfl, rfl⟩
      unfold wyP b2
      first
      | (rw [if_pos (by omega), if_pos (by omega)]; done)
      | (rw [if_pos (by omega), if_neg (by omega)]; done)
      | (rw [if_neg (by omega), if_pos (by omega)]; done)
      | (rw [if_neg (by omega), if_neg (by omega)]; done)
  · refine go_iconst dX8_wentOf_24 (R32_lit rfl) ?_
    refine go_goto (tgt := 29) dX8_wentOf_25 rfl ?_
    refine go_ist2 dX8_wentOf_29 rfl rfl ?_
    refine go_iload_n dX8_wentOf_30 rfl ?_
    refine go_aload_n dX8_wentOf_31 rfl rfl ?_
    refine go_aload_n dX8_wentOf_32 rfl rfl ?_
    refine g8_59 dX8_wentOf_33 ?_
    refine go_iload_n dX8_wentOf_36 rfl ?_
    refine go_iconst dX8_wentOf_37 (R32_lit rfl) ?_
    refine v8_328 dX8_wentOf_38 rfl ⟨rfl, rfl⟩ ⟨rfl, rfl⟩ (ct_X8_told (S := S) (n := S 11 0) hQ.2.2.2.2 v0 v1 c5 (by omega) (hw v v0 v1) (by decide) (by omega) rfl) (fun r3 M3 N3 hr3 hq3 => ?_)
    obtain ⟨z3, rfl, rfl⟩ := hq3
    subst z3
    rw [(eE 0 (by decide) (by decide)).2]
    refine go_aload_n dX8_wentOf_41 rfl rfl ?_
    refine go_aload_n dX8_wentOf_42 rfl rfl ?_
    refine g8_59 dX8_wentOf_43 ?_
    refine go_iload_n dX8_wentOf_46 rfl ?_
    refine go_iconst dX8_wentOf_47 (R32_lit rfl) ?_
    refine v8_328 dX8_wentOf_48 rfl ⟨rfl, rfl⟩ ⟨rfl, rfl⟩ (ct_X8_told (S := S) (n := S 11 0) hQ.2.2.2.2 v0 v1 c5 (by omega) (hw v v0 v1) (by decide) (by omega) rfl) (fun r4 M4 N4 hr4 hq4 => ?_)
    obtain ⟨z4, rfl, rfl⟩ := hq4
    subst z4
    rw [(eE 1 (by decide) (by decide)).2]
    refine go_lcmp_ge (tgt := 59) dX8_wentOf_51 dX8_wentOf_52 rfl (fun h51 => ?_) (fun h51 => ?_)
    · refine go_iconst dX8_wentOf_59 (R32_lit rfl) ?_
      refine go_iaddc dX8_wentOf_60 ⟨by omega, by omega⟩ ?_
      refine go_reti dX8_wentOf_61 ?_
      refine ⟨?_, rfl, rfl⟩
      unfold wyP b2
      first
      | (rw [if_pos (by omega), if_pos (by omega)]; done)
      | (rw [if_pos (by omega), if_neg (by omega)]; done)
      | (rw [if_neg (by omega), if_pos (by omega)]; done)
      | (rw [if_neg (by omega), if_neg (by omega)]; done)
    · refine go_iconst dX8_wentOf_55 (R32_lit rfl) ?_
      refine go_goto (tgt := 60) dX8_wentOf_56 rfl ?_
      refine go_iaddc dX8_wentOf_60 ⟨by omega, by omega⟩ ?_
      refine go_reti dX8_wentOf_61 ?_
      refine ⟨?_, rfl, rfl⟩
      unfold wyP b2
      first
      | (rw [if_pos (by omega), if_pos (by omega)]; done)
      | (rw [if_pos (by omega), if_neg (by omega)]; done)
      | (rw [if_neg (by omega), if_pos (by omega)]; done)
      | (rw [if_neg (by omega), if_neg (by omega)]; done)
set_option maxRecDepth 100000 in
set_option maxHeartbeats 4000000 in
theorem ct_X8_set {E : Ev} {M : Mm} {N : Nn} {S : Pg} {v k : Int} (hQ : QR S M) : Ct E yX8_set cX8_set 3 ((some .boolean)) (rmH 4) [vr (29, 0, 0), vi v, vi k] M N (qi (fun r M1 N1 => ((0 ≤ v ∧ v < S 11 0 ∧ S 0 v = -2 ∧ S 2 v ≤ k ∧ k ≤ S 3 v) ∧ r = 1 ∧ M1 = wr (rfM M 0) (30, 0, 13) v k ∨ (0 ≤ v ∧ v < S 11 0 ∧ S 0 v = -2 ∧ ¬ (S 2 v ≤ k ∧ k ≤ S 3 v)) ∧ r = 0 ∧ M1 = rfM M 2 ∨ ¬ (0 ≤ v ∧ v < S 11 0 ∧ S 0 v = -2) ∧ r = 0 ∧ M1 = rfM M 1) ∧ N = N1)) := by
  refine ct_of (own := RX8) (L0 := [vr (29, 0, 0), vi v, vi k]) rfl (by decide +kernel) rfl rfl ?_
  have c0 := hQ.2.1
  have c5 := hQ.2.2.1
  refine go_aload_n dX8_set_0 rfl rfl ?_
  refine go_aload_n dX8_set_1 rfl rfl ?_
  refine go_iload_n dX8_set_2 rfl ?_
  refine v8_343 dX8_set_3 rfl ⟨rfl, rfl⟩ ⟨rfl, rfl⟩ (ct_X8_isInputAt hQ) (fun r1 M1 N1 hr1 hq1 => ?_)
  obtain ⟨z1, rfl, rfl⟩ := hq1
  have z1 := bit_iff z1
  refine go_aload_n dX8_set_6 rfl rfl ?_
  refine go_iload_n dX8_set_7 rfl ?_
  refine v8_343 dX8_set_8 rfl ⟨rfl, rfl⟩ ⟨rfl, rfl⟩ (ct_X8_isInputAt hQ) (fun r2 M2 N2 hr2 hq2 => ?_)
  obtain ⟨z2, rfl, rfl⟩ := hq2
  have z2 := bit_iff z2
  refine go_if_eq (tgt := 40) dX8_set_11 rfl (fun h11 => ?_) (fun h11 => ?_)
  · refine go_iconst dX8_set_40 (R32_lit rfl) ?_
    refine v8_346 dX8_set_41 rfl ⟨rfl, rfl⟩ ⟨rfl, rfl⟩ ct_X8_unless_ (fun r4 M4 N4 hr4 hq4 => ?_)
    obtain ⟨z4, rfl, rfl⟩ := hq4
    refine v8_269 dX8_set_44 rfl ⟨rfl, rfl⟩ ⟨rfl, rfl⟩ ct_X8_isRefused (fun r5 M5 N5 hr5 hq5 => ?_)
    obtain ⟨z5, rfl, rfl⟩ := hq5
    have z5 := bit_iff z5
    refine go_if_eq (tgt := 52) dX8_set_47 rfl (fun h47 => ?_) (fun h47 => ?_)
    · refine go_aload_n dX8_set_52 rfl rfl ?_
      refine g8_37 dX8_set_53 ?_
      refine go_iload_n dX8_set_56 rfl ?_
      refine go_iload_n dX8_set_57 rfl ?_
      refine go_iast dX8_set_58 rfl (by omega) (by omega) ?_
      refine go_iconst dX8_set_59 (R32_lit rfl) ?_
      refine go_retz dX8_set_60 (by first | exact Or.inl rfl | exact Or.inr rfl | omega) ?_
      refine ⟨Or.inl ⟨?_, rfl, ?_⟩, rfl⟩
      · by_cases q : 0 ≤ v ∧ v < S 11 0 ∧ S 0 v = -2
        · first
          | omega
          | (rw [if_neg (by omega), if_pos (by omega)] at z4; exfalso; omega)
        · rw [if_pos (by omega)] at z4; exfalso; omega
      · rw [show r4 = 0 by omega]
    · refine go_iconst dX8_set_50 (R32_lit rfl) ?_
      refine go_retz dX8_set_51 (by first | exact Or.inl rfl | exact Or.inr rfl | omega) ?_
      refine ⟨?_, rfl⟩
      by_cases q : 0 ≤ v ∧ v < S 11 0 ∧ S 0 v = -2
      · rw [if_neg (by omega)] at z4
        first
        | (rw [if_pos (by omega)] at z4; exact Or.inr (Or.inl ⟨by omega, rfl, by rw [z4]⟩))
        | (rw [if_neg (by omega)] at z4; exfalso; omega)
      · rw [if_pos (by omega)] at z4; exact Or.inr (Or.inr ⟨q, rfl, by rw [z4]⟩)
  · obtain ⟨q1, q2, q3, q4⟩ := hQ.2.2.2.2 v (by omega) (by omega)
    rw [Int.zero_add] at q3
    have q3 := q3 (by omega)
    refine go_iload_n dX8_set_14 rfl ?_
    refine go_i2l dX8_set_15 ?_
    refine go_aload_n dX8_set_16 rfl rfl ?_
    refine g8_25 dX8_set_17 ?_
    refine go_iload_n dX8_set_20 rfl ?_
    refine go_iald dX8_set_21 rfl (by omega) (by omega) ?_
    rw [q3.1]
    refine go_i2l dX8_set_22 ?_
    refine go_aload_n dX8_set_23 rfl rfl ?_
    refine g8_28 dX8_set_24 ?_
    refine go_iload_n dX8_set_27 rfl ?_
    refine go_iald dX8_set_28 rfl (by omega) (by omega) ?_
    rw [q3.2]
    refine go_i2l dX8_set_29 ?_
    refine v8_140 dX8_set_30 rfl ⟨rfl, rfl⟩ ⟨rfl, rfl⟩ ct_X8_in (fun r3 M3 N3 hr3 hq3 => ?_)
    obtain ⟨z3, rfl, rfl⟩ := hq3
    have z3 := bit_iff z3
    refine go_if_eq (tgt := 40) dX8_set_33 rfl (fun h33 => ?_) (fun h33 => ?_)
    · refine go_iconst dX8_set_40 (R32_lit rfl) ?_
      refine v8_346 dX8_set_41 rfl ⟨rfl, rfl⟩ ⟨rfl, rfl⟩ ct_X8_unless_ (fun r4 M4 N4 hr4 hq4 => ?_)
      obtain ⟨z4, rfl, rfl⟩ := hq4
      refine v8_269 dX8_set_44 rfl ⟨rfl, rfl⟩ ⟨rfl, rfl⟩ ct_X8_isRefused (fun r5 M5 N5 hr5 hq5 => ?_)
      obtain ⟨z5, rfl, rfl⟩ := hq5
      have z5 := bit_iff z5
      refine go_if_eq (tgt := 52) dX8_set_47 rfl (fun h47 => ?_) (fun h47 => ?_)
      · refine go_aload_n dX8_set_52 rfl rfl ?_
        refine g8_37 dX8_set_53 ?_
        refine go_iload_n dX8_set_56 rfl ?_
        refine go_iload_n dX8_set_57 rfl ?_
        refine go_iast dX8_set_58 rfl (by omega) (by omega) ?_
        refine go_iconst dX8_set_59 (R32_lit rfl) ?_
        refine go_retz dX8_set_60 (by first | exact Or.inl rfl | exact Or.inr rfl | omega) ?_
        refine ⟨Or.inl ⟨?_, rfl, ?_⟩, rfl⟩
        · by_cases q : 0 ≤ v ∧ v < S 11 0 ∧ S 0 v = -2
          · first
            | omega
            | (rw [if_neg (by omega), if_pos (by omega)] at z4; exfalso; omega)
          · rw [if_pos (by omega)] at z4; exfalso; omega
        · rw [show r4 = 0 by omega]
      · refine go_iconst dX8_set_50 (R32_lit rfl) ?_
        refine go_retz dX8_set_51 (by first | exact Or.inl rfl | exact Or.inr rfl | omega) ?_
        refine ⟨?_, rfl⟩
        by_cases q : 0 ≤ v ∧ v < S 11 0 ∧ S 0 v = -2
        · rw [if_neg (by omega)] at z4
          first
          | (rw [if_pos (by omega)] at z4; exact Or.inr (Or.inl ⟨by omega, rfl, by rw [z4]⟩))
          | (rw [if_neg (by omega)] at z4; exfalso; omega)
        · rw [if_pos (by omega)] at z4; exact Or.inr (Or.inr ⟨q, rfl, by rw [z4]⟩)
    · refine go_iconst dX8_set_36 (R32_lit rfl) ?_
      refine go_goto (tgt := 41) dX8_set_37 rfl ?_
      refine v8_346 dX8_set_41 rfl ⟨rfl, rfl⟩ ⟨rfl, rfl⟩ ct_X8_unless_ (fun r4 M4 N4 hr4 hq4 => ?_)
      obtain ⟨z4, rfl, rfl⟩ := hq4
      refine v8_269 dX8_set_44 rfl ⟨rfl, rfl⟩ ⟨rfl, rfl⟩ ct_X8_isRefused (fun r5 M5 N5 hr5 hq5 => ?_)
      obtain ⟨z5, rfl, rfl⟩ := hq5
      have z5 := bit_iff z5
      refine go_if_eq (tgt := 52) dX8_set_47 rfl (fun h47 => ?_) (fun h47 => ?_)
      · refine go_aload_n dX8_set_52 rfl rfl ?_
        refine g8_37 dX8_set_53 ?_
        refine go_iload_n dX8_set_56 rfl ?_
        refine go_iload_n dX8_set_57 rfl ?_
        refine go_iast dX8_set_58 rfl (by omega) (by omega) ?_
        refine go_iconst dX8_set_59 (R32_lit rfl) ?_
        refine go_retz dX8_set_60 (by first | exact Or.inl rfl | exact Or.inr rfl | omega) ?_
        refine ⟨Or.inl ⟨?_, rfl, ?_⟩, rfl⟩
        · by_cases q : 0 ≤ v ∧ v < S 11 0 ∧ S 0 v = -2
          · first
            | omega
            | (rw [if_neg (by omega), if_pos (by omega)] at z4; exfalso; omega)
          · rw [if_pos (by omega)] at z4; exfalso; omega
        · rw [show r4 = 0 by omega]
      · refine go_iconst dX8_set_50 (R32_lit rfl) ?_
        refine go_retz dX8_set_51 (by first | exact Or.inl rfl | exact Or.inr rfl | omega) ?_
        refine ⟨?_, rfl⟩
        by_cases q : 0 ≤ v ∧ v < S 11 0 ∧ S 0 v = -2
        · rw [if_neg (by omega)] at z4
          first
          | (rw [if_pos (by omega)] at z4; exact Or.inr (Or.inl ⟨by omega, rfl, by rw [z4]⟩))
          | (rw [if_neg (by omega)] at z4; exfalso; omega)
        · rw [if_pos (by omega)] at z4; exact Or.inr (Or.inr ⟨q, rfl, by rw [z4]⟩)
set_option maxRecDepth 100000 in
set_option maxHeartbeats 4000000 in
theorem ct_X8_at {E : Ev} {M : Mm} {N : Nn} {S : Pg} {v w : Int} (hQ : QR S M) (hw : ∀ v, 0 ≤ v → v < S 11 0 → WFr S v) : Ct E yX8_at cX8_at 3 ((some .long)) (rmH 5) [vr (29, 0, 0), vi v, vi w] M N (ql (fun r M1 N1 => ((0 ≤ v ∧ v < S 11 0 ∧ 0 ≤ w ∧ w ≤ 2) ∧ r = (if w = 0 then tbE S (M (30, 0, 13)) (v + 1).toNat v else if w = 1 then tbC S (M (30, 0, 13)) (v + 1).toNat v else w64 (tbC S (M (30, 0, 13)) (v + 1).toNat v - tbE S (M (30, 0, 13)) (v + 1).toNat v)) ∧ F8 (rfM M 0) M1 ∨ ¬ (0 ≤ v ∧ v < S 11 0 ∧ 0 ≤ w ∧ w ≤ 2) ∧ r = -9223372036854775808 ∧ M1 = rfM M 1) ∧ N = N1)) := by
  refine ct_of (own := RX8) (L0 := [vr (29, 0, 0), vi v, vi w]) rfl (by decide +kernel) rfl rfl ?_
  have c0 := hQ.2.1
  have c5 := hQ.2.2.1
  refine go_aload_n dX8_at_0 rfl rfl ?_
  refine go_aload_n dX8_at_1 rfl rfl ?_
  refine go_iload_n dX8_at_2 rfl ?_
  refine v8_285 dX8_at_3 rfl ⟨rfl, rfl⟩ ⟨rfl, rfl⟩ (ct_X8_isVariable hQ) (fun r1 M1 N1 hr1 hq1 => ?_)
  obtain ⟨z1, rfl, rfl⟩ := hq1
  have z1 := bit_iff z1
  refine go_if_eq (tgt := 25) dX8_at_6 rfl (fun h6 => ?_) (fun h6 => ?_)
  · refine go_iconst dX8_at_25 (R32_lit rfl) ?_
    refine v8_292 dX8_at_26 rfl ⟨rfl, rfl⟩ ⟨rfl, rfl⟩ ct_X8_unless (fun r3 M3 N3 hr3 hq3 => ?_)
    obtain ⟨z3, rfl, rfl⟩ := hq3
    have z3 := bit_iff z3
    refine v8_269 dX8_at_29 rfl ⟨rfl, rfl⟩ ⟨rfl, rfl⟩ ct_X8_isRefused (fun r4 M4 N4 hr4 hq4 => ?_)
    obtain ⟨z4, rfl, rfl⟩ := hq4
    have z4 := bit_iff z4
    refine go_if_eq (tgt := 39) dX8_at_32 rfl (fun h32 => ?_) (fun h32 => ?_)
    · rw [show r3 = 0 by omega]
      have hok : 0 ≤ v ∧ v < S 11 0 ∧ 0 ≤ w ∧ w ≤ 2 := by omega
      refine go_aload_n dX8_at_39 rfl rfl ?_
      refine v8_349 dX8_at_40 rfl ⟨rfl, rfl⟩ ⟨rfl, rfl⟩ (ct_X8_laysPoint (rfM_Q hQ) hw) (fun M5 N5 hq5 => ?_)
      obtain ⟨g1, g2, rfl⟩ := hq5
      have t1 := g1 v (by omega) (by omega)
      have p13 : (rfM M 0) (30, 0, 13) = M (30, 0, 13) := rfM_K.a 13 (by decide)
      rw [p13] at t1
      obtain ⟨u1, u2⟩ := tb_at (S := S) (pt := M (30, 0, 13)) (v + 1).toNat (S 11 0).toNat (by omega) v (by omega)
      rw [u1, u2] at t1
      have hfr : F8 (rfM M 0) M5 := F8.of g2 (by decide) (by decide)
      refine go_iload_n dX8_at_43 rfl ?_
      refine go_if_ne (tgt := 56) dX8_at_44 rfl (fun h44 => ?_) (fun h44 => ?_)
      · refine go_iload_n dX8_at_56 rfl ?_
        refine go_iconst dX8_at_57 (R32_lit rfl) ?_
        refine go_icmp_ne (tgt := 70) dX8_at_58 rfl (fun h58 => ?_) (fun h58 => ?_)
        · refine go_aload_n dX8_at_70 rfl rfl ?_
          refine g8_59 dX8_at_71 ?_
          refine go_iload_n dX8_at_74 rfl ?_
          refine go_lald dX8_at_75 rfl (by omega) (by omega) ?_
          rw [t1.2]
          refine go_aload_n dX8_at_76 rfl rfl ?_
          refine g8_56 dX8_at_77 ?_
          refine go_iload_n dX8_at_80 rfl ?_
          refine go_lald dX8_at_81 rfl (by omega) (by omega) ?_
          rw [t1.1]
          refine go_lsub dX8_at_82 ?_
          refine go_retl dX8_at_83 ?_
          refine ⟨Or.inl ⟨hok, ?_, hfr⟩, rfl⟩
          first
          | (rw [if_pos (by omega)]; done)
          | (rw [if_neg (by omega), if_pos (by omega)]; done)
          | (rw [if_neg (by omega), if_neg (by omega)]; done)
        · refine go_aload_n dX8_at_61 rfl rfl ?_
          refine g8_59 dX8_at_62 ?_
          refine go_iload_n dX8_at_65 rfl ?_
          refine go_lald dX8_at_66 rfl (by omega) (by omega) ?_
          rw [t1.2]
          refine go_goto (tgt := 83) dX8_at_67 rfl ?_
          refine go_retl dX8_at_83 ?_
          refine ⟨Or.inl ⟨hok, ?_, hfr⟩, rfl⟩
          first
          | (rw [if_pos (by omega)]; done)
          | (rw [if_neg (by omega), if_pos (by omega)]; done)
          | (rw [if_neg (by omega), if_neg (by omega)]; done)
      · refine go_aload_n dX8_at_47 rfl rfl ?_
        refine g8_56 dX8_at_48 ?_
        refine go_iload_n dX8_at_51 rfl ?_
        refine go_lald dX8_at_52 rfl (by omega) (by omega) ?_
        rw [t1.1]
        refine go_goto (tgt := 83) dX8_at_53 rfl ?_
        refine go_retl dX8_at_83 ?_
        refine ⟨Or.inl ⟨hok, ?_, hfr⟩, rfl⟩
        first
        | (rw [if_pos (by omega)]; done)
        | (rw [if_neg (by omega), if_pos (by omega)]; done)
        | (rw [if_neg (by omega), if_neg (by omega)]; done)
    · refine c8_111 dX8_at_35 ?_
      refine go_retl dX8_at_38 ?_
      exact ⟨Or.inr ⟨by omega, rfl, by rw [show r3 = 1 by omega]⟩, rfl⟩
  · refine go_iload_n dX8_at_9 rfl ?_
    refine go_i2l dX8_at_10 ?_
    refine go_lconst (x := 0) dX8_at_11 rfl ?_
    refine c8_255 dX8_at_12 ?_
    refine v8_140 dX8_at_15 rfl ⟨rfl, rfl⟩ ⟨rfl, rfl⟩ ct_X8_in (fun r2 M2 N2 hr2 hq2 => ?_)
    obtain ⟨z2, rfl, rfl⟩ := hq2
    have z2 := bit_iff z2
    refine go_if_eq (tgt := 25) dX8_at_18 rfl (fun h18 => ?_) (fun h18 => ?_)
    · refine go_iconst dX8_at_25 (R32_lit rfl) ?_
      refine v8_292 dX8_at_26 rfl ⟨rfl, rfl⟩ ⟨rfl, rfl⟩ ct_X8_unless (fun r3 M3 N3 hr3 hq3 => ?_)
      obtain ⟨z3, rfl, rfl⟩ := hq3
      have z3 := bit_iff z3
      refine v8_269 dX8_at_29 rfl ⟨rfl, rfl⟩ ⟨rfl, rfl⟩ ct_X8_isRefused (fun r4 M4 N4 hr4 hq4 => ?_)
      obtain ⟨z4, rfl, rfl⟩ := hq4
      have z4 := bit_iff z4
      refine go_if_eq (tgt := 39) dX8_at_32 rfl (fun h32 => ?_) (fun h32 => ?_)
      · rw [show r3 = 0 by omega]
        have hok : 0 ≤ v ∧ v < S 11 0 ∧ 0 ≤ w ∧ w ≤ 2 := by omega
        refine go_aload_n dX8_at_39 rfl rfl ?_
        refine v8_349 dX8_at_40 rfl ⟨rfl, rfl⟩ ⟨rfl, rfl⟩ (ct_X8_laysPoint (rfM_Q hQ) hw) (fun M5 N5 hq5 => ?_)
        obtain ⟨g1, g2, rfl⟩ := hq5
        have t1 := g1 v (by omega) (by omega)
        have p13 : (rfM M 0) (30, 0, 13) = M (30, 0, 13) := rfM_K.a 13 (by decide)
        rw [p13] at t1
        obtain ⟨u1, u2⟩ := tb_at (S := S) (pt := M (30, 0, 13)) (v + 1).toNat (S 11 0).toNat (by omega) v (by omega)
        rw [u1, u2] at t1
        have hfr : F8 (rfM M 0) M5 := F8.of g2 (by decide) (by decide)
        refine go_iload_n dX8_at_43 rfl ?_
        refine go_if_ne (tgt := 56) dX8_at_44 rfl (fun h44 => ?_) (fun h44 => ?_)
        · refine go_iload_n dX8_at_56 rfl ?_
          refine go_iconst dX8_at_57 (R32_lit rfl) ?_
          refine go_icmp_ne (tgt := 70) dX8_at_58 rfl (fun h58 => ?_) (fun h58 => ?_)
          · refine go_aload_n dX8_at_70 rfl rfl ?_
            refine g8_59 dX8_at_71 ?_
            refine go_iload_n dX8_at_74 rfl ?_
            refine go_lald dX8_at_75 rfl (by omega) (by omega) ?_
            rw [t1.2]
            refine go_aload_n dX8_at_76 rfl rfl ?_
            refine g8_56 dX8_at_77 ?_
            refine go_iload_n dX8_at_80 rfl ?_
            refine go_lald dX8_at_81 rfl (by omega) (by omega) ?_
            rw [t1.1]
            refine go_lsub dX8_at_82 ?_
            refine go_retl dX8_at_83 ?_
            refine ⟨Or.inl ⟨hok, ?_, hfr⟩, rfl⟩
            first
            | (rw [if_pos (by omega)]; done)
            | (rw [if_neg (by omega), if_pos (by omega)]; done)
            | (rw [if_neg (by omega), if_neg (by omega)]; done)
          · refine go_aload_n dX8_at_61 rfl rfl ?_
            refine g8_59 dX8_at_62 ?_
            refine go_iload_n dX8_at_65 rfl ?_
            refine go_lald dX8_at_66 rfl (by omega) (by omega) ?_
            rw [t1.2]
            refine go_goto (tgt := 83) dX8_at_67 rfl ?_
            refine go_retl dX8_at_83 ?_
            refine ⟨Or.inl ⟨hok, ?_, hfr⟩, rfl⟩
            first
            | (rw [if_pos (by omega)]; done)
            | (rw [if_neg (by omega), if_pos (by omega)]; done)
            | (rw [if_neg (by omega), if_neg (by omega)]; done)
        · refine go_aload_n dX8_at_47 rfl rfl ?_
          refine g8_56 dX8_at_48 ?_
          refine go_iload_n dX8_at_51 rfl ?_
          refine go_lald dX8_at_52 rfl (by omega) (by omega) ?_
          rw [t1.1]
          refine go_goto (tgt := 83) dX8_at_53 rfl ?_
          refine go_retl dX8_at_83 ?_
          refine ⟨Or.inl ⟨hok, ?_, hfr⟩, rfl⟩
          first
          | (rw [if_pos (by omega)]; done)
          | (rw [if_neg (by omega), if_pos (by omega)]; done)
          | (rw [if_neg (by omega), if_neg (by omega)]; done)
      · refine c8_111 dX8_at_35 ?_
        refine go_retl dX8_at_38 ?_
        exact ⟨Or.inr ⟨by omega, rfl, by rw [show r3 = 1 by omega]⟩, rfl⟩
    · refine go_iconst dX8_at_21 (R32_lit rfl) ?_
      refine go_goto (tgt := 26) dX8_at_22 rfl ?_
      refine v8_292 dX8_at_26 rfl ⟨rfl, rfl⟩ ⟨rfl, rfl⟩ ct_X8_unless (fun r3 M3 N3 hr3 hq3 => ?_)
      obtain ⟨z3, rfl, rfl⟩ := hq3
      have z3 := bit_iff z3
      refine v8_269 dX8_at_29 rfl ⟨rfl, rfl⟩ ⟨rfl, rfl⟩ ct_X8_isRefused (fun r4 M4 N4 hr4 hq4 => ?_)
      obtain ⟨z4, rfl, rfl⟩ := hq4
      have z4 := bit_iff z4
      refine go_if_eq (tgt := 39) dX8_at_32 rfl (fun h32 => ?_) (fun h32 => ?_)
      · rw [show r3 = 0 by omega]
        have hok : 0 ≤ v ∧ v < S 11 0 ∧ 0 ≤ w ∧ w ≤ 2 := by omega
        refine go_aload_n dX8_at_39 rfl rfl ?_
        refine v8_349 dX8_at_40 rfl ⟨rfl, rfl⟩ ⟨rfl, rfl⟩ (ct_X8_laysPoint (rfM_Q hQ) hw) (fun M5 N5 hq5 => ?_)
        obtain ⟨g1, g2, rfl⟩ := hq5
        have t1 := g1 v (by omega) (by omega)
        have p13 : (rfM M 0) (30, 0, 13) = M (30, 0, 13) := rfM_K.a 13 (by decide)
        rw [p13] at t1
        obtain ⟨u1, u2⟩ := tb_at (S := S) (pt := M (30, 0, 13)) (v + 1).toNat (S 11 0).toNat (by omega) v (by omega)
        rw [u1, u2] at t1
        have hfr : F8 (rfM M 0) M5 := F8.of g2 (by decide) (by decide)
        refine go_iload_n dX8_at_43 rfl ?_
        refine go_if_ne (tgt := 56) dX8_at_44 rfl (fun h44 => ?_) (fun h44 => ?_)
        · refine go_iload_n dX8_at_56 rfl ?_
          refine go_iconst dX8_at_57 (R32_lit rfl) ?_
          refine go_icmp_ne (tgt := 70) dX8_at_58 rfl (fun h58 => ?_) (fun h58 => ?_)
          · refine go_aload_n dX8_at_70 rfl rfl ?_
            refine g8_59 dX8_at_71 ?_
            refine go_iload_n dX8_at_74 rfl ?_
            refine go_lald dX8_at_75 rfl (by omega) (by omega) ?_
            rw [t1.2]
            refine go_aload_n dX8_at_76 rfl rfl ?_
            refine g8_56 dX8_at_77 ?_
            refine go_iload_n dX8_at_80 rfl ?_
            refine go_lald dX8_at_81 rfl (by omega) (by omega) ?_
            rw [t1.1]
            refine go_lsub dX8_at_82 ?_
            refine go_retl dX8_at_83 ?_
            refine ⟨Or.inl ⟨hok, ?_, hfr⟩, rfl⟩
            first
            | (rw [if_pos (by omega)]; done)
            | (rw [if_neg (by omega), if_pos (by omega)]; done)
            | (rw [if_neg (by omega), if_neg (by omega)]; done)
          · refine go_aload_n dX8_at_61 rfl rfl ?_
            refine g8_59 dX8_at_62 ?_
            refine go_iload_n dX8_at_65 rfl ?_
            refine go_lald dX8_at_66 rfl (by omega) (by omega) ?_
            rw [t1.2]
            refine go_goto (tgt := 83) dX8_at_67 rfl ?_
            refine go_retl dX8_at_83 ?_
            refine ⟨Or.inl ⟨hok, ?_, hfr⟩, rfl⟩
            first
            | (rw [if_pos (by omega)]; done)
            | (rw [if_neg (by omega), if_pos (by omega)]; done)
            | (rw [if_neg (by omega), if_neg (by omega)]; done)
        · refine go_aload_n dX8_at_47 rfl rfl ?_
          refine g8_56 dX8_at_48 ?_
          refine go_iload_n dX8_at_51 rfl ?_
          refine go_lald dX8_at_52 rfl (by omega) (by omega) ?_
          rw [t1.1]
          refine go_goto (tgt := 83) dX8_at_53 rfl ?_
          refine go_retl dX8_at_83 ?_
          refine ⟨Or.inl ⟨hok, ?_, hfr⟩, rfl⟩
          first
          | (rw [if_pos (by omega)]; done)
          | (rw [if_neg (by omega), if_pos (by omega)]; done)
          | (rw [if_neg (by omega), if_neg (by omega)]; done)
      · refine c8_111 dX8_at_35 ?_
        refine go_retl dX8_at_38 ?_
        exact ⟨Or.inr ⟨by omega, rfl, by rw [show r3 = 1 by omega]⟩, rfl⟩
set_option maxRecDepth 100000 in
set_option maxHeartbeats 4000000 in
theorem ct_X8_went {E : Ev} {M : Mm} {N : Nn} {S : Pg} {v : Int} (hQ : QR S M) (hw : ∀ v, 0 ≤ v → v < S 11 0 → WFr S v) : Ct E yX8_went cX8_went 2 ((some .int)) (rmH 5) [vr (29, 0, 0), vi v] M N (qi (fun r M1 N1 => ((0 ≤ v ∧ v < S 11 0 ∧ S 0 v = 3) ∧ r = wyP S (M (30, 0, 13)) v ∧ F8 (rfM M 0) M1 ∨ (0 ≤ v ∧ v < S 11 0 ∧ S 0 v ≠ -2 ∧ S 0 v ≠ 3) ∧ r = -1 ∧ M1 = rfM M 5 ∨ (¬ (0 ≤ v ∧ v < S 11 0 ∧ S 0 v ≠ -2)) ∧ r = -1 ∧ M1 = rfM M 1) ∧ N = N1)) := by
  refine ct_of (own := RX8) (L0 := [vr (29, 0, 0), vi v]) rfl (by decide +kernel) rfl rfl ?_
  have c0 := hQ.2.1
  have c5 := hQ.2.2.1
  refine go_aload_n dX8_went_0 rfl rfl ?_
  refine go_aload_n dX8_went_1 rfl rfl ?_
  refine go_iload_n dX8_went_2 rfl ?_
  refine v8_352 dX8_went_3 rfl ⟨rfl, rfl⟩ ⟨rfl, rfl⟩ (ct_X8_whyNoPick hQ) (fun r1 M1 N1 hr1 hq1 => ?_)
  obtain ⟨z1, rfl, rfl⟩ := hq1
  have y1 : (r1 = 0 ∧ 0 ≤ v ∧ v < S 11 0 ∧ S 0 v = 3) ∨ (r1 = 5 ∧ 0 ≤ v ∧ v < S 11 0 ∧ S 0 v ≠ -2 ∧ S 0 v ≠ 3) ∨ (r1 = 1 ∧ ¬ (0 ≤ v ∧ v < S 11 0 ∧ S 0 v ≠ -2)) := by
    by_cases q : 0 ≤ v ∧ v < S 11 0 ∧ S 0 v ≠ -2
    · rw [if_pos q] at z1
      by_cases q3 : S 0 v = 3
      · rw [if_pos q3] at z1; exact Or.inl ⟨z1, by omega⟩
      · rw [if_neg q3] at z1; exact Or.inr (Or.inl ⟨z1, by omega⟩)
    · rw [if_neg q] at z1; exact Or.inr (Or.inr ⟨z1, q⟩)
  clear z1
  refine v8_269 dX8_went_6 rfl ⟨rfl, rfl⟩ ⟨rfl, rfl⟩ ct_X8_isRefused (fun r2 M2 N2 hr2 hq2 => ?_)
  obtain ⟨z2, rfl, rfl⟩ := hq2
  have z2 := bit_iff z2
  refine go_if_eq (tgt := 14) dX8_went_9 rfl (fun h9 => ?_) (fun h9 => ?_)
  · have e0 : r1 = 0 := by omega
    rw [e0]
    have hok : 0 ≤ v ∧ v < S 11 0 ∧ S 0 v = 3 := by omega
    refine go_aload_n dX8_went_14 rfl rfl ?_
    refine v8_349 dX8_went_15 rfl ⟨rfl, rfl⟩ ⟨rfl, rfl⟩ (ct_X8_laysPoint (rfM_Q hQ) hw) (fun M3 N3 hq3 => ?_)
    obtain ⟨g1, g2, rfl⟩ := hq3
    have p13 : (rfM M 0) (30, 0, 13) = M (30, 0, 13) := rfM_K.a 13 (by decide)
    rw [p13] at g1
    have hfr : F8 (rfM M 0) M3 := F8.of g2 (by decide) (by decide)
    refine go_aload_n dX8_went_18 rfl rfl ?_
    refine go_iload_n dX8_went_19 rfl ?_
    refine v8_355 dX8_went_20 rfl ⟨rfl, rfl⟩ ⟨rfl, rfl⟩ (ct_X8_wentOf (hfr.q (rfM_Q hQ)) hw (by omega) (by omega) (by omega) g1) (fun r4 M4 N4 hr4 hq4 => ?_)
    refine go_reti dX8_went_23 ?_
    obtain ⟨z4, rfl, rfl⟩ := hq4
    exact ⟨Or.inl ⟨hok, z4, hfr⟩, rfl⟩
  · refine go_iconst dX8_went_12 (R32_lit rfl) ?_
    refine go_reti dX8_went_13 ?_
    refine ⟨?_, rfl⟩
    rcases y1 with ⟨y, -⟩ | ⟨y, y2⟩ | ⟨y, y2⟩
    · exfalso; omega
    · exact Or.inr (Or.inl ⟨y2, rfl, by rw [y]⟩)
    · exact Or.inr (Or.inr ⟨y2, rfl, by rw [y]⟩)
set_option maxRecDepth 100000 in
set_option maxHeartbeats 4000000 in
theorem ct_X8_operand {E : Ev} {M : Mm} {N : Nn} {S : Pg} {v k : Int} (hQ : QR S M) : Ct E yX8_operand cX8_operand 3 ((some .int)) (rmH 4) [vr (29, 0, 0), vi v, vi k] M N (qi (fun r M1 N1 => ((0 ≤ v ∧ v < S 11 0 ∧ S 0 v ≠ -2 ∧ 0 ≤ k ∧ k < opn S v) ∧ r = S 8 (4 * v + k) ∧ M1 = rfM M 0 ∨ ¬ (0 ≤ v ∧ v < S 11 0 ∧ S 0 v ≠ -2 ∧ 0 ≤ k ∧ k < opn S v) ∧ r = -1 ∧ M1 = rfM M 1) ∧ N = N1)) := by
  refine ct_of (own := RX8) (L0 := [vr (29, 0, 0), vi v, vi k]) rfl (by decide +kernel) rfl rfl ?_
  have c0 := hQ.2.1
  have c5 := hQ.2.2.1
  have o4 := opn_le S v
  have og := opn_ge S v
  refine go_aload_n dX8_operand_0 rfl rfl ?_
  refine go_aload_n dX8_operand_1 rfl rfl ?_
  refine go_iload_n dX8_operand_2 rfl ?_
  refine v8_316 dX8_operand_3 rfl ⟨rfl, rfl⟩ ⟨rfl, rfl⟩ (ct_X8_isStep hQ) (fun r1 M1 N1 hr1 hq1 => ?_)
  obtain ⟨z1, rfl, rfl⟩ := hq1
  have z1 := bit_iff z1
  refine go_if_eq (tgt := 34) dX8_operand_6 rfl (fun h6 => ?_) (fun h6 => ?_)
  · refine go_iconst dX8_operand_34 (R32_lit rfl) ?_
    refine v8_292 dX8_operand_35 rfl ⟨rfl, rfl⟩ ⟨rfl, rfl⟩ ct_X8_unless (fun r4 M4 N4 hr4 hq4 => ?_)
    obtain ⟨z4, rfl, rfl⟩ := hq4
    have z4 := bit_iff z4
    refine v8_269 dX8_operand_38 rfl ⟨rfl, rfl⟩ ⟨rfl, rfl⟩ ct_X8_isRefused (fun r5 M5 N5 hr5 hq5 => ?_)
    obtain ⟨z5, rfl, rfl⟩ := hq5
    have z5 := bit_iff z5
    refine go_if_eq (tgt := 46) dX8_operand_41 rfl (fun h41 => ?_) (fun h41 => ?_)
    · have hok : 0 ≤ v ∧ v < S 11 0 ∧ S 0 v ≠ -2 ∧ 0 ≤ k ∧ k < opn S v := by omega
      have p1 := ((hQ.2.2.2.2 v (by omega) (by omega)).2.2.2 (by omega) k (by omega) (by omega)).1
      rw [Int.zero_add] at p1
      refine go_aload_n dX8_operand_46 rfl rfl ?_
      refine g8_31 dX8_operand_47 ?_
      refine go_iconst dX8_operand_50 (R32_lit rfl) ?_
      refine go_iload_n dX8_operand_51 rfl ?_
      refine go_imulc dX8_operand_52 ⟨by omega, by omega⟩ ?_
      refine go_iload_n dX8_operand_53 rfl ?_
      refine go_iaddc dX8_operand_54 ⟨by omega, by omega⟩ ?_
      refine go_iald dX8_operand_55 rfl (by omega) (by omega) ?_
      rw [rfM_K.a 11 (by decide), p1]
      refine go_reti dX8_operand_56 ?_
      exact ⟨Or.inl ⟨hok, rfl, by rw [show r4 = 0 by omega]⟩, rfl⟩
    · refine go_iconst dX8_operand_44 (R32_lit rfl) ?_
      refine go_reti dX8_operand_45 ?_
      exact ⟨Or.inr ⟨by omega, rfl, by rw [show r4 = 1 by omega]⟩, rfl⟩
  · refine go_iload_n dX8_operand_9 rfl ?_
    refine go_i2l dX8_operand_10 ?_
    refine go_lconst (x := 0) dX8_operand_11 rfl ?_
    refine go_aload_n dX8_operand_12 rfl rfl ?_
    refine g8_19 dX8_operand_13 ?_
    refine go_iload_n dX8_operand_16 rfl ?_
    refine go_iald dX8_operand_17 rfl (by omega) (by omega) ?_
    rw [hQ.srt (by omega) (by omega)]
    refine v8_319 dX8_operand_18 rfl ⟨rfl, rfl⟩ ⟨rfl, rfl⟩ ct_X8_operands (fun r2 M2 N2 hr2 hq2 => ?_)
    obtain ⟨z2, rfl, rfl⟩ := hq2
    have z2 : r2 = opn S v := by
      rw [z2]
      unfold opn
      by_cases q : S 0 v = 3
      · rw [if_pos q, if_pos q]
      · rw [if_neg q, if_neg q, if_neg (by omega)]
    refine go_iconst dX8_operand_21 (R32_lit rfl) ?_
    refine go_isubc dX8_operand_22 ⟨by omega, by omega⟩ ?_
    refine go_i2l dX8_operand_23 ?_
    refine v8_140 dX8_operand_24 rfl ⟨rfl, rfl⟩ ⟨rfl, rfl⟩ ct_X8_in (fun r3 M3 N3 hr3 hq3 => ?_)
    obtain ⟨z3, rfl, rfl⟩ := hq3
    have z3 := bit_iff z3
    refine go_if_eq (tgt := 34) dX8_operand_27 rfl (fun h27 => ?_) (fun h27 => ?_)
    · refine go_iconst dX8_operand_34 (R32_lit rfl) ?_
      refine v8_292 dX8_operand_35 rfl ⟨rfl, rfl⟩ ⟨rfl, rfl⟩ ct_X8_unless (fun r4 M4 N4 hr4 hq4 => ?_)
      obtain ⟨z4, rfl, rfl⟩ := hq4
      have z4 := bit_iff z4
      refine v8_269 dX8_operand_38 rfl ⟨rfl, rfl⟩ ⟨rfl, rfl⟩ ct_X8_isRefused (fun r5 M5 N5 hr5 hq5 => ?_)
      obtain ⟨z5, rfl, rfl⟩ := hq5
      have z5 := bit_iff z5
      refine go_if_eq (tgt := 46) dX8_operand_41 rfl (fun h41 => ?_) (fun h41 => ?_)
      · have hok : 0 ≤ v ∧ v < S 11 0 ∧ S 0 v ≠ -2 ∧ 0 ≤ k ∧ k < opn S v := by omega
        have p1 := ((hQ.2.2.2.2 v (by omega) (by omega)).2.2.2 (by omega) k (by omega) (by omega)).1
        rw [Int.zero_add] at p1
        refine go_aload_n dX8_operand_46 rfl rfl ?_
        refine g8_31 dX8_operand_47 ?_
        refine go_iconst dX8_operand_50 (R32_lit rfl) ?_
        refine go_iload_n dX8_operand_51 rfl ?_
        refine go_imulc dX8_operand_52 ⟨by omega, by omega⟩ ?_
        refine go_iload_n dX8_operand_53 rfl ?_
        refine go_iaddc dX8_operand_54 ⟨by omega, by omega⟩ ?_
        refine go_iald dX8_operand_55 rfl (by omega) (by omega) ?_
        rw [rfM_K.a 11 (by decide), p1]
        refine go_reti dX8_operand_56 ?_
        exact ⟨Or.inl ⟨hok, rfl, by rw [show r4 = 0 by omega]⟩, rfl⟩
      · refine go_iconst dX8_operand_44 (R32_lit rfl) ?_
        refine go_reti dX8_operand_45 ?_
        exact ⟨Or.inr ⟨by omega, rfl, by rw [show r4 = 1 by omega]⟩, rfl⟩
    · refine go_iconst dX8_operand_30 (R32_lit rfl) ?_
      refine go_goto (tgt := 35) dX8_operand_31 rfl ?_
      refine v8_292 dX8_operand_35 rfl ⟨rfl, rfl⟩ ⟨rfl, rfl⟩ ct_X8_unless (fun r4 M4 N4 hr4 hq4 => ?_)
      obtain ⟨z4, rfl, rfl⟩ := hq4
      have z4 := bit_iff z4
      refine v8_269 dX8_operand_38 rfl ⟨rfl, rfl⟩ ⟨rfl, rfl⟩ ct_X8_isRefused (fun r5 M5 N5 hr5 hq5 => ?_)
      obtain ⟨z5, rfl, rfl⟩ := hq5
      have z5 := bit_iff z5
      refine go_if_eq (tgt := 46) dX8_operand_41 rfl (fun h41 => ?_) (fun h41 => ?_)
      · have hok : 0 ≤ v ∧ v < S 11 0 ∧ S 0 v ≠ -2 ∧ 0 ≤ k ∧ k < opn S v := by omega
        have p1 := ((hQ.2.2.2.2 v (by omega) (by omega)).2.2.2 (by omega) k (by omega) (by omega)).1
        rw [Int.zero_add] at p1
        refine go_aload_n dX8_operand_46 rfl rfl ?_
        refine g8_31 dX8_operand_47 ?_
        refine go_iconst dX8_operand_50 (R32_lit rfl) ?_
        refine go_iload_n dX8_operand_51 rfl ?_
        refine go_imulc dX8_operand_52 ⟨by omega, by omega⟩ ?_
        refine go_iload_n dX8_operand_53 rfl ?_
        refine go_iaddc dX8_operand_54 ⟨by omega, by omega⟩ ?_
        refine go_iald dX8_operand_55 rfl (by omega) (by omega) ?_
        rw [rfM_K.a 11 (by decide), p1]
        refine go_reti dX8_operand_56 ?_
        exact ⟨Or.inl ⟨hok, rfl, by rw [show r4 = 0 by omega]⟩, rfl⟩
      · refine go_iconst dX8_operand_44 (R32_lit rfl) ?_
        refine go_reti dX8_operand_45 ?_
        exact ⟨Or.inr ⟨by omega, rfl, by rw [show r4 = 1 by omega]⟩, rfl⟩
