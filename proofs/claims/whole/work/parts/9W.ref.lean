/-- the grids of all steps -/
def gS (S : Pg) : Int := sumZ (fun v => if S 0 v ≠ -2 then S 4 v else 0) (S 11 0).toNat
theorem gS_le {S : Pg} : ∀ n : Nat, (∀ v : Int, 0 ≤ v → v < n → S 0 v ≠ -2 → 0 ≤ S 4 v ∧ S 4 v ≤ 8) → 0 ≤ sumZ (fun v => if S 0 v ≠ -2 then S 4 v else 0) n ∧ sumZ (fun v => if S 0 v ≠ -2 then S 4 v else 0) n ≤ 8 * cnS S n
  | 0, _ => by show (0 : Int) ≤ 0 ∧ (0 : Int) ≤ 8 * 0; decide
  | n + 1, h => by
    have ih := gS_le (S := S) n (fun v a b => h v a (by omega))
    have hn := h n (by omega) (by omega)
    show 0 ≤ _ + (if S 0 n ≠ -2 then S 4 n else 0) ∧ _ + (if S 0 n ≠ -2 then S 4 n else 0) ≤ 8 * (if S 0 n ≠ -2 then cnS S n + 1 else cnS S n)
    by_cases q : S 0 n = -2
    · rw [if_neg (fun z => z q), if_neg (fun z => z q)]; omega
    · rw [if_pos q, if_pos q]; have := hn q; omega
theorem sumZ_one {g g' : Int → Int} {s : Int} (s0 : 0 ≤ s) (h : ∀ i, i ≠ s → g' i = g i) (hs : g' s = g s - 1) : ∀ n : Nat, sumZ g' n = if s < n then sumZ g n - 1 else sumZ g n
  | 0 => by rw [if_neg (by omega)]; rfl
  | n + 1 => by
    have ih := sumZ_one s0 h hs n
    show sumZ g' n + g' n = if s < ((n + 1 : Nat) : Int) then sumZ g n + g n - 1 else sumZ g n + g n
    rw [ih]
    by_cases q : s = n
    · rw [if_neg (by omega), if_pos (by omega), ← q, hs]; omega
    · rw [h n (fun z => q z.symm)]
      by_cases t : s < n
      · rw [if_pos t, if_pos (by omega)]; omega
      · rw [if_neg t, if_neg (by omega)]
theorem fnA_gd {S : Pg} {s : Int} : fnA S s = gdA S s (S 4 s - 1) := by
  unfold fnA gdA fnP
  rw [pst_ne (by decide)]
theorem fnA_g {S : Pg} {s : Int} (h : fnO S s) : gS (fnA S s) = gS S - 1 := by
  obtain ⟨h1, h2, h3, h4⟩ := h
  have e0 : fnA S s 0 = S 0 := by rw [fnA_gd]; exact gdA_raw (by decide) (by decide) (by decide) (by decide)
  have e11 : fnA S s 11 = S 11 := by rw [fnA_gd]; exact gdA_raw (by decide) (by decide) (by decide) (by decide)
  unfold gS
  rw [e11, sumZ_one (g := fun v => if S 0 v ≠ -2 then S 4 v else 0) (s := s) h1, if_pos (by omega)]
  · intro i hi
    show (if fnA S s 0 i ≠ -2 then fnA S s 4 i else 0) = (if S 0 i ≠ -2 then S 4 i else 0)
    rw [e0, fnA_gd, gdA_4, if_neg hi]
  · show (if fnA S s 0 s ≠ -2 then fnA S s 4 s else 0) = (if S 0 s ≠ -2 then S 4 s else 0) - 1
    rw [e0, fnA_gd, gdA_4, if_pos rfl, if_pos h3, if_pos h3]
theorem blS_bd {S : Pg} {a : FV} {ν : Nu} : ∀ n : Nat, (blS S a ν n).1 = -2 ∨ (0 ≤ (blS S a ν n).1 ∧ (blS S a ν n).1 < n ∧ S 0 (blS S a ν n).1 ≠ -2)
  | 0 => Or.inl rfl
  | n + 1 => by
    have ih := blS_bd (S := S) (a := a) (ν := ν) n
    show (if S 0 n ≠ -2 ∧ (blS S a ν n).2 < ptS a ν n then ((n : Int), ptS a ν n) else blS S a ν n).1 = -2 ∨ (0 ≤ (if S 0 n ≠ -2 ∧ (blS S a ν n).2 < ptS a ν n then ((n : Int), ptS a ν n) else blS S a ν n).1 ∧ (if S 0 n ≠ -2 ∧ (blS S a ν n).2 < ptS a ν n then ((n : Int), ptS a ν n) else blS S a ν n).1 < ((n + 1 : Nat) : Int) ∧ S 0 (if S 0 n ≠ -2 ∧ (blS S a ν n).2 < ptS a ν n then ((n : Int), ptS a ν n) else blS S a ν n).1 ≠ -2)
    split
    · rename_i q
      exact Or.inr ⟨by show (0 : Int) ≤ n; omega, by show (n : Int) < _; omega, q.1⟩
    · rcases ih with i | ⟨i1, i2, i3⟩
      · exact Or.inl i
      · exact Or.inr ⟨i1, by omega, i3⟩
theorem fnS_s {v k i : Int} {n : Nat} {S : Pg} (h : 0 < n) : fnS v k n i S = if bdF S v ≤ k then i else if 0 ≤ blF S v ∧ blF S v < S 11 0 ∧ S 0 (blF S v) ≠ -2 ∧ S 4 (blF S v) ≠ 0 then fnS v k (n - 1) (i + 1) (fnA S (blF S v)) else -2 := by
  cases n with
  | zero => exact absurd h (by decide)
  | succ m => rfl
/-- what making finer needs of the reference, of all programs on the way -/
def FnR (Inv : Pg → Prop) (W : Int → Bool) (v : Int) : Prop := (∀ S, Inv S → WF S ∧ v < S 11 0 ∧ (∀ u, 0 ≤ u → u < S 11 0 → W u = true) ∧ (∀ u : Nat, (u : Int) < S 11 0 → NEq S (sK S W u).1 u) ∧ bdR ((sK S W (S 11 0).toNat).1 (15 + v.toNat)) = bdF S v ∧ (blS S ((sK S W (S 11 0).toNat).1 (15 + v.toNat)) (sK S W (S 11 0).toNat).2.1 (S 11 0).toNat).1 = blF S v) ∧ ∀ S s, Inv S → fnO S s → Inv (fnA S s)
set_option maxRecDepth 100000 in
set_option maxHeartbeats 4000000 in
theorem lp_X8_finerOf {E : Ev} {M : Mm} {N : Nn} {Inv : Pg → Prop} {W : Int → Bool} {v k C R0 : Int} {Q : Int → Mm → Nn → Prop} (hH : FnR Inv W v) (v0 : 0 ≤ v) (k0 : 0 ≤ k) (k1 : k ≤ 1000000) (hT : ∀ M3, Kr [34, 37, 42] [8, 28, 29, 33, 35, 36, 38, 39, 40, 41] M M3 → (∀ j, ¬ (0 ≤ j ∧ j < C) → M3 (30, 0, 8) j = M (30, 0, 8) j) → Q R0 M3 N) : ∀ (n : Nat) (i : Int) (S : Pg) (ψ : Int → FV) (M2 : Mm) (x4 : Vv), (gS S + 1 ≤ n) → (0 ≤ i) → (i + gS S ≤ 96) → (S 11 0 = C) → (Inv S) → (QR S M2) → (FQ M2 ψ (sK S W (S 11 0).toNat).2.1) → (∀ j : Nat, j < 30 → ψ (j : Int) = (sK S W (S 11 0).toNat).1 j) → (fnS v k n i S = R0) → (Kr [34, 37, 42] [8, 28, 29, 33, 35, 36, 38, 39, 40, 41] M M2) → (∀ j, ¬ (0 ≤ j ∧ j < C) → M2 (30, 0, 8) j = M (30, 0, 8) j) → Go E RX8 cX8_finerOf 5 ((some .int)) (rmH 9) 0 0 (zM E (qi Q)) 6 [vr (29, 0, 0), vi v, vi k, vi i, x4] [] M2 N := by
  intro n
  induction n using Nat.strongRecOn with
  | ind n ih =>
  intro i S ψ M2 x4 hn i0 i1 hC hI hQ hF hψ hR hf hE
  obtain ⟨w1, w2, w3, w4, w5, w6⟩ := hH.1 S hI
  have c5 := hQ.2.2.1
  have c0 := hQ.2.1
  have e15 : ψ (15 + v) = (sK S W (S 11 0).toNat).1 (15 + v.toNat) := by
    have := hψ (15 + v.toNat) (by omega)
    rw [show ((15 + v.toNat : Nat) : Int) = 15 + v by omega] at this
    exact this
  have g0 := (gS_le (S := S) (S 11 0).toNat (fun u a b q => ⟨((w1.2.2.2.2.2.2.1 u a (by omega)).1.2 q).2.2.1, ((w1.2.2.2.2.2.2.1 u a (by omega)).1.2 q).2.2.2.1⟩)).1
  have g0 : 0 ≤ gS S := g0
  have es := fnS_s (v := v) (k := k) (i := i) (S := S) (n := n) (by omega)
  refine go_aload_n dX8_finerOf_6 rfl rfl ?_
  refine go_iload_n dX8_finerOf_7 rfl ?_
  refine v8_435 dX8_finerOf_8 rfl ⟨rfl, rfl⟩ ⟨rfl, rfl⟩ (ct_X8_boundOf hF v0 (by omega)) (fun r1 M1 N1 hr1 hq1 => ?_)
  obtain ⟨z1, rfl, rfl⟩ := hq1
  rw [e15, w5] at z1
  subst z1
  refine go_iload_n dX8_finerOf_11 rfl ?_
  refine go_i2l dX8_finerOf_12 ?_
  refine go_lcmp_le (tgt := 65) dX8_finerOf_13 dX8_finerOf_14 rfl (fun h13 => ?_) (fun h13 => ?_)
  · refine go_iload_n dX8_finerOf_65 rfl ?_
    refine go_reti dX8_finerOf_66 ?_
    rw [if_pos (by omega)] at es
    have e : R0 = i := by rw [← hR, es]
    subst e
    exact hT _ hf hE
  · rw [if_neg (by omega)] at es
    have bb := blS_bd (S := S) (a := (sK S W (S 11 0).toNat).1 (15 + v.toNat)) (ν := (sK S W (S 11 0).toNat).2.1) (S 11 0).toNat
    refine go_aload_n dX8_finerOf_17 rfl rfl ?_
    refine go_iload_n dX8_finerOf_18 rfl ?_
    refine v8_442 dX8_finerOf_19 rfl ⟨rfl, rfl⟩ ⟨rfl, rfl⟩ (ct_X8_blamed hF v0 (by omega) hQ) (fun r2 M4 N4 hr2 hq2 => ?_)
    obtain ⟨z2, rfl, rfl⟩ := hq2
    rw [e15] at z2
    rw [← z2] at bb
    rw [w6] at z2
    refine go_ist4 dX8_finerOf_22 rfl rfl ?_
    refine go_iload dX8_finerOf_24 rfl ?_
    refine go_bipush dX8_finerOf_26 ⟨by decide, by decide⟩ ?_
    refine go_icmp_eq (tgt := 41) dX8_finerOf_28 rfl (fun h28 => ?_) (fun h28 => ?_)
    · refine go_bipush dX8_finerOf_41 ⟨by decide, by decide⟩ ?_
      refine go_reti dX8_finerOf_43 ?_
      have e : R0 = -2 := by
        rw [← hR, es, if_neg]
        rintro ⟨t1, t2, t3, t4⟩
        first
        | (rw [← z2] at t4; exact absurd t4 (by omega))
        | omega
      subst e
      exact hT _ hf hE
    · obtain ⟨b1, b2, b3⟩ := bb.resolve_left (fun q => by omega)
      have b2 : r2 < S 11 0 := by omega
      have g4 := (hQ.2.2.2.2 r2 b1 b2).2.1
      rw [Int.zero_add] at g4
      have gw := (w1.2.2.2.2.2.2.1 r2 b1 b2).1.2 b3
      refine go_aload_n dX8_finerOf_31 rfl rfl ?_
      refine g8_22 dX8_finerOf_32 ?_
      refine go_iload dX8_finerOf_35 rfl ?_
      refine go_iald dX8_finerOf_37 rfl (by omega) (by omega) ?_
      rw [g4]
      refine go_if_ne (tgt := 44) dX8_finerOf_38 rfl (fun h38 => ?_) (fun h38 => ?_)
      · refine go_aload_n dX8_finerOf_44 rfl rfl ?_
        refine g8_22 dX8_finerOf_45 ?_
        refine go_iload dX8_finerOf_48 rfl ?_
        refine go_dup2_ir dX8_finerOf_50 ?_
        refine go_iald dX8_finerOf_51 rfl (by omega) (by omega) ?_
        rw [g4]
        refine go_iconst dX8_finerOf_52 (R32_lit rfl) ?_
        refine go_isubc dX8_finerOf_53 ⟨by omega, by omega⟩ ?_
        refine go_iast dX8_finerOf_54 rfl (by omega) (by omega) ?_
        rw [← z2, if_pos ⟨b1, b2, b3, h38⟩] at es
        have hO : fnO S r2 := ⟨b1, b2, b3, h38⟩
        have gg := fnA_g hO
        have hI2 := hH.2 S r2 hI hO
        obtain ⟨v1, v2, v3, v4, v5, v6⟩ := hH.1 _ hI2
        have e11 : fnA S r2 11 0 = S 11 0 := by rw [fnA_gd, gdA_raw (by decide) (by decide) (by decide) (by decide)]
        refine go_nmM (fun Ma eMa => ?_)
        have hQa : QR (fnA S r2) Ma := by rw [eMa, fnA_gd]; exact QR_grid hQ
        have fa : Kr [34, 37, 42] [8, 28, 29, 33, 35, 36, 38, 39, 40, 41] M Ma := by rw [eMa]; exact hf.wa (by decide)
        have ea : ∀ j, ¬ (0 ≤ j ∧ j < C) → Ma (30, 0, 8) j = M (30, 0, 8) j := fun j hj => by
          rw [eMa, wr_nk (by omega)]; exact hE j hj
        clear eMa
        refine go_iinc3c dX8_finerOf_55 rfl rfl ⟨by omega, by omega⟩ ?_
        refine go_aload_n dX8_finerOf_58 rfl rfl ?_
        refine v8_299 dX8_finerOf_59 rfl ⟨rfl, rfl⟩ ⟨rfl, rfl⟩ (ct_X8_laysForms hQa v1 v3 v4) (fun M3 N3 hq3 => ?_)
        obtain ⟨ψ1, q1, q2, q3, q4, rfl⟩ := hq3
        refine go_goto (tgt := 6) dX8_finerOf_62 rfl ?_
        exact ih (n - 1) (by omega) (i + 1) (fnA S r2) ψ1 M3 _ (by omega) (by omega) (by omega) (by omega) hI2 (hQa.k q4 (by decide) (by decide) (by decide) (by decide) (by decide) (by decide) (by decide) (by decide)) q1 q2 (by rw [← es]; exact hR) (fa.tr (q4.up (by decide) (by decide))) (fun j hj => by rw [q4.a 8 (by decide)]; exact ea j hj)
      · refine go_bipush dX8_finerOf_41 ⟨by decide, by decide⟩ ?_
        refine go_reti dX8_finerOf_43 ?_
        have e : R0 = -2 := by
          rw [← hR, es, if_neg]
          rintro ⟨t1, t2, t3, t4⟩
          first
          | (rw [← z2] at t4; exact absurd t4 (by omega))
          | omega
        subst e
        exact hT _ hf hE
set_option maxRecDepth 100000 in
set_option maxHeartbeats 4000000 in
theorem ct_X8_finerOf {E : Ev} {M : Mm} {N : Nn} {S : Pg} {Inv : Pg → Prop} {W : Int → Bool} {v k : Int} (hQ : QR S M) (hI : Inv S) (hH : FnR Inv W v) (v0 : 0 ≤ v) (k0 : 0 ≤ k) (k1 : k ≤ 1000000) : Ct E yX8_finerOf cX8_finerOf 5 ((some .int)) (rmH 9) [vr (29, 0, 0), vi v, vi k] M N (qi (fun r M1 N1 => r = fnS v k 97 0 S ∧ Kr [34, 37, 42] [8, 28, 29, 33, 35, 36, 38, 39, 40, 41] M M1 ∧ (∀ j, ¬ (0 ≤ j ∧ j < S 11 0) → M1 (30, 0, 8) j = M (30, 0, 8) j) ∧ N = N1)) := by
  refine ct_of (own := RX8) (L0 := [vr (29, 0, 0), vi v, vi k, vn, vn]) rfl (by decide +kernel) rfl rfl ?_
  obtain ⟨w1, w2, w3, w4, w5, w6⟩ := hH.1 S hI
  have c5 := hQ.2.2.1
  have c0 := hQ.2.1
  have g0 := gS_le (S := S) (S 11 0).toNat (fun u a b q => ⟨((w1.2.2.2.2.2.2.1 u a (by omega)).1.2 q).2.2.1, ((w1.2.2.2.2.2.2.1 u a (by omega)).1.2 q).2.2.2.1⟩)
  have g1 := w1.2.2.2.2.1
  have g2 := w1.2.2.2.2.2.1
  have g0 : 0 ≤ gS S ∧ gS S ≤ 8 * cnS S (S 11 0).toNat := g0
  refine go_iconst dX8_finerOf_0 (R32_lit rfl) ?_
  refine go_ist3 dX8_finerOf_1 rfl rfl ?_
  refine go_aload_n dX8_finerOf_2 rfl rfl ?_
  refine v8_299 dX8_finerOf_3 rfl ⟨rfl, rfl⟩ ⟨rfl, rfl⟩ (ct_X8_laysForms hQ w1 w3 w4) (fun M3 N3 hq3 => ?_)
  obtain ⟨ψ, q1, q2, q3, q4, rfl⟩ := hq3
  exact lp_X8_finerOf (M := M) (C := S 11 0) (R0 := fnS v k 97 0 S) hH v0 k0 k1 (fun M4 f4 e4 => ⟨rfl, f4, e4, rfl⟩) 97 0 S ψ M3 _ (by omega) (by omega) (by omega) rfl hI (hQ.k q4 (by decide) (by decide) (by decide) (by decide) (by decide) (by decide) (by decide) (by decide)) q1 q2 rfl (q4.up (by decide) (by decide)) (fun j _ => by rw [q4.a 8 (by decide)])
set_option maxRecDepth 100000 in
set_option maxHeartbeats 4000000 in
theorem lpB_X8_finer {E : Ev} {M : Mm} {N : Nn} {S : Pg} {v k r : Int} {G : Int → Int} {Q : Int → Mm → Nn → Prop} (c6 : M (29, 0, 0) 6 = S 11 0) (c0 : 0 ≤ S 11 0) (c5 : S 11 0 ≤ 15) (hG : ∀ j, 0 ≤ j → j < S 11 0 → M (30, 0, 51) j = G j) (hT : ∀ M3, Kr [] [8] M M3 → M3 (30, 0, 8) = G → Q r M3 N) : ∀ (n : Nat) (i : Int) (M2 : Mm), (i + n = S 11 0) → (0 ≤ i) → (∀ j, ¬ (i ≤ j ∧ j < S 11 0) → M2 (30, 0, 8) j = G j) → (Kr [] [8] M M2) → Go E RX8 cX8_finer 5 ((some .int)) (rmH 10) 0 0 (zM E (qi Q)) 64 [vr (29, 0, 0), vi v, vi k, vi r, vi i] [] M2 N := by
  intro n
  induction n using Nat.strongRecOn with
  | ind n ih =>
  intro i M2 hn i0 hE hf
  refine go_iload dX8_finer_64 rfl ?_
  refine go_aload_n dX8_finer_66 rfl rfl ?_
  refine g8_259 dX8_finer_67 ?_
  rw [hf.s 6 (by decide), c6]
  refine go_icmp_ge (tgt := 93) dX8_finer_70 rfl (fun h70 => ?_) (fun h70 => ?_)
  · refine go_iload_n dX8_finer_93 rfl ?_
    refine go_reti dX8_finer_94 ?_
    exact hT _ hf (funext (fun j => hE j (by omega)))
  · refine go_aload_n dX8_finer_73 rfl rfl ?_
    refine g8_22 dX8_finer_74 ?_
    refine go_iload dX8_finer_77 rfl ?_
    refine go_aload_n dX8_finer_79 rfl rfl ?_
    refine g8_102 dX8_finer_80 ?_
    refine go_iload dX8_finer_83 rfl ?_
    refine go_iald dX8_finer_85 rfl (by omega) (by omega) ?_
    rw [hf.a 51 (by decide)]
    refine go_iast dX8_finer_86 rfl (by omega) (by omega) ?_
    refine go_iinc4c dX8_finer_87 rfl rfl ⟨by omega, by omega⟩ ?_
    refine go_goto (tgt := 64) dX8_finer_90 rfl ?_
    refine ih (n - 1) (by omega) (i + 1) _ (by omega) (by omega) ?_ (hf.wa (by decide))
    intro j hj
    by_cases z : j = i
    · rw [z, wr_eq]; exact hG i i0 (by omega)
    · rw [wr_nk z]; exact hE j (by omega)
set_option maxRecDepth 100000 in
set_option maxHeartbeats 4000000 in
theorem lpA_X8_finer {E : Ev} {M : Mm} {N : Nn} {S : Pg} {Inv : Pg → Prop} {W : Int → Bool} {v k : Int} {Q : Int → Mm → Nn → Prop} (hQ : QR S M) (hI : Inv S) (hH : FnR Inv W v) (hv : (0 ≤ v ∧ v < S 11 0)) (hk : (0 ≤ k ∧ k ≤ 1000000)) (hT : ∀ M3, Kr [34, 37, 42] [51, 28, 29, 33, 35, 36, 38, 39, 40, 41] M M3 → Q (fnS v k 97 0 S) M3 N) : ∀ (n : Nat) (i : Int) (M2 : Mm), (i + n = S 11 0) → (0 ≤ i) → (∀ j, 0 ≤ j → j < i → M2 (30, 0, 51) j = M (30, 0, 8) j) → (Kr [] [51] M M2) → Go E RX8 cX8_finer 5 ((some .int)) (rmH 10) 0 0 (zM E (qi Q)) 28 [vr (29, 0, 0), vi v, vi k, vi i, vn] [] M2 N := by
  intro n
  induction n using Nat.strongRecOn with
  | ind n ih =>
  intro i M2 hn i0 hA hf
  have c6 := hQ.1
  have c5 := hQ.2.2.1
  have c0 := hQ.2.1
  refine go_iload_n dX8_finer_28 rfl ?_
  refine go_aload_n dX8_finer_29 rfl rfl ?_
  refine g8_259 dX8_finer_30 ?_
  rw [hf.s 6 (by decide), c6]
  refine go_icmp_ge (tgt := 54) dX8_finer_33 rfl (fun h33 => ?_) (fun h33 => ?_)
  · refine go_aload_n dX8_finer_54 rfl rfl ?_
    refine go_iload_n dX8_finer_55 rfl ?_
    refine go_iload_n dX8_finer_56 rfl ?_
    refine v8_509 dX8_finer_57 rfl ⟨rfl, rfl⟩ ⟨rfl, rfl⟩ (ct_X8_finerOf (Inv := Inv) (hQ.k hf (by decide) (by decide) (by decide) (by decide) (by decide) (by decide) (by decide) (by decide)) hI hH hv.1 hk.1 hk.2) (fun r3 M3 N3 hr3 hq3 => ?_)
    obtain ⟨q1, q2, q3, rfl⟩ := hq3
    have e51 : M3 (30, 0, 51) = M2 (30, 0, 51) := q2.a 51 (by decide)
    refine go_ist3 dX8_finer_60 rfl rfl ?_
    refine go_iconst dX8_finer_61 (R32_lit rfl) ?_
    refine go_ist4 dX8_finer_62 rfl rfl ?_
    subst q1
    refine lpB_X8_finer (S := S) (M := M3) (G := M (30, 0, 8)) (by rw [q2.s 6 (by decide), hf.s 6 (by decide)]; exact c6) c0 c5 (fun j j0 j1 => by rw [e51]; exact hA j j0 (by omega)) (fun M4 f4 e4 => ?_) (S 11 0).toNat 0 M3 (by omega) (by omega) (fun j hj => by rw [q3 j hj, hf.a 8 (by decide)]) Kr.rf
    have f5 := (hf.up (K' := [34, 37, 42]) (A' := [51, 8, 28, 29, 33, 35, 36, 38, 39, 40, 41]) (by decide) (by decide)).tr ((q2.up (by decide) (by decide)).tr (f4.up (by decide) (by decide)))
    refine hT _ ⟨fun n a b => ?_, f5.2⟩
    by_cases z : n = (30, 0, 8)
    · rw [z]; exact e4
    · refine f5.1 n a (fun f hf => ?_)
      by_cases y : f = 8
      · rw [y]; exact z
      · refine b f ?_
        simp only [List.mem_cons, List.not_mem_nil, or_false] at hf ⊢
        omega
  · refine go_aload_n dX8_finer_36 rfl rfl ?_
    refine g8_102 dX8_finer_37 ?_
    refine go_iload_n dX8_finer_40 rfl ?_
    refine go_aload_n dX8_finer_41 rfl rfl ?_
    refine g8_22 dX8_finer_42 ?_
    refine go_iload_n dX8_finer_45 rfl ?_
    refine go_iald dX8_finer_46 rfl (by omega) (by omega) ?_
    rw [hf.a 8 (by decide)]
    refine go_iast dX8_finer_47 rfl (by omega) (by omega) ?_
    refine go_iinc3c dX8_finer_48 rfl rfl ⟨by omega, by omega⟩ ?_
    refine go_goto (tgt := 28) dX8_finer_51 rfl ?_
    refine ih (n - 1) (by omega) (i + 1) _ (by omega) (by omega) ?_ (hf.wa (by decide))
    intro j j0 j1
    by_cases z : j = i
    · rw [z, wr_eq]
    · rw [wr_nk z]; exact hA j j0 (by omega)
set_option maxRecDepth 100000 in
set_option maxHeartbeats 4000000 in
theorem ct_X8_finer {E : Ev} {M : Mm} {N : Nn} {S : Pg} {Inv : Pg → Prop} {W : Int → Bool} {v k : Int} (hQ : QR S M) (hI : 0 ≤ v → v < S 11 0 → Inv S) (hH : 0 ≤ v → v < S 11 0 → FnR Inv W v) : Ct E yX8_finer cX8_finer 5 ((some .int)) (rmH 10) [vr (29, 0, 0), vi v, vi k] M N (qi (fun r M1 N1 => (((0 ≤ v ∧ v < S 11 0) ∧ (0 ≤ k ∧ k ≤ 1000000)) ∧ r = fnS v k 97 0 S ∧ F8 (rfM M 0) M1 ∨ ((0 ≤ v ∧ v < S 11 0) ∧ ¬ (0 ≤ k ∧ k ≤ 1000000)) ∧ r = -1 ∧ F8 (rfM M 2) M1 ∨ ¬ (0 ≤ v ∧ v < S 11 0) ∧ r = -1 ∧ F8 (rfM M 1) M1) ∧ N = N1)) := by
  refine ct_of (own := RX8) (L0 := [vr (29, 0, 0), vi v, vi k, vn, vn]) rfl (by decide +kernel) rfl rfl ?_
  have c6 := hQ.1
  have c5 := hQ.2.2.1
  have c0 := hQ.2.1
  refine go_aload_n dX8_finer_0 rfl rfl ?_
  refine go_aload_n dX8_finer_1 rfl rfl ?_
  refine go_iload_n dX8_finer_2 rfl ?_
  refine v8_285 dX8_finer_3 rfl ⟨rfl, rfl⟩ ⟨rfl, rfl⟩ (ct_X8_isVariable hQ) (fun r1 M1 N1 hr1 hq1 => ?_)
  obtain ⟨z1, rfl, rfl⟩ := hq1
  have z1 := bit_iff z1
  refine go_iload_n dX8_finer_6 rfl ?_
  refine go_i2l dX8_finer_7 ?_
  refine go_lconst (x := 0) dX8_finer_8 rfl ?_
  refine c8_257 dX8_finer_9 ?_
  refine v8_140 dX8_finer_12 rfl ⟨rfl, rfl⟩ ⟨rfl, rfl⟩ ct_X8_in (fun r3 M3 N3 hr3 hq3 => ?_)
  obtain ⟨z3, rfl, rfl⟩ := hq3
  have z3 := bit_iff z3
  refine v8_346 dX8_finer_15 rfl ⟨rfl, rfl⟩ ⟨rfl, rfl⟩ ct_X8_unless_ (fun r4 M4 N4 hr4 hq4 => ?_)
  obtain ⟨z4, rfl, rfl⟩ := hq4
  have z4 := u2_cs z4
  refine v8_269 dX8_finer_18 rfl ⟨rfl, rfl⟩ ⟨rfl, rfl⟩ ct_X8_isRefused (fun r5 M5 N5 hr5 hq5 => ?_)
  obtain ⟨z5, rfl, rfl⟩ := hq5
  have z5 := bit_iff z5
  refine go_if_eq (tgt := 26) dX8_finer_21 rfl (fun h21 => ?_) (fun h21 => ?_)
  · have hv : (0 ≤ v ∧ v < S 11 0) := by omega
    have hk : (0 ≤ k ∧ k ≤ 1000000) := by omega
    rw [show r4 = 0 by omega]
    have Q0 := rfM_Q (k := 0) hQ
    refine go_iconst dX8_finer_26 (R32_lit rfl) ?_
    refine go_ist3 dX8_finer_27 rfl rfl ?_
    exact lpA_X8_finer (M := rfM M 0) (Inv := Inv) Q0 (hI hv.1 hv.2) (hH hv.1 hv.2) hv hk (fun M3 f3 => ⟨Or.inl ⟨⟨hv, hk⟩, rfl, F8.of f3 (by decide) (by decide)⟩, rfl⟩) (S 11 0).toNat 0 _ (by omega) (by omega) (fun j j0 j1 => absurd j1 (by omega)) Kr.rf
  · refine go_iconst dX8_finer_24 (R32_lit rfl) ?_
    refine go_reti dX8_finer_25 ?_
    rcases z4 with ⟨y, e⟩ | ⟨y, g, e⟩ | ⟨y, g, e⟩
    · rw [e]; exact ⟨Or.inr (Or.inr ⟨by omega, rfl, F8.rf⟩), rfl⟩
    · rw [e]; exact ⟨Or.inr (Or.inl ⟨by omega, rfl, F8.rf⟩), rfl⟩
    · omega
