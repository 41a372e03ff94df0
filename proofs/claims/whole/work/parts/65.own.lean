theorem Cl2.clo {S : Pg} {W : Int → Bool} (h : Cl2 S W) : Clo S W := fun v v0 v1 hs hw k k0 k1 q _ => h v v0 v1 hs hw k k0 k1 q
/-- pieces that may be split -/
def PcO (S : Pg) (a : Int) (c : Pc) : Prop := 1 ≤ c.2.2.2.1 ∧ c.2.2.2.1 ≤ 81 ∧ 0 ≤ c.2.2.2.2.1 ∧ c.2.2.2.1 = 1 + 2 * c.2.2.2.2.1 ∧ c.2.2.2.2.2 = a ∧ ∀ j, 0 ≤ j → j < c.2.2.2.1 → rgO S c.1 c.2.1 (j * 3)
theorem rgO.congr {S : Pg} {lo hi lo' hi' : Int → Int} {b : Int} (h : rgO S lo hi b) (hl : ∀ i, 0 ≤ i → i < S 12 0 → lo' (b + i) = lo (b + i) ∧ hi' (b + i) = hi (b + i)) : rgO S lo' hi' b := fun i i0 i1 => by
  rw [(hl i i0 i1).1, (hl i i0 i1).2]; exact h i i0 i1
theorem PcO.sp {S : Pg} {a : Int} {c : Pc} (n0 : 0 ≤ S 12 0) (n1 : S 12 0 ≤ 3) (h : PcO S a c) (hz : ¬ spZ S c) : PcO S a (spS S c) := by
  obtain ⟨h1, h2, h3, h4, h5, h6⟩ := h
  have hwb := wpS_bd c.2.2.1 c.2.2.2.1.toNat
  have hw0 : 0 ≤ spW c ∧ spW c < c.2.2.2.1 := by unfold spW; omega
  have hib := wdS_bd c.1 c.2.1 (spW c * 3) (S 12 0).toNat
  have hi0 : 0 ≤ spI S c ∧ spI S c < S 12 0 := by
    unfold spZ at hz
    unfold spI at hz ⊢
    omega
  have hm2 : c.2.2.2.1 + 2 ≤ 81 := by unfold spZ at hz; omega
  have hbw := h6 (spW c) hw0.1 hw0.2
  have hmx : c.1 (spW c * 3 + spI S c) ≤ spM S c ∧ spM S c ≤ c.2.1 (spW c * 3 + spI S c) := mid_bd (hbw (spI S c) hi0.1 hi0.2).2.1
  have hold : rgO S (spA S c).1 (spA S c).2.1 (spW c * 3) := spA_old n1 hw0.2 hbw hi0.1
  have hmy : (spA S c).1 (spW c * 3 + spI S c) ≤ spM S c ∧ spM S c ≤ (spA S c).2.1 (spW c * 3 + spI S c) := by
    show cpR c.1 _ (c.2.2.2.1 * 3) _ ≤ _ ∧ _ ≤ upI (cpR c.2.1 _ (c.2.2.2.1 * 3)) (c.2.2.2.1 * 3 + spI S c) _ _
    rw [upI_out (by omega), cpR_out (by omega), cpR_out (by omega)]
    exact hmx
  refine ⟨?_, ?_, ?_, ?_, h5, fun j j0 j1 => ?_⟩
  · show 1 ≤ c.2.2.2.1 + 1 + 1; omega
  · show c.2.2.2.1 + 1 + 1 ≤ 81; omega
  · show 0 ≤ c.2.2.2.2.1 + 1; omega
  · show c.2.2.2.1 + 1 + 1 = 1 + 2 * (c.2.2.2.2.1 + 1); omega
  · have j1 : j < c.2.2.2.1 + 1 + 1 := j1
    show rgO S (upI (cpR (spA S c).1 (spW c * 3) ((c.2.2.2.1 + 1) * 3)) ((c.2.2.2.1 + 1) * 3 + spI S c) (spM S c)) (cpR (spA S c).2.1 (spW c * 3) ((c.2.2.2.1 + 1) * 3)) (j * 3)
    by_cases e : j = c.2.2.2.1 + 1
    · rw [e]; exact rgO.b hold n1 hmy
    · have hA : rgO S (spA S c).1 (spA S c).2.1 (j * 3) := by
        by_cases e2 : j = c.2.2.2.1
        · rw [e2]; exact rgO.a hbw n1 hmx
        · exact spA_old n1 (by omega) (h6 j j0 (by omega)) hi0.1
      exact hA.congr (fun i i0 i1 => ⟨by rw [upI_out (by omega), cpR_out (by omega)], by rw [cpR_out (by omega)]⟩)
/-- the pieces of a question, before any split -/
def PcB (S : Pg) (a : Int) (c : Pc) : Prop := ∃ lo hi bd : Int → Int, (∀ i, 0 ≤ i → i < S 12 0 → lo i = S 2 (S 10 i) ∧ hi i = S 3 (S 10 i)) ∧ c = (lo, hi, upI bd 0 (bdF S a), 1, 0, a)
theorem PcB.o {S : Pg} {a : Int} {c : Pc} (h : PcB S a c) (hc : RC S) : PcO S a c := by
  obtain ⟨lo, hi, bd, hl, rfl⟩ := h
  refine ⟨Int.le_refl 1, by show (1 : Int) ≤ 81; decide, Int.le_refl 0, rfl, rfl, fun j j0 j1 => ?_⟩
  have j1 : j < 1 := j1
  have e : j = 0 := by omega
  subst e
  intro i i0 i1
  show -1000 ≤ lo (0 * 3 + i) ∧ lo (0 * 3 + i) ≤ hi (0 * 3 + i) ∧ hi (0 * 3 + i) ≤ 1000
  rw [show (0 : Int) * 3 + i = i by omega, (hl i i0 i1).1, (hl i i0 i1).2]
  exact (hc.2.2.2.2.2.1 i i0 i1).2.2
def gB (c : Pc) : Int := c.2.2.1 (wpS c.2.2.1 c.2.2.2.1.toNat)
/-- split, at most so often -/
def spN (S : Pg) : Nat → Pc → Pc
  | 0, c => c
  | k + 1, c => if spI S c = -1 ∨ 81 < c.2.2.2.1 + 2 then c else spN S k (spS S c)
def slS (S : Pg) (lim : Int) : Nat → Int → Pc → Int
  | 0, n, c => if gB c ≤ lim then n else -2
  | k + 1, n, c => if gB c ≤ lim then n else if spI S c = -1 ∨ 81 < c.2.2.2.1 + 2 then -2 else slS S lim k (n + 1) (spS S c)
/-- what splitting needs -/
def SpH (S : Pg) : Prop := RC S ∧ (∀ v, 0 ≤ v → v < S 11 0 → SkH S v) ∧ ∀ lo hi b, rgO S lo hi b → RC (rgS S lo hi b (S 12 0).toNat)
theorem hasF.tr {M : Mm} {k : Int} (h : hasF M) : hasF (wr M (3, 0, 0) 9 k) := h.fr (fun a b a0 a1 => wr_nf (nm_ne1 (by omega)))
set_option maxRecDepth 100000 in
set_option maxHeartbeats 4000000 in
theorem lp_X7_split {E : Ev} {M : Mm} {N : Nn} {p : Nat} {v k w : Int} (hC : N (3, 0, 0) 6 = (18, p, 0)) (hc : (pgC M p) 11 0 ≤ 15) (hp : p ≠ 0) (hF : hasF M) (hH : SpH (pgC M p)) (v0 : 0 ≤ v) (v1 : v < (pgC M p) 11 0) (k0 : 0 ≤ k) (k1 : k ≤ 40) (w0 : 0 ≤ w) (w1 : w ≤ 1) {c0 : Pc} (hB : PcB (pgC M p) v c0) : ∀ (n : Nat) (i m : Int) (c : Pc) (M' : Mm) (N' : Nn), (i + n = k) → (0 ≤ i) → (PcM M' c) → (PcO (pgC M p) v c) → (Rn (pgC M p) (pgC M' 0)) → (hasF M') → (Kf (tr M 0) M') → (Nf 1 N N') → (m ≠ 0 → spN (pgC M p) n c = spN (pgC M p) k.toNat c0) → (m = 0 → c = spN (pgC M p) k.toNat c0) → Go E RX7 cX7_split 6 ((some .long)) (rmH 9) 0 0 (zM E (ql (fun r M1 N1 => ((0 ≤ v ∧ v < (pgC M p) 11 0 ∧ 0 ≤ w ∧ w ≤ 1 ∧ 0 ≤ k ∧ k ≤ 40) ∧ (∃ c0, PcB (pgC M p) v c0 ∧ r = (if w = 0 then gB (spN (pgC M p) k.toNat c0) else 1 + (spN (pgC M p) k.toNat c0).2.2.2.2.1)) ∧ Kf (tr M 0) M1 ∧ hasF M1 ∧ Nf 1 N N1 ∨ (0 ≤ v ∧ v < (pgC M p) 11 0 ∧ 0 ≤ w ∧ w ≤ 1 ∧ ¬ (0 ≤ k ∧ k ≤ 40)) ∧ r = -9223372036854775808 ∧ M1 = tr M 2 ∧ N = N1 ∨ ¬ (0 ≤ v ∧ v < (pgC M p) 11 0 ∧ 0 ≤ w ∧ w ≤ 1) ∧ r = -9223372036854775808 ∧ M1 = tr M 1 ∧ N = N1)))) 65 [vr (3, 0, 0), vi v, vi k, vi w, vi m, vi i] [] M' N' := by
  intro n
  induction n using Nat.strongRecOn with
  | ind n ih =>
  intro i m c M' N' hn h0 hP hO hR hF' hKf hN he he0
  obtain ⟨hc, hK, hRC⟩ := id hH
  obtain ⟨o1, o2, o3, o4, o5, o6⟩ := id hO
  have hkv := hK v v0 v1
  obtain ⟨p1, p2, p3, p4, p5, p6⟩ := id hP
  have hn0 := hc.2.2.1
  have hn1 := hc.2.2.2.1
  have es : 0 < n → spN (pgC M p) n c = if spI (pgC M p) c = -1 ∨ 81 < c.2.2.2.1 + 2 then c else spN (pgC M p) (n - 1) (spS (pgC M p) c) := fun z => by
    have e : n = (n - 1) + 1 := by omega
    rw [e]; rfl
  refine go_iload dX7_split_65 rfl ?_
  refine go_iload_n dX7_split_67 rfl ?_
  refine go_icmp_ge (tgt := 91) dX7_split_68 rfl (fun h68 => ?_) (fun h68 => ?_)
  · have hcc : spN (pgC M p) k.toNat c0 = c := by
      by_cases m0 : m = 0
      · exact (he0 m0).symm
      · have e0 : n = 0 := by omega
        have := he m0
        rw [e0] at this
        exact this.symm
    refine go_iload_n dX7_split_91 rfl ?_
    refine go_if_ne (tgt := 105) dX7_split_92 rfl (fun h92 => ?_) (fun h92 => ?_)
    · refine go_aload_n dX7_split_105 rfl rfl ?_
      refine g7_36 dX7_split_106 ?_
      refine v7_238 dX7_split_109 rfl ⟨rfl, rfl⟩ ⟨rfl, rfl⟩ (ct_X2_living (by omega) (by omega)) (fun r3 M3 N3 hr3 hq3 => ?_)
      obtain ⟨y1, rfl, rfl⟩ := hq3
      refine go_i2l dX7_split_112 ?_
      refine go_retl dX7_split_113 ?_
      refine Or.inl ⟨by omega, ⟨c0, hB, ?_⟩, hKf, hF', hN⟩
      rw [hcc]
      first
      | (rw [if_pos (by omega)]; unfold gB; rw [← p3, ← p4]; exact y1)
      | (rw [if_neg (by omega), ← p5]; exact y1)
    · refine go_aload_n dX7_split_95 rfl rfl ?_
      refine g7_36 dX7_split_96 ?_
      refine v7_235 dX7_split_99 rfl ⟨rfl, rfl⟩ ⟨rfl, rfl⟩ (ct_X2_greatestBound (by omega) (by omega)) (fun r2 M2 N2 hr2 hq2 => ?_)
      obtain ⟨y1, rfl, rfl⟩ := hq2
      refine go_goto (tgt := 113) dX7_split_102 rfl ?_
      refine go_retl dX7_split_113 ?_
      refine Or.inl ⟨by omega, ⟨c0, hB, ?_⟩, hKf, hF', hN⟩
      rw [hcc]
      first
      | (rw [if_pos (by omega)]; unfold gB; rw [← p3, ← p4]; exact y1)
      | (rw [if_neg (by omega), ← p5]; exact y1)
  · refine go_iload dX7_split_71 rfl ?_
    refine go_if_eq (tgt := 91) dX7_split_73 rfl (fun h73 => ?_) (fun h73 => ?_)
    · have hcc : spN (pgC M p) k.toNat c0 = c := by
        by_cases m0 : m = 0
        · exact (he0 m0).symm
        · have e0 : n = 0 := by omega
          have := he m0
          rw [e0] at this
          exact this.symm
      refine go_iload_n dX7_split_91 rfl ?_
      refine go_if_ne (tgt := 105) dX7_split_92 rfl (fun h92 => ?_) (fun h92 => ?_)
      · refine go_aload_n dX7_split_105 rfl rfl ?_
        refine g7_36 dX7_split_106 ?_
        refine v7_238 dX7_split_109 rfl ⟨rfl, rfl⟩ ⟨rfl, rfl⟩ (ct_X2_living (by omega) (by omega)) (fun r3 M3 N3 hr3 hq3 => ?_)
        obtain ⟨y1, rfl, rfl⟩ := hq3
        refine go_i2l dX7_split_112 ?_
        refine go_retl dX7_split_113 ?_
        refine Or.inl ⟨by omega, ⟨c0, hB, ?_⟩, hKf, hF', hN⟩
        rw [hcc]
        first
        | (rw [if_pos (by omega)]; unfold gB; rw [← p3, ← p4]; exact y1)
        | (rw [if_neg (by omega), ← p5]; exact y1)
      · refine go_aload_n dX7_split_95 rfl rfl ?_
        refine g7_36 dX7_split_96 ?_
        refine v7_235 dX7_split_99 rfl ⟨rfl, rfl⟩ ⟨rfl, rfl⟩ (ct_X2_greatestBound (by omega) (by omega)) (fun r2 M2 N2 hr2 hq2 => ?_)
        obtain ⟨y1, rfl, rfl⟩ := hq2
        refine go_goto (tgt := 113) dX7_split_102 rfl ?_
        refine go_retl dX7_split_113 ?_
        refine Or.inl ⟨by omega, ⟨c0, hB, ?_⟩, hKf, hF', hN⟩
        rw [hcc]
        first
        | (rw [if_pos (by omega)]; unfold gB; rw [← p3, ← p4]; exact y1)
        | (rw [if_neg (by omega), ← p5]; exact y1)
    · refine go_aload_n dX7_split_76 rfl rfl ?_
      refine g7_36 dX7_split_77 ?_
      refine v7_231 dX7_split_80 rfl ⟨rfl, rfl⟩ ⟨rfl, rfl⟩ (ct_X2_splitWorst hR hP hF' o1 o2 o3 (by omega) hn0 hn1 o6 hRC (by rw [o5]; exact hkv.2.1.clo) (by omega) (by omega) (Or.inr (by rw [o5]; exact hkv.2.2.1))) (fun r1 M1 N1 hr1 hq1 => ?_)
      obtain ⟨y1, y2, y3, y4, y5⟩ := hq1
      refine go_ist4 dX7_split_83 rfl rfl ?_
      refine go_iinc5c dX7_split_85 rfl rfl ⟨by omega, by omega⟩ ?_
      refine go_goto (tgt := 65) dX7_split_88 rfl ?_
      have hn' : 0 < n := by omega
      have es := es hn'
      rcases y1 with ⟨q1, q2, q3⟩ | ⟨q1, q2, q3⟩
      · have q1' : spI (pgC M p) c = -1 ∨ 81 < c.2.2.2.1 + 2 := q1
        rw [if_pos q1'] at es
        exact ih (n - 1) (by omega) (i + 1) r1 c M1 N1 (by omega) (by omega) q3 hO y2 y3 (hKf.tr y4) (hN.tr y5) (fun z => absurd q2 z) (fun _ => by
          rw [← he (by omega), es])
      · have q1' : ¬ (spI (pgC M p) c = -1 ∨ 81 < c.2.2.2.1 + 2) := q1
        rw [if_neg q1'] at es
        exact ih (n - 1) (by omega) (i + 1) r1 (spS (pgC M p) c) M1 N1 (by omega) (by omega) q3 (hO.sp hn0 hn1 q1) y2 y3 (hKf.tr y4) (hN.tr y5) (by
          intro _
          rw [← es]; exact he (by omega)) (by intro z; exact absurd z (by omega))
set_option maxRecDepth 100000 in
set_option maxHeartbeats 4000000 in
theorem ct_X7_split {E : Ev} {M : Mm} {N : Nn} {p : Nat} {v k w : Int} (hC : N (3, 0, 0) 6 = (18, p, 0)) (hc : (pgC M p) 11 0 ≤ 15) (hp : p ≠ 0) (hF : hasF M) (hH : SpH (pgC M p)) : Ct E yX7_split cX7_split 6 ((some .long)) (rmH 9) [vr (3, 0, 0), vi v, vi k, vi w] M N (ql (fun r M1 N1 => ((0 ≤ v ∧ v < (pgC M p) 11 0 ∧ 0 ≤ w ∧ w ≤ 1 ∧ 0 ≤ k ∧ k ≤ 40) ∧ (∃ c0, PcB (pgC M p) v c0 ∧ r = (if w = 0 then gB (spN (pgC M p) k.toNat c0) else 1 + (spN (pgC M p) k.toNat c0).2.2.2.2.1)) ∧ Kf (tr M 0) M1 ∧ hasF M1 ∧ Nf 1 N N1 ∨ (0 ≤ v ∧ v < (pgC M p) 11 0 ∧ 0 ≤ w ∧ w ≤ 1 ∧ ¬ (0 ≤ k ∧ k ≤ 40)) ∧ r = -9223372036854775808 ∧ M1 = tr M 2 ∧ N = N1 ∨ ¬ (0 ≤ v ∧ v < (pgC M p) 11 0 ∧ 0 ≤ w ∧ w ≤ 1) ∧ r = -9223372036854775808 ∧ M1 = tr M 1 ∧ N = N1))) := by
  refine ct_of (own := RX7) (L0 := [vr (3, 0, 0), vi v, vi k, vi w, vn, vn]) rfl (by decide +kernel) rfl rfl ?_
  refine go_aload_n dX7_split_0 rfl rfl ?_
  refine g7_50 dX7_split_1 ?_
  rw [hC]
  refine go_iload_n dX7_split_4 rfl ?_
  refine v7_118 dX7_split_5 rfl ⟨rfl, rfl⟩ ⟨rfl, rfl⟩ ct_X3_has (fun r1 M1 N1 hr1 hq1 => ?_)
  obtain ⟨e1, rfl, rfl⟩ := hq1
  have z1 := b1_iff e1
  refine go_if_eq (tgt := 20) dX7_split_8 rfl (fun h8 => ?_) (fun h8 => ?_)
  · refine go_aload_n dX7_split_20 rfl rfl ?_
    refine go_iconst dX7_split_21 (R32_lit rfl) ?_
    refine v7_122 dX7_split_22 rfl ⟨rfl, rfl⟩ ⟨rfl, rfl⟩ ct_X7_nothing (fun r9 M9 N9 hr9 hq9 => ?_)
    refine go_retl dX7_split_25 ?_
    obtain ⟨y1, y2, rfl⟩ := hq9
    exact Or.inr (Or.inr (⟨by omega, y1, y2, rfl⟩))
  · refine go_iload_n dX7_split_11 rfl ?_
    refine go_if_lt (tgt := 20) dX7_split_12 rfl (fun h12 => ?_) (fun h12 => ?_)
    · refine go_aload_n dX7_split_20 rfl rfl ?_
      refine go_iconst dX7_split_21 (R32_lit rfl) ?_
      refine v7_122 dX7_split_22 rfl ⟨rfl, rfl⟩ ⟨rfl, rfl⟩ ct_X7_nothing (fun r9 M9 N9 hr9 hq9 => ?_)
      refine go_retl dX7_split_25 ?_
      obtain ⟨y1, y2, rfl⟩ := hq9
      exact Or.inr (Or.inr (⟨by omega, y1, y2, rfl⟩))
    · refine go_iload_n dX7_split_15 rfl ?_
      refine go_iconst dX7_split_16 (R32_lit rfl) ?_
      refine go_icmp_le (tgt := 26) dX7_split_17 rfl (fun h17 => ?_) (fun h17 => ?_)
      · refine go_iload_n dX7_split_26 rfl ?_
        refine go_if_lt (tgt := 36) dX7_split_27 rfl (fun h27 => ?_) (fun h27 => ?_)
        · refine go_aload_n dX7_split_36 rfl rfl ?_
          refine go_iconst dX7_split_37 (R32_lit rfl) ?_
          refine v7_122 dX7_split_38 rfl ⟨rfl, rfl⟩ ⟨rfl, rfl⟩ ct_X7_nothing (fun r9 M9 N9 hr9 hq9 => ?_)
          refine go_retl dX7_split_41 ?_
          obtain ⟨y1, y2, rfl⟩ := hq9
          exact Or.inr (Or.inl ⟨by omega, y1, y2, rfl⟩)
        · refine go_iload_n dX7_split_30 rfl ?_
          refine go_bipush dX7_split_31 ⟨by decide, by decide⟩ ?_
          refine go_icmp_le (tgt := 42) dX7_split_33 rfl (fun h33 => ?_) (fun h33 => ?_)
          · obtain ⟨hc1, hK1, _⟩ := id hH
            have hkv := hK1 v (by omega) (by omega)
            refine go_aload_n dX7_split_42 rfl rfl ?_
            refine go_iconst dX7_split_43 (R32_lit rfl) ?_
            refine p7_61 dX7_split_44 ?_
            refine go_aload_n dX7_split_47 rfl rfl ?_
            refine g7_36 dX7_split_48 ?_
            refine go_aload_n dX7_split_51 rfl rfl ?_
            refine g7_50 dX7_split_52 ?_
            rw [hC]
            refine go_iload_n dX7_split_55 rfl ?_
            refine v7_227 dX7_split_56 rfl ⟨rfl, rfl⟩ ⟨rfl, rfl⟩ (ct_X2_begin hp hF.tr (by rw [pg_tr]; exact hc1) (by rw [pg_tr]; exact hkv.2.1.clo) (by omega) (by rw [pg_tr]; omega) (Or.inr (by rw [pg_tr]; exact hkv.2.2.1))) (fun M3 N3 hq3 => ?_)
            obtain ⟨⟨lo, hi, bd, b1, b2⟩, b3, b4, b5, b6⟩ := hq3
            rw [pg_tr] at b1 b2 b3
            have hB : PcB (pgC M p) v (lo, hi, upI bd 0 (bdF (pgC M p) v), 1, 0, v) := ⟨lo, hi, bd, b1, rfl⟩
            refine go_iconst dX7_split_59 (R32_lit rfl) ?_
            refine go_ist4 dX7_split_60 rfl rfl ?_
            refine go_iconst dX7_split_62 (R32_lit rfl) ?_
            refine go_ist5 dX7_split_63 rfl rfl ?_
            exact lp_X7_split hC hc hp hF hH (by omega) (by omega) (by omega) (by omega) (by omega) (by omega) hB k.toNat 0 1 _ M3 N3 (by omega) (by omega) b2 (hB.o hc1) b3 b4 b5 b6 (fun _ => rfl) (fun z => absurd z (by decide))
          · refine go_aload_n dX7_split_36 rfl rfl ?_
            refine go_iconst dX7_split_37 (R32_lit rfl) ?_
            refine v7_122 dX7_split_38 rfl ⟨rfl, rfl⟩ ⟨rfl, rfl⟩ ct_X7_nothing (fun r9 M9 N9 hr9 hq9 => ?_)
            refine go_retl dX7_split_41 ?_
            obtain ⟨y1, y2, rfl⟩ := hq9
            exact Or.inr (Or.inl ⟨by omega, y1, y2, rfl⟩)
      · refine go_aload_n dX7_split_20 rfl rfl ?_
        refine go_iconst dX7_split_21 (R32_lit rfl) ?_
        refine v7_122 dX7_split_22 rfl ⟨rfl, rfl⟩ ⟨rfl, rfl⟩ ct_X7_nothing (fun r9 M9 N9 hr9 hq9 => ?_)
        refine go_retl dX7_split_25 ?_
        obtain ⟨y1, y2, rfl⟩ := hq9
        exact Or.inr (Or.inr (⟨by omega, y1, y2, rfl⟩))
set_option maxRecDepth 100000 in
set_option maxHeartbeats 4000000 in
theorem lp_X7_splits {E : Ev} {M : Mm} {N : Nn} {p : Nat} {v k : Int} (hC : N (3, 0, 0) 6 = (18, p, 0)) (hc : (pgC M p) 11 0 ≤ 15) (hp : p ≠ 0) (hF : hasF M) (hH : SpH (pgC M p)) (v0 : 0 ≤ v) (v1 : v < (pgC M p) 11 0) (k0 : 0 ≤ k) (k1 : k ≤ 1000000) {c0 : Pc} (hB : PcB (pgC M p) v c0) : ∀ (n : Nat) (i : Int) (c : Pc) (M' : Mm) (N' : Nn), (i + n = 40) → (0 ≤ i) → (PcM M' c) → (PcO (pgC M p) v c) → (Rn (pgC M p) (pgC M' 0)) → (hasF M') → (Kf (tr M 0) M') → (Nf 1 N N') → (slS (pgC M p) k n i c = slS (pgC M p) k 40 0 c0) → Go E RX7 cX7_splits 4 ((some .int)) (rmH 9) 0 0 (zM E (qi (fun r M1 N1 => ((0 ≤ v ∧ v < (pgC M p) 11 0 ∧ 0 ≤ k ∧ k ≤ 1000000) ∧ (∃ c0, PcB (pgC M p) v c0 ∧ r = slS (pgC M p) k 40 0 c0) ∧ Kf (tr M 0) M1 ∧ hasF M1 ∧ Nf 1 N N1 ∨ (0 ≤ v ∧ v < (pgC M p) 11 0 ∧ ¬ (0 ≤ k ∧ k ≤ 1000000)) ∧ r = -1 ∧ M1 = tr M 2 ∧ N = N1 ∨ ¬ (0 ≤ v ∧ v < (pgC M p) 11 0) ∧ r = -1 ∧ M1 = tr M 1 ∧ N = N1)))) 49 [vr (3, 0, 0), vi v, vi k, vi i] [] M' N' := by
  intro n
  induction n using Nat.strongRecOn with
  | ind n ih =>
  intro i c M' N' hn h0 hP hO hR hF' hKf hN he
  obtain ⟨hc, hK, hRC⟩ := id hH
  obtain ⟨o1, o2, o3, o4, o5, o6⟩ := id hO
  have hkv := hK v v0 v1
  obtain ⟨p1, p2, p3, p4, p5, p6⟩ := id hP
  have hn0 := hc.2.2.1
  have hn1 := hc.2.2.2.1
  have es : slS (pgC M p) k n i c = if gB c ≤ k then i else if n = 0 then -2 else if spI (pgC M p) c = -1 ∨ 81 < c.2.2.2.1 + 2 then -2 else slS (pgC M p) k (n - 1) (i + 1) (spS (pgC M p) c) := by
    cases n with
    | zero => show (if gB c ≤ k then i else -2) = _; rw [if_pos rfl]
    | succ m => rw [if_neg (show ¬ (m + 1 = 0) by omega)]; rfl
  refine go_iload_n dX7_splits_49 rfl ?_
  refine go_bipush dX7_splits_50 ⟨by decide, by decide⟩ ?_
  refine go_icmp_gt (tgt := 95) dX7_splits_52 rfl (fun h52 => ?_) (fun h52 => ?_)
  · refine go_bipush dX7_splits_95 ⟨by decide, by decide⟩ ?_
    refine go_reti dX7_splits_97 ?_
    exfalso; omega
  · refine go_aload_n dX7_splits_55 rfl rfl ?_
    refine g7_36 dX7_splits_56 ?_
    refine v7_235 dX7_splits_59 rfl ⟨rfl, rfl⟩ ⟨rfl, rfl⟩ (ct_X2_greatestBound (by omega) (by omega)) (fun r2 M2 N2 hr2 hq2 => ?_)
    obtain ⟨y0, rfl, rfl⟩ := hq2
    have y0 : r2 = gB c := by unfold gB; rw [← p3, ← p4]; exact y0
    refine go_iload_n dX7_splits_62 rfl ?_
    refine go_i2l dX7_splits_63 ?_
    refine go_lcmp_gt (tgt := 70) dX7_splits_64 dX7_splits_65 rfl (fun h64 => ?_) (fun h64 => ?_)
    · refine go_iload_n dX7_splits_70 rfl ?_
      refine go_bipush dX7_splits_71 ⟨by decide, by decide⟩ ?_
      refine go_icmp_eq (tgt := 86) dX7_splits_73 rfl (fun h73 => ?_) (fun h73 => ?_)
      · refine go_bipush dX7_splits_86 ⟨by decide, by decide⟩ ?_
        refine go_reti dX7_splits_88 ?_
        first
        | (have hz : n = 0 := by omega
           rw [if_neg (by omega), if_pos hz] at es
           exact Or.inl ⟨by omega, ⟨c0, hB, by rw [← he, es]⟩, hKf, hF', hN⟩)
        | (rcases y1 with ⟨q1, q2, q3⟩ | ⟨q1, q2, q3⟩
           · have q1' : spI (pgC M p) c = -1 ∨ 81 < c.2.2.2.1 + 2 := q1
             rw [if_neg (by omega), if_neg (by omega), if_pos q1'] at es
             exact Or.inl ⟨by omega, ⟨c0, hB, by rw [← he, es]⟩, hKf.tr y4, y3, hN.tr y5⟩
           · exact absurd h83 (by omega))
      · refine go_aload_n dX7_splits_76 rfl rfl ?_
        refine g7_36 dX7_splits_77 ?_
        refine v7_231 dX7_splits_80 rfl ⟨rfl, rfl⟩ ⟨rfl, rfl⟩ (ct_X2_splitWorst hR hP hF' o1 o2 o3 (by omega) hn0 hn1 o6 hRC (by rw [o5]; exact hkv.2.1.clo) (by omega) (by omega) (Or.inr (by rw [o5]; exact hkv.2.2.1))) (fun r1 M1 N1 hr1 hq1 => ?_)
        obtain ⟨y1, y2, y3, y4, y5⟩ := hq1
        refine go_if_ne (tgt := 89) dX7_splits_83 rfl (fun h83 => ?_) (fun h83 => ?_)
        · refine go_iinc3c dX7_splits_89 rfl rfl ⟨by omega, by omega⟩ ?_
          refine go_goto (tgt := 49) dX7_splits_92 rfl ?_
          rcases y1 with ⟨q1, q2, q3⟩ | ⟨q1, q2, q3⟩
          · exact absurd q2 h83
          · have q1' : ¬ (spI (pgC M p) c = -1 ∨ 81 < c.2.2.2.1 + 2) := q1
            rw [if_neg (by omega), if_neg (by omega), if_neg q1'] at es
            exact ih (n - 1) (by omega) (i + 1) (spS (pgC M p) c) M1 N1 (by omega) (by omega) q3 (hO.sp hn0 hn1 q1) y2 y3 (hKf.tr y4) (hN.tr y5) (by rw [← es]; exact he)
        · refine go_bipush dX7_splits_86 ⟨by decide, by decide⟩ ?_
          refine go_reti dX7_splits_88 ?_
          first
          | (have hz : n = 0 := by omega
             rw [if_neg (by omega), if_pos hz] at es
             exact Or.inl ⟨by omega, ⟨c0, hB, by rw [← he, es]⟩, hKf, hF', hN⟩)
          | (rcases y1 with ⟨q1, q2, q3⟩ | ⟨q1, q2, q3⟩
             · have q1' : spI (pgC M p) c = -1 ∨ 81 < c.2.2.2.1 + 2 := q1
               rw [if_neg (by omega), if_neg (by omega), if_pos q1'] at es
               exact Or.inl ⟨by omega, ⟨c0, hB, by rw [← he, es]⟩, hKf.tr y4, y3, hN.tr y5⟩
             · exact absurd h83 (by omega))
    · refine go_iload_n dX7_splits_68 rfl ?_
      refine go_reti dX7_splits_69 ?_
      rw [if_pos (by omega)] at es
      exact Or.inl ⟨by omega, ⟨c0, hB, by rw [← he, es]⟩, hKf, hF', hN⟩
set_option maxRecDepth 100000 in
set_option maxHeartbeats 4000000 in
theorem ct_X7_splits {E : Ev} {M : Mm} {N : Nn} {p : Nat} {v k : Int} (hC : N (3, 0, 0) 6 = (18, p, 0)) (hc : (pgC M p) 11 0 ≤ 15) (hp : p ≠ 0) (hF : hasF M) (hH : SpH (pgC M p)) : Ct E yX7_splits cX7_splits 4 ((some .int)) (rmH 9) [vr (3, 0, 0), vi v, vi k] M N (qi (fun r M1 N1 => ((0 ≤ v ∧ v < (pgC M p) 11 0 ∧ 0 ≤ k ∧ k ≤ 1000000) ∧ (∃ c0, PcB (pgC M p) v c0 ∧ r = slS (pgC M p) k 40 0 c0) ∧ Kf (tr M 0) M1 ∧ hasF M1 ∧ Nf 1 N N1 ∨ (0 ≤ v ∧ v < (pgC M p) 11 0 ∧ ¬ (0 ≤ k ∧ k ≤ 1000000)) ∧ r = -1 ∧ M1 = tr M 2 ∧ N = N1 ∨ ¬ (0 ≤ v ∧ v < (pgC M p) 11 0) ∧ r = -1 ∧ M1 = tr M 1 ∧ N = N1))) := by
  refine ct_of (own := RX7) (L0 := [vr (3, 0, 0), vi v, vi k, vn]) rfl (by decide +kernel) rfl rfl ?_
  refine go_aload_n dX7_splits_0 rfl rfl ?_
  refine g7_50 dX7_splits_1 ?_
  rw [hC]
  refine go_iload_n dX7_splits_4 rfl ?_
  refine v7_118 dX7_splits_5 rfl ⟨rfl, rfl⟩ ⟨rfl, rfl⟩ ct_X3_has (fun r1 M1 N1 hr1 hq1 => ?_)
  obtain ⟨e1, rfl, rfl⟩ := hq1
  have z1 := b1_iff e1
  refine go_if_ne (tgt := 17) dX7_splits_8 rfl (fun h8 => ?_) (fun h8 => ?_)
  · refine go_iload_n dX7_splits_17 rfl ?_
    refine v7_241 dX7_splits_18 rfl ⟨rfl, rfl⟩ ⟨rfl, rfl⟩ ct_X7_isLimit (fun r2 M2 N2 hr2 hq2 => ?_)
    obtain ⟨e2, rfl, rfl⟩ := hq2
    have z2 := b1_iff e2
    refine go_if_ne (tgt := 30) dX7_splits_21 rfl (fun h21 => ?_) (fun h21 => ?_)
    · obtain ⟨hc1, hK1, _⟩ := id hH
      have hkv := hK1 v (by omega) (by omega)
      refine go_aload_n dX7_splits_30 rfl rfl ?_
      refine go_iconst dX7_splits_31 (R32_lit rfl) ?_
      refine p7_61 dX7_splits_32 ?_
      refine go_aload_n dX7_splits_35 rfl rfl ?_
      refine g7_36 dX7_splits_36 ?_
      refine go_aload_n dX7_splits_39 rfl rfl ?_
      refine g7_50 dX7_splits_40 ?_
      rw [hC]
      refine go_iload_n dX7_splits_43 rfl ?_
      refine v7_227 dX7_splits_44 rfl ⟨rfl, rfl⟩ ⟨rfl, rfl⟩ (ct_X2_begin hp hF.tr (by rw [pg_tr]; exact hc1) (by rw [pg_tr]; exact hkv.2.1.clo) (by omega) (by rw [pg_tr]; omega) (Or.inr (by rw [pg_tr]; exact hkv.2.2.1))) (fun M3 N3 hq3 => ?_)
      obtain ⟨⟨lo, hi, bd, b1, b2⟩, b3, b4, b5, b6⟩ := hq3
      rw [pg_tr] at b1 b2 b3
      have hB : PcB (pgC M p) v (lo, hi, upI bd 0 (bdF (pgC M p) v), 1, 0, v) := ⟨lo, hi, bd, b1, rfl⟩
      refine go_iconst dX7_splits_47 (R32_lit rfl) ?_
      refine go_ist3 dX7_splits_48 rfl rfl ?_
      exact lp_X7_splits hC hc hp hF hH (by omega) (by omega) (by omega) (by omega) hB 40 0 _ M3 N3 (by omega) (by omega) b2 (hB.o hc1) b3 b4 b5 b6 rfl
    · refine go_aload_n dX7_splits_24 rfl rfl ?_
      refine go_iconst dX7_splits_25 (R32_lit rfl) ?_
      refine v7_74 dX7_splits_26 rfl ⟨rfl, rfl⟩ ⟨rfl, rfl⟩ ct_X7_none (fun r9 M9 N9 hr9 hq9 => ?_)
      refine go_reti dX7_splits_29 ?_
      obtain ⟨y1, y2, rfl⟩ := hq9
      exact Or.inr (Or.inl ⟨by omega, y1, y2, rfl⟩)
  · refine go_aload_n dX7_splits_11 rfl rfl ?_
    refine go_iconst dX7_splits_12 (R32_lit rfl) ?_
    refine v7_74 dX7_splits_13 rfl ⟨rfl, rfl⟩ ⟨rfl, rfl⟩ ct_X7_none (fun r9 M9 N9 hr9 hq9 => ?_)
    refine go_reti dX7_splits_16 ?_
    obtain ⟨y1, y2, rfl⟩ := hq9
    exact Or.inr (Or.inr (⟨by omega, y1, y2, rfl⟩))
