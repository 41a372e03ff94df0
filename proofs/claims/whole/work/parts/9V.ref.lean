theorem BdH.id {S : Pg} {W : Int → Bool} {a : Int} (h : BdH S W a) (hW : WF S) : bdR ((sK S W (S 11 0).toNat).1 (15 + a.toNat)) = bdF S a ∧ 0 ≤ bdF S a ∧ ∀ v : Nat, (v : Int) < S 11 0 → NEq S (sK S W v).1 v := by
  have e : rgS S (fun j => S 2 (S 10 j)) (fun j => S 3 (S 10 j)) 0 (S 12 0).toNat = S := rgS_id _ (fun i _ => by
    show S 2 (S 10 (0 + (i : Int))) = _ ∧ S 3 (S 10 (0 + (i : Int))) = _
    rw [Int.zero_add]; exact ⟨rfl, rfl⟩)
  have g := h (fun j => S 2 (S 10 j)) (fun j => S 3 (S 10 j)) 0 (fun i i0 i1 => by
    show S 2 (S 10 i) ≤ S 2 (S 10 (0 + i)) ∧ S 2 (S 10 (0 + i)) ≤ S 3 (S 10 (0 + i)) ∧ S 3 (S 10 (0 + i)) ≤ S 3 (S 10 i)
    rw [Int.zero_add]
    have k := hW.2.2.2.2.2.2.2.1 i i0 i1
    exact ⟨Int.le_refl _, ((hW.2.2.2.2.2.2.1 _ k.1 k.2.1).1.1 k.2.2).2.1, Int.le_refl _⟩)
  rw [e] at g
  exact g
theorem spN_s {S : Pg} {n : Nat} {c : Pc} (h : 0 < n) : spN S n c = if spI S c = -1 ∨ 81 < c.2.2.2.1 + 2 then c else spN S (n - 1) (spS S c) := by
  cases n with
  | zero => exact absurd h (by decide)
  | succ m => rfl
theorem slS_s {S : Pg} {lim i : Int} {n : Nat} {c : Pc} (h : 0 < n) : slS S lim n i c = if gB c ≤ lim then i else if spI S c = -1 ∨ 81 < c.2.2.2.1 + 2 then -2 else slS S lim (n - 1) (i + 1) (spS S c) := by
  cases n with
  | zero => exact absurd h (by decide)
  | succ m => rfl
theorem PcR_b {S : Pg} {M M1 : Mm} {v : Int} {W : Int → Bool} {c : Pc} (hc : PcB S v c) (hQ : QR S M) (hW : WF S) (g1 : M1 (29, 0, 0) 47 = 1) (g2 : ∀ j, 0 ≤ j → j < S 11 0 → M1 (30, 0, 43) j = M (30, 0, 9) j ∧ M1 (30, 0, 44) j = M (30, 0, 10) j) (g3 : M1 (30, 0, 45) 0 = bdR ((sK S W (S 11 0).toNat).1 (15 + v.toNat))) (g4 : M1 (30, 0, 46) 0 = 0) (hb : bdR ((sK S W (S 11 0).toNat).1 (15 + v.toNat)) = bdF S v ∧ 0 ≤ bdF S v) : PcR S M1 c ∧ 0 ≤ c.2.2.1 (c.2.2.2.1 - 1) ∧ c.2.2.2.2.1 = 0 := by
  obtain ⟨lo, hi, bd, hl, rfl⟩ := hc
  refine ⟨⟨g1, fun p p0 p1 => ?_⟩, ?_, rfl⟩
  · have p1 : p < 1 := p1
    have e : p = 0 := by omega
    subst e
    refine ⟨fun i i0 i1 => ?_, Or.inl ⟨g4, ?_, ?_⟩⟩
    · have k := hW.2.2.2.2.2.2.2.1 i i0 i1
      have a := g2 _ k.1 k.2.1
      have q := (hQ.2.2.2.2 _ k.1 k.2.1).2.2.1 k.2.2
      rw [Int.zero_add] at q
      have l := hl i i0 i1
      show _ = lo (0 * 3 + i) ∧ _ = hi (0 * 3 + i)
      rw [show (15 : Int) * 0 + S 10 i = S 10 i by omega, show (0 : Int) * 3 + i = i by omega, a.1, a.2, q.1, q.2]
      exact ⟨l.1.symm, l.2.symm⟩
    · show _ = upI bd 0 (bdF S v) 0
      rw [upI_eq, g3]; exact hb.1
    · show 0 ≤ upI bd 0 (bdF S v) 0
      rw [upI_eq]; exact hb.2
  · show 0 ≤ upI bd 0 (bdF S v) (1 - 1)
    rw [show (1 : Int) - 1 = 0 by decide, upI_eq]; exact hb.2
theorem RC_WFo {S : Pg} {v : Int} {c : Pc} (hc : PcB S v c) (hW : WF S) : PcO S v c := by
  obtain ⟨lo, hi, bd, hl, rfl⟩ := hc
  refine ⟨Int.le_refl 1, by show (1 : Int) ≤ 81; decide, Int.le_refl 0, rfl, rfl, fun j j0 j1 => ?_⟩
  have j1 : j < 1 := j1
  have e : j = 0 := by omega
  subst e
  intro i i0 i1
  show -1000 ≤ lo (0 * 3 + i) ∧ lo (0 * 3 + i) ≤ hi (0 * 3 + i) ∧ hi (0 * 3 + i) ≤ 1000
  rw [show (0 : Int) * 3 + i = i by omega, (hl i i0 i1).1, (hl i i0 i1).2]
  have k := hW.2.2.2.2.2.2.2.1 i i0 i1
  exact (hW.2.2.2.2.2.2.1 _ k.1 k.2.1).1.1 k.2.2
theorem PcB.i {S : Pg} {v : Int} {c : Pc} (hc : PcB S v c) (hW : WF S) : ∀ j, 0 ≤ j → j < c.2.2.2.1 → rgI S c.1 c.2.1 (j * 3) := by
  obtain ⟨lo, hi, bd, hl, rfl⟩ := hc
  intro j j0 j1
  have j1 : j < 1 := j1
  have e : j = 0 := by omega
  subst e
  intro i i0 i1
  show _ ≤ lo (0 * 3 + i) ∧ lo (0 * 3 + i) ≤ hi (0 * 3 + i) ∧ hi (0 * 3 + i) ≤ _
  rw [show (0 : Int) * 3 + i = i by omega, (hl i i0 i1).1, (hl i i0 i1).2]
  have k := hW.2.2.2.2.2.2.2.1 i i0 i1
  exact ⟨Int.le_refl _, ((hW.2.2.2.2.2.2.1 _ k.1 k.2.1).1.1 k.2.2).2.1, Int.le_refl _⟩
set_option maxRecDepth 100000 in
set_option maxHeartbeats 4000000 in
theorem tl_X8_split {E : Ev} {M : Mm} {N : Nn} {S : Pg} {c : Pc} {v k w i R0 : Int} {Q : Int → Mm → Nn → Prop} (hP : PcR S M c) (m0 : 1 ≤ c.2.2.2.1) (m1 : c.2.2.2.1 ≤ 81) (hl : 0 ≤ c.2.2.1 (c.2.2.2.1 - 1)) (hs : c.2.2.2.2.1 = i) (i0 : 0 ≤ i) (i1 : i ≤ 40) (hR : (if w = 0 then gB c else 1 + c.2.2.2.2.1) = R0) (hT : Q R0 M N) : Go E RX8 cX8_split 5 ((some .long)) (rmH 10) 0 0 (zM E (ql Q)) 74 [vr (29, 0, 0), vi v, vi k, vi w, vi i] [] M N := by
  obtain ⟨wp1, wp2, wp3, wp4, wp5⟩ := hP.wp m0 hl
  refine go_iload_n dX8_split_74 rfl ?_
  refine go_if_ne (tgt := 90) dX8_split_75 rfl (fun h75 => ?_) (fun h75 => ?_)
  · refine go_iload dX8_split_90 rfl ?_
    refine go_iconst dX8_split_92 (R32_lit rfl) ?_
    refine go_iaddc dX8_split_93 ⟨by omega, by omega⟩ ?_
    refine go_i2l dX8_split_94 ?_
    refine go_retl dX8_split_95 ?_
    first
    | (rw [if_pos (by omega)] at hR
       rw [wp4]
       have e : c.2.2.1 (spW c) = R0 := hR
       rw [e]; exact hT)
    | (rw [if_neg (by omega)] at hR
       rw [show i + 1 = R0 by omega]; exact hT)
  · refine go_aload_n dX8_split_78 rfl rfl ?_
    refine g8_92 dX8_split_79 ?_
    refine go_aload_n dX8_split_82 rfl rfl ?_
    refine v8_451 dX8_split_83 rfl ⟨rfl, rfl⟩ ⟨rfl, rfl⟩ (ct_X8_worstPiece (by rw [hP.1]; omega) (by rw [hP.1]; omega)) (fun r1 M1 N1 hr1 hq1 => ?_)
    obtain ⟨z1, rfl, rfl⟩ := hq1
    rw [wp1] at z1
    subst z1
    refine go_lald dX8_split_86 rfl (by omega) (by omega) ?_
    refine go_goto (tgt := 95) dX8_split_87 rfl ?_
    refine go_retl dX8_split_95 ?_
    first
    | (rw [if_pos (by omega)] at hR
       rw [wp4]
       have e : c.2.2.1 (spW c) = R0 := hR
       rw [e]; exact hT)
    | (rw [if_neg (by omega)] at hR
       rw [show i + 1 = R0 by omega]; exact hT)
set_option maxRecDepth 100000 in
set_option maxHeartbeats 4000000 in
theorem lp_X8_split {E : Ev} {M : Mm} {N : Nn} {S : Pg} {W : Int → Bool} {v k w R0 : Int} {Q : Int → Mm → Nn → Prop} (hQ : QR S M) (hW : WF S) (v0 : 0 ≤ v) (v1 : v < S 11 0) (k1 : k ≤ 40) (hB : ∀ v, 0 ≤ v → v < S 11 0 → W v = true) (hBd : BdH S W v) (hT : ∀ M3, Kr [34, 37, 42, 47] [28, 29, 33, 35, 36, 38, 39, 40, 41, 43, 44, 45, 46] M M3 → Q R0 M3 N) : ∀ (n : Nat) (i : Int) (c : Pc) (M2 : Mm), (i + n = k) → (0 ≤ i) → (PcR S M2 c) → (PcO S v c) → (0 ≤ c.2.2.1 (c.2.2.2.1 - 1)) → (∀ j, 0 ≤ j → j < c.2.2.2.1 → rgI S c.1 c.2.1 (j * 3)) → (c.2.2.2.2.1 = i) → ((if w = 0 then gB (spN S n c) else 1 + (spN S n c).2.2.2.2.1) = R0) → (Kr [34, 37, 42, 47] [28, 29, 33, 35, 36, 38, 39, 40, 41, 43, 44, 45, 46] M M2) → Go E RX8 cX8_split 5 ((some .long)) (rmH 10) 0 0 (zM E (ql Q)) 54 [vr (29, 0, 0), vi v, vi k, vi w, vi i] [] M2 N := by
  intro n
  induction n using Nat.strongRecOn with
  | ind n ih =>
  intro i c M2 hn i0 hP hO hl hri hs hR hf
  obtain ⟨o1, o2, o3, o4, o5, o6⟩ := id hO
  have n0 := hW.2.2.1
  have n3 := hW.2.2.2.1
  refine go_iload dX8_split_54 rfl ?_
  refine go_iload_n dX8_split_56 rfl ?_
  refine go_icmp_ge (tgt := 74) dX8_split_57 rfl (fun h57 => ?_) (fun h57 => ?_)
  · first
    | exact tl_X8_split hP o1 o2 hl hs i0 (by omega) (by rw [show n = 0 by omega] at hR; exact hR) (hT _ hf)
    | (obtain ⟨y1, y2, y3⟩ := z1.resolve_right (fun q => by omega)
       rw [if_pos (Or.inl y1)] at es
       rw [es] at hR
       exact tl_X8_split y3 o1 o2 hl hs i0 (by omega) hR (hT _ (hf.tr f1)))
  · have es := spN_s (S := S) (c := c) (n := n) (by omega)
    rw [← o5] at hBd
    rw [← o5]
    refine go_aload_n dX8_split_60 rfl rfl ?_
    refine go_iload_n dX8_split_61 rfl ?_
    refine v8_465 dX8_split_62 rfl ⟨rfl, rfl⟩ ⟨rfl, rfl⟩ (ct_X8_splitsOnce (hQ.k hf (by decide) (by decide) (by decide) (by decide) (by decide) (by decide) (by decide) (by decide)) hW hP o1 o2 hl hri (by omega) (by omega) hB hBd) (fun r1 M1 N1 hr1 hq1 => ?_)
    obtain ⟨z1, f1, rfl⟩ := hq1
    rw [o5]
    refine go_if_eq (tgt := 74) dX8_split_65 rfl (fun h65 => ?_) (fun h65 => ?_)
    · first
      | exact tl_X8_split hP o1 o2 hl hs i0 (by omega) (by rw [show n = 0 by omega] at hR; exact hR) (hT _ hf)
      | (obtain ⟨y1, y2, y3⟩ := z1.resolve_right (fun q => by omega)
         rw [if_pos (Or.inl y1)] at es
         rw [es] at hR
         exact tl_X8_split y3 o1 o2 hl hs i0 (by omega) hR (hT _ (hf.tr f1)))
    · obtain ⟨y1, -, y3, y4, y5⟩ := z1.resolve_left (fun q => by omega)
      have hz : ¬ spZ S c := fun q => by
        unfold spZ at q
        omega
      rw [if_neg (show ¬ (spI S c = -1 ∨ 81 < c.2.2.2.1 + 2) from hz)] at es
      refine go_iinc4c dX8_split_68 rfl rfl ⟨by omega, by omega⟩ ?_
      refine go_goto (tgt := 54) dX8_split_71 rfl ?_
      exact ih (n - 1) (by omega) (i + 1) (spS S c) M1 (by omega) (by omega) y3 (hO.sp n0 n3 hz) (by show 0 ≤ (spS S c).2.2.1 (c.2.2.2.1 + 1 + 1 - 1); rw [show c.2.2.2.1 + 1 + 1 - 1 = c.2.2.2.1 + 1 by omega]; exact y4) (fun j j0 j1 => y5 j j0 (by have j1 : j < c.2.2.2.1 + 1 + 1 := j1; omega)) (by show c.2.2.2.2.1 + 1 = i + 1; omega) (by rw [← es]; exact hR) (hf.tr f1)
set_option maxRecDepth 100000 in
set_option maxHeartbeats 4000000 in
theorem ct_X8_split {E : Ev} {M : Mm} {N : Nn} {S : Pg} {W : Int → Bool} {v k w : Int} {c0 : Pc} (hQ : QR S M) (hW : WF S) (hB : ∀ v, 0 ≤ v → v < S 11 0 → W v = true) (hBd : 0 ≤ v → v < S 11 0 → BdH S W v) (hc : PcB S v c0) : Ct E yX8_split cX8_split 5 ((some .long)) (rmH 10) [vr (29, 0, 0), vi v, vi k, vi w] M N (ql (fun r M1 N1 => (((0 ≤ v ∧ v < S 11 0 ∧ 0 ≤ w ∧ w ≤ 1) ∧ (0 ≤ k ∧ k ≤ 40)) ∧ r = (if w = 0 then gB (spN S k.toNat c0) else 1 + (spN S k.toNat c0).2.2.2.2.1) ∧ F8 (rfM M 0) M1 ∨ ((0 ≤ v ∧ v < S 11 0 ∧ 0 ≤ w ∧ w ≤ 1) ∧ ¬ (0 ≤ k ∧ k ≤ 40)) ∧ r = -9223372036854775808 ∧ F8 (rfM M 2) M1 ∨ ¬ (0 ≤ v ∧ v < S 11 0 ∧ 0 ≤ w ∧ w ≤ 1) ∧ r = -9223372036854775808 ∧ F8 (rfM M 1) M1) ∧ N = N1)) := by
  refine ct_of (own := RX8) (L0 := [vr (29, 0, 0), vi v, vi k, vi w, vn]) rfl (by decide +kernel) rfl rfl ?_
  have c6 := hQ.1
  have c5 := hQ.2.2.1
  have c0_ := hQ.2.1
  refine go_aload_n dX8_split_0 rfl rfl ?_
  refine go_aload_n dX8_split_1 rfl rfl ?_
  refine go_iload_n dX8_split_2 rfl ?_
  refine v8_285 dX8_split_3 rfl ⟨rfl, rfl⟩ ⟨rfl, rfl⟩ (ct_X8_isVariable hQ) (fun r1 M1 N1 hr1 hq1 => ?_)
  obtain ⟨z1, rfl, rfl⟩ := hq1
  have z1 := bit_iff z1
  refine go_if_eq (tgt := 23) dX8_split_6 rfl (fun h6 => ?_) (fun h6 => ?_)
  · refine go_iconst dX8_split_23 (R32_lit rfl) ?_
    refine go_iload_n dX8_split_24 rfl ?_
    refine go_i2l dX8_split_25 ?_
    refine go_lconst (x := 0) dX8_split_26 rfl ?_
    refine c8_460 dX8_split_27 ?_
    refine v8_140 dX8_split_30 rfl ⟨rfl, rfl⟩ ⟨rfl, rfl⟩ ct_X8_in (fun r3 M3 N3 hr3 hq3 => ?_)
    obtain ⟨z3, rfl, rfl⟩ := hq3
    have z3 := bit_iff z3
    refine v8_346 dX8_split_33 rfl ⟨rfl, rfl⟩ ⟨rfl, rfl⟩ ct_X8_unless_ (fun r4 M4 N4 hr4 hq4 => ?_)
    obtain ⟨z4, rfl, rfl⟩ := hq4
    have z4 := u2_cs z4
    refine v8_269 dX8_split_36 rfl ⟨rfl, rfl⟩ ⟨rfl, rfl⟩ ct_X8_isRefused (fun r5 M5 N5 hr5 hq5 => ?_)
    obtain ⟨z5, rfl, rfl⟩ := hq5
    have z5 := bit_iff z5
    refine go_if_eq (tgt := 46) dX8_split_39 rfl (fun h39 => ?_) (fun h39 => ?_)
    · have hv : (0 ≤ v ∧ v < S 11 0 ∧ 0 ≤ w ∧ w ≤ 1) := by omega
      have hk : (0 ≤ k ∧ k ≤ 40) := by omega
      rw [show r4 = 0 by omega]
      have Q0 := rfM_Q (k := 0) hQ
      have hbv := hBd hv.1 hv.2.1
      have hbi := hbv.id hW
      refine go_aload_n dX8_split_46 rfl rfl ?_
      refine go_iload_n dX8_split_47 rfl ?_
      refine v8_462 dX8_split_48 rfl ⟨rfl, rfl⟩ ⟨rfl, rfl⟩ (ct_X8_begins Q0 hW hB hbi.2.2 hv.1 hv.2.1) (fun M6 N6 hq6 => ?_)
      obtain ⟨g1, g2, g3, g4, g5, rfl⟩ := hq6
      obtain ⟨k1, k2, k3⟩ := PcR_b hc Q0 hW g1 g2 g3 g4 ⟨hbi.1, hbi.2.1⟩
      refine go_iconst dX8_split_51 (R32_lit rfl) ?_
      refine go_ist4 dX8_split_52 rfl rfl ?_
      exact lp_X8_split (M := rfM M 0) (R0 := (if w = 0 then gB (spN S k.toNat c0) else 1 + (spN S k.toNat c0).2.2.2.2.1)) Q0 hW hv.1 hv.2.1 hk.2 hB hbv (fun M3 f3 => ⟨Or.inl ⟨⟨hv, hk⟩, rfl, F8.of f3 (by decide) (by decide)⟩, rfl⟩) k.toNat 0 c0 M6 (by omega) (by omega) k1 (RC_WFo hc hW) k2 (hc.i hW) k3 rfl g5
    · refine c8_111 dX8_split_42 ?_
      refine go_retl dX8_split_45 ?_
      rcases z4 with ⟨y, e⟩ | ⟨y, g, e⟩ | ⟨y, g, e⟩
      · first | (exact absurd y (by decide)) | (rw [e]; exact ⟨Or.inr (Or.inr ⟨by omega, rfl, F8.rf⟩), rfl⟩)
      · first | (exact absurd rfl y) | (rw [e]; exact ⟨Or.inr (Or.inl ⟨by omega, rfl, F8.rf⟩), rfl⟩)
      · omega
  · refine go_iload_n dX8_split_9 rfl ?_
    refine go_i2l dX8_split_10 ?_
    refine go_lconst (x := 0) dX8_split_11 rfl ?_
    refine go_lconst (x := 1) dX8_split_12 rfl ?_
    refine v8_140 dX8_split_13 rfl ⟨rfl, rfl⟩ ⟨rfl, rfl⟩ ct_X8_in (fun r2 M2 N2 hr2 hq2 => ?_)
    obtain ⟨z2, rfl, rfl⟩ := hq2
    have z2 := bit_iff z2
    refine go_if_eq (tgt := 23) dX8_split_16 rfl (fun h16 => ?_) (fun h16 => ?_)
    · refine go_iconst dX8_split_23 (R32_lit rfl) ?_
      refine go_iload_n dX8_split_24 rfl ?_
      refine go_i2l dX8_split_25 ?_
      refine go_lconst (x := 0) dX8_split_26 rfl ?_
      refine c8_460 dX8_split_27 ?_
      refine v8_140 dX8_split_30 rfl ⟨rfl, rfl⟩ ⟨rfl, rfl⟩ ct_X8_in (fun r3 M3 N3 hr3 hq3 => ?_)
      obtain ⟨z3, rfl, rfl⟩ := hq3
      have z3 := bit_iff z3
      refine v8_346 dX8_split_33 rfl ⟨rfl, rfl⟩ ⟨rfl, rfl⟩ ct_X8_unless_ (fun r4 M4 N4 hr4 hq4 => ?_)
      obtain ⟨z4, rfl, rfl⟩ := hq4
      have z4 := u2_cs z4
      refine v8_269 dX8_split_36 rfl ⟨rfl, rfl⟩ ⟨rfl, rfl⟩ ct_X8_isRefused (fun r5 M5 N5 hr5 hq5 => ?_)
      obtain ⟨z5, rfl, rfl⟩ := hq5
      have z5 := bit_iff z5
      refine go_if_eq (tgt := 46) dX8_split_39 rfl (fun h39 => ?_) (fun h39 => ?_)
      · have hv : (0 ≤ v ∧ v < S 11 0 ∧ 0 ≤ w ∧ w ≤ 1) := by omega
        have hk : (0 ≤ k ∧ k ≤ 40) := by omega
        rw [show r4 = 0 by omega]
        have Q0 := rfM_Q (k := 0) hQ
        have hbv := hBd hv.1 hv.2.1
        have hbi := hbv.id hW
        refine go_aload_n dX8_split_46 rfl rfl ?_
        refine go_iload_n dX8_split_47 rfl ?_
        refine v8_462 dX8_split_48 rfl ⟨rfl, rfl⟩ ⟨rfl, rfl⟩ (ct_X8_begins Q0 hW hB hbi.2.2 hv.1 hv.2.1) (fun M6 N6 hq6 => ?_)
        obtain ⟨g1, g2, g3, g4, g5, rfl⟩ := hq6
        obtain ⟨k1, k2, k3⟩ := PcR_b hc Q0 hW g1 g2 g3 g4 ⟨hbi.1, hbi.2.1⟩
        refine go_iconst dX8_split_51 (R32_lit rfl) ?_
        refine go_ist4 dX8_split_52 rfl rfl ?_
        exact lp_X8_split (M := rfM M 0) (R0 := (if w = 0 then gB (spN S k.toNat c0) else 1 + (spN S k.toNat c0).2.2.2.2.1)) Q0 hW hv.1 hv.2.1 hk.2 hB hbv (fun M3 f3 => ⟨Or.inl ⟨⟨hv, hk⟩, rfl, F8.of f3 (by decide) (by decide)⟩, rfl⟩) k.toNat 0 c0 M6 (by omega) (by omega) k1 (RC_WFo hc hW) k2 (hc.i hW) k3 rfl g5
      · refine c8_111 dX8_split_42 ?_
        refine go_retl dX8_split_45 ?_
        rcases z4 with ⟨y, e⟩ | ⟨y, g, e⟩ | ⟨y, g, e⟩
        · first | (exact absurd y (by decide)) | (rw [e]; exact ⟨Or.inr (Or.inr ⟨by omega, rfl, F8.rf⟩), rfl⟩)
        · first | (exact absurd rfl y) | (rw [e]; exact ⟨Or.inr (Or.inl ⟨by omega, rfl, F8.rf⟩), rfl⟩)
        · omega
    · refine go_iconst dX8_split_19 (R32_lit rfl) ?_
      refine go_goto (tgt := 24) dX8_split_20 rfl ?_
      refine go_iload_n dX8_split_24 rfl ?_
      refine go_i2l dX8_split_25 ?_
      refine go_lconst (x := 0) dX8_split_26 rfl ?_
      refine c8_460 dX8_split_27 ?_
      refine v8_140 dX8_split_30 rfl ⟨rfl, rfl⟩ ⟨rfl, rfl⟩ ct_X8_in (fun r3 M3 N3 hr3 hq3 => ?_)
      obtain ⟨z3, rfl, rfl⟩ := hq3
      have z3 := bit_iff z3
      refine v8_346 dX8_split_33 rfl ⟨rfl, rfl⟩ ⟨rfl, rfl⟩ ct_X8_unless_ (fun r4 M4 N4 hr4 hq4 => ?_)
      obtain ⟨z4, rfl, rfl⟩ := hq4
      have z4 := u2_cs z4
      refine v8_269 dX8_split_36 rfl ⟨rfl, rfl⟩ ⟨rfl, rfl⟩ ct_X8_isRefused (fun r5 M5 N5 hr5 hq5 => ?_)
      obtain ⟨z5, rfl, rfl⟩ := hq5
      have z5 := bit_iff z5
      refine go_if_eq (tgt := 46) dX8_split_39 rfl (fun h39 => ?_) (fun h39 => ?_)
      · have hv : (0 ≤ v ∧ v < S 11 0 ∧ 0 ≤ w ∧ w ≤ 1) := by omega
        have hk : (0 ≤ k ∧ k ≤ 40) := by omega
        rw [show r4 = 0 by omega]
        have Q0 := rfM_Q (k := 0) hQ
        have hbv := hBd hv.1 hv.2.1
        have hbi := hbv.id hW
        refine go_aload_n dX8_split_46 rfl rfl ?_
        refine go_iload_n dX8_split_47 rfl ?_
        refine v8_462 dX8_split_48 rfl ⟨rfl, rfl⟩ ⟨rfl, rfl⟩ (ct_X8_begins Q0 hW hB hbi.2.2 hv.1 hv.2.1) (fun M6 N6 hq6 => ?_)
        obtain ⟨g1, g2, g3, g4, g5, rfl⟩ := hq6
        obtain ⟨k1, k2, k3⟩ := PcR_b hc Q0 hW g1 g2 g3 g4 ⟨hbi.1, hbi.2.1⟩
        refine go_iconst dX8_split_51 (R32_lit rfl) ?_
        refine go_ist4 dX8_split_52 rfl rfl ?_
        exact lp_X8_split (M := rfM M 0) (R0 := (if w = 0 then gB (spN S k.toNat c0) else 1 + (spN S k.toNat c0).2.2.2.2.1)) Q0 hW hv.1 hv.2.1 hk.2 hB hbv (fun M3 f3 => ⟨Or.inl ⟨⟨hv, hk⟩, rfl, F8.of f3 (by decide) (by decide)⟩, rfl⟩) k.toNat 0 c0 M6 (by omega) (by omega) k1 (RC_WFo hc hW) k2 (hc.i hW) k3 rfl g5
      · refine c8_111 dX8_split_42 ?_
        refine go_retl dX8_split_45 ?_
        rcases z4 with ⟨y, e⟩ | ⟨y, g, e⟩ | ⟨y, g, e⟩
        · first | (exact absurd y (by decide)) | (rw [e]; exact ⟨Or.inr (Or.inr ⟨by omega, rfl, F8.rf⟩), rfl⟩)
        · first | (exact absurd rfl y) | (rw [e]; exact ⟨Or.inr (Or.inl ⟨by omega, rfl, F8.rf⟩), rfl⟩)
        · omega
set_option maxRecDepth 100000 in
set_option maxHeartbeats 4000000 in
theorem tl_X8_splits {E : Ev} {M : Mm} {N : Nn} {v k : Int} {Q : Int → Mm → Nn → Prop} (hT : Q (-2) M N) : Go E RX8 cX8_splits 4 ((some .int)) (rmH 10) 0 0 (zM E (qi Q)) 33 [vr (29, 0, 0), vi v, vi k, vi 41] [] M N := by
  refine go_iload_n dX8_splits_33 rfl ?_
  refine go_bipush dX8_splits_34 ⟨by decide, by decide⟩ ?_
  refine go_icmp_gt (tgt := 73) dX8_splits_36 rfl (fun h36 => ?_) (fun h36 => ?_)
  · refine go_bipush dX8_splits_73 ⟨by decide, by decide⟩ ?_
    exact go_reti dX8_splits_75 hT
  · exact absurd h36 (by decide)
set_option maxRecDepth 100000 in
set_option maxHeartbeats 4000000 in
theorem lp_X8_splits {E : Ev} {M : Mm} {N : Nn} {S : Pg} {W : Int → Bool} {v k R0 : Int} {Q : Int → Mm → Nn → Prop} (hQ : QR S M) (hW : WF S) (v0 : 0 ≤ v) (v1 : v < S 11 0) (k0 : 0 ≤ k) (k1 : k ≤ 1000000) (hB : ∀ v, 0 ≤ v → v < S 11 0 → W v = true) (hBd : BdH S W v) (hT : ∀ M3, Kr [34, 37, 42, 47] [28, 29, 33, 35, 36, 38, 39, 40, 41, 43, 44, 45, 46] M M3 → Q R0 M3 N) : ∀ (n : Nat) (i : Int) (c : Pc) (M2 : Mm), (i + n = 40) → (0 ≤ i) → (PcR S M2 c) → (PcO S v c) → (0 ≤ c.2.2.1 (c.2.2.2.1 - 1)) → (∀ j, 0 ≤ j → j < c.2.2.2.1 → rgI S c.1 c.2.1 (j * 3)) → (c.2.2.2.2.1 = i) → (slS S k n i c = R0) → (Kr [34, 37, 42, 47] [28, 29, 33, 35, 36, 38, 39, 40, 41, 43, 44, 45, 46] M M2) → Go E RX8 cX8_splits 4 ((some .int)) (rmH 10) 0 0 (zM E (qi Q)) 33 [vr (29, 0, 0), vi v, vi k, vi i] [] M2 N := by
  intro n
  induction n using Nat.strongRecOn with
  | ind n ih =>
  intro i c M2 hn i0 hP hO hl hri hs hR hf
  obtain ⟨o1, o2, o3, o4, o5, o6⟩ := id hO
  have n0 := hW.2.2.1
  have n3 := hW.2.2.2.1
  obtain ⟨wp1, wp2, wp3, wp4, wp5⟩ := hP.wp o1 hl
  have eg : gB c = c.2.2.1 (spW c) := rfl
  refine go_iload_n dX8_splits_33 rfl ?_
  refine go_bipush dX8_splits_34 ⟨by decide, by decide⟩ ?_
  refine go_icmp_gt (tgt := 73) dX8_splits_36 rfl (fun h36 => ?_) (fun h36 => ?_)
  · refine go_bipush dX8_splits_73 ⟨by decide, by decide⟩ ?_
    refine go_reti dX8_splits_75 ?_
    omega
  · refine go_aload_n dX8_splits_39 rfl rfl ?_
    refine g8_92 dX8_splits_40 ?_
    refine go_aload_n dX8_splits_43 rfl rfl ?_
    refine v8_451 dX8_splits_44 rfl ⟨rfl, rfl⟩ ⟨rfl, rfl⟩ (ct_X8_worstPiece (by rw [hP.1]; omega) (by rw [hP.1]; omega)) (fun r2 M4 N4 hr2 hq2 => ?_)
    obtain ⟨z2, rfl, rfl⟩ := hq2
    rw [wp1] at z2
    subst z2
    refine go_lald dX8_splits_47 rfl (by omega) (by omega) ?_
    rw [wp4]
    refine go_iload_n dX8_splits_48 rfl ?_
    refine go_i2l dX8_splits_49 ?_
    refine go_lcmp_gt (tgt := 56) dX8_splits_50 dX8_splits_51 rfl (fun h50 => ?_) (fun h50 => ?_)
    · rw [← o5] at hBd
      rw [← o5]
      refine go_aload_n dX8_splits_56 rfl rfl ?_
      refine go_iload_n dX8_splits_57 rfl ?_
      refine v8_465 dX8_splits_58 rfl ⟨rfl, rfl⟩ ⟨rfl, rfl⟩ (ct_X8_splitsOnce (hQ.k hf (by decide) (by decide) (by decide) (by decide) (by decide) (by decide) (by decide) (by decide)) hW hP o1 o2 hl hri (by omega) (by omega) hB hBd) (fun r1 M1 N1 hr1 hq1 => ?_)
      obtain ⟨z1, f1, rfl⟩ := hq1
      rw [o5]
      refine go_if_ne (tgt := 67) dX8_splits_61 rfl (fun h61 => ?_) (fun h61 => ?_)
      · refine go_iinc3c dX8_splits_67 rfl rfl ⟨by omega, by omega⟩ ?_
        refine go_goto (tgt := 33) dX8_splits_70 rfl ?_
        obtain ⟨y1, -, y3, y4, y5⟩ := z1.resolve_left (fun q => by omega)
        by_cases hz : n = 0
        · subst hz
          have e : R0 = -2 := by
            rw [← hR]
            show (if gB c ≤ k then i else -2) = -2
            rw [if_neg (by omega)]
          subst e
          rw [show i + 1 = 41 by omega]
          exact tl_X8_splits (hT _ (hf.tr f1))
        · have es := slS_s (S := S) (lim := k) (i := i) (c := c) (n := n) (by omega)
          have hz : ¬ spZ S c := fun q => by
            unfold spZ at q
            omega
          rw [if_neg (by omega), if_neg (show ¬ (spI S c = -1 ∨ 81 < c.2.2.2.1 + 2) from hz)] at es
          exact ih (n - 1) (by omega) (i + 1) (spS S c) M1 (by omega) (by omega) y3 (hO.sp n0 n3 hz) (by show 0 ≤ (spS S c).2.2.1 (c.2.2.2.1 + 1 + 1 - 1); rw [show c.2.2.2.1 + 1 + 1 - 1 = c.2.2.2.1 + 1 by omega]; exact y4) (fun j j0 j1 => y5 j j0 (by have j1 : j < c.2.2.2.1 + 1 + 1 := j1; omega)) (by show c.2.2.2.2.1 + 1 = i + 1; omega) (by rw [← es]; exact hR) (hf.tr f1)
      · refine go_bipush dX8_splits_64 ⟨by decide, by decide⟩ ?_
        refine go_reti dX8_splits_66 ?_
        have e : R0 = -2 := by
          rw [← hR]
          obtain ⟨y1, y2, y3⟩ := z1.resolve_right (fun q => by omega)
          cases n with
          | zero =>
            show (if gB c ≤ k then i else -2) = -2
            rw [if_neg (by omega)]
          | succ m =>
            show (if gB c ≤ k then i else if spI S c = -1 ∨ _ then -2 else _) = -2
            rw [if_neg (by omega), if_pos (Or.inl y1)]
        subst e
        exact hT _ (hf.tr f1)
    · refine go_iload_n dX8_splits_54 rfl ?_
      refine go_reti dX8_splits_55 ?_
      have e : R0 = i := by
        rw [← hR]
        cases n with
        | zero =>
          show (if gB c ≤ k then i else -2) = i
          rw [if_pos (by omega)]
        | succ m =>
          show (if gB c ≤ k then i else _) = i
          rw [if_pos (by omega)]
      subst e
      exact hT _ hf
set_option maxRecDepth 100000 in
set_option maxHeartbeats 4000000 in
theorem ct_X8_splits {E : Ev} {M : Mm} {N : Nn} {S : Pg} {W : Int → Bool} {v k : Int} {c0 : Pc} (hQ : QR S M) (hW : WF S) (hB : ∀ v, 0 ≤ v → v < S 11 0 → W v = true) (hBd : 0 ≤ v → v < S 11 0 → BdH S W v) (hc : PcB S v c0) : Ct E yX8_splits cX8_splits 4 ((some .int)) (rmH 10) [vr (29, 0, 0), vi v, vi k] M N (qi (fun r M1 N1 => (((0 ≤ v ∧ v < S 11 0) ∧ (0 ≤ k ∧ k ≤ 1000000)) ∧ r = slS S k 40 0 c0 ∧ F8 (rfM M 0) M1 ∨ ((0 ≤ v ∧ v < S 11 0) ∧ ¬ (0 ≤ k ∧ k ≤ 1000000)) ∧ r = -1 ∧ F8 (rfM M 2) M1 ∨ ¬ (0 ≤ v ∧ v < S 11 0) ∧ r = -1 ∧ F8 (rfM M 1) M1) ∧ N = N1)) := by
  refine ct_of (own := RX8) (L0 := [vr (29, 0, 0), vi v, vi k, vn]) rfl (by decide +kernel) rfl rfl ?_
  have c6 := hQ.1
  have c5 := hQ.2.2.1
  have c0_ := hQ.2.1
  refine go_aload_n dX8_splits_0 rfl rfl ?_
  refine go_aload_n dX8_splits_1 rfl rfl ?_
  refine go_iload_n dX8_splits_2 rfl ?_
  refine v8_285 dX8_splits_3 rfl ⟨rfl, rfl⟩ ⟨rfl, rfl⟩ (ct_X8_isVariable hQ) (fun r1 M1 N1 hr1 hq1 => ?_)
  obtain ⟨z1, rfl, rfl⟩ := hq1
  have z1 := bit_iff z1
  refine go_iload_n dX8_splits_6 rfl ?_
  refine go_i2l dX8_splits_7 ?_
  refine go_lconst (x := 0) dX8_splits_8 rfl ?_
  refine c8_257 dX8_splits_9 ?_
  refine v8_140 dX8_splits_12 rfl ⟨rfl, rfl⟩ ⟨rfl, rfl⟩ ct_X8_in (fun r3 M3 N3 hr3 hq3 => ?_)
  obtain ⟨z3, rfl, rfl⟩ := hq3
  have z3 := bit_iff z3
  refine v8_346 dX8_splits_15 rfl ⟨rfl, rfl⟩ ⟨rfl, rfl⟩ ct_X8_unless_ (fun r4 M4 N4 hr4 hq4 => ?_)
  obtain ⟨z4, rfl, rfl⟩ := hq4
  have z4 := u2_cs z4
  refine v8_269 dX8_splits_18 rfl ⟨rfl, rfl⟩ ⟨rfl, rfl⟩ ct_X8_isRefused (fun r5 M5 N5 hr5 hq5 => ?_)
  obtain ⟨z5, rfl, rfl⟩ := hq5
  have z5 := bit_iff z5
  refine go_if_eq (tgt := 26) dX8_splits_21 rfl (fun h21 => ?_) (fun h21 => ?_)
  · have hv : (0 ≤ v ∧ v < S 11 0) := by omega
    have hk : (0 ≤ k ∧ k ≤ 1000000) := by omega
    rw [show r4 = 0 by omega]
    have Q0 := rfM_Q (k := 0) hQ
    have hbv := hBd hv.1 hv.2
    have hbi := hbv.id hW
    refine go_aload_n dX8_splits_26 rfl rfl ?_
    refine go_iload_n dX8_splits_27 rfl ?_
    refine v8_462 dX8_splits_28 rfl ⟨rfl, rfl⟩ ⟨rfl, rfl⟩ (ct_X8_begins Q0 hW hB hbi.2.2 hv.1 hv.2) (fun M6 N6 hq6 => ?_)
    obtain ⟨g1, g2, g3, g4, g5, rfl⟩ := hq6
    obtain ⟨k1, k2, k3⟩ := PcR_b hc Q0 hW g1 g2 g3 g4 ⟨hbi.1, hbi.2.1⟩
    refine go_iconst dX8_splits_31 (R32_lit rfl) ?_
    refine go_ist3 dX8_splits_32 rfl rfl ?_
    exact lp_X8_splits (M := rfM M 0) (R0 := slS S k 40 0 c0) Q0 hW hv.1 hv.2 hk.1 hk.2 hB hbv (fun M3 f3 => ⟨Or.inl ⟨⟨hv, hk⟩, rfl, F8.of f3 (by decide) (by decide)⟩, rfl⟩) 40 0 c0 M6 (by omega) (by omega) k1 (RC_WFo hc hW) k2 (hc.i hW) k3 rfl g5
  · refine go_iconst dX8_splits_24 (R32_lit rfl) ?_
    refine go_reti dX8_splits_25 ?_
    rcases z4 with ⟨y, e⟩ | ⟨y, g, e⟩ | ⟨y, g, e⟩
    · rw [e]; exact ⟨Or.inr (Or.inr ⟨by omega, rfl, F8.rf⟩), rfl⟩
    · rw [e]; exact ⟨Or.inr (Or.inl ⟨by omega, rfl, F8.rf⟩), rfl⟩
    · omega
