set_option maxRecDepth 100000 in
set_option maxHeartbeats 4000000 in
theorem lp_X8_shared {E : Ev} {M : Mm} {N : Nn} {ψ : Int → FV} {ν : Nu} {v w : Int} {Q : Int → Mm → Nn → Prop} (hT : ∀ r, r = sumZ (shG (ψ (15 + v)) (ψ (15 + w))) ν.1.toNat → Q r M N) (hF : FQ M ψ ν) (v0 : 0 ≤ v) (v1 : v < 15) (w0 : 0 ≤ w) (w1 : w < 15) : ∀ (n : Nat) (k x : Int), (k + n = ν.1 + 1) → (1 ≤ k) → (x = sumZ (shG (ψ (15 + v)) (ψ (15 + w))) (k - 1).toNat) → Go E RX8 cX8_shared 5 ((some .int)) (rmH 9) 0 0 (zM E (qi Q)) 42 [vr (29, 0, 0), vi v, vi w, vi x, vi k] [] M N := by
  intro n
  induction n using Nat.strongRecOn with
  | ind n ih =>
  intro k x hn k0 hx
  obtain ⟨n1, n2, n3, n4⟩ := hF.2.1
  obtain ⟨e0, e1⟩ := hF.1 (15 + v) (by omega) (by omega)
  obtain ⟨d0, d1⟩ := hF.1 (15 + w) (by omega) (by omega)
  have sb := shG_bd (ψ (15 + v)) (ψ (15 + w)) (k - 1).toNat
  refine go_iload dX8_shared_42 rfl ?_
  refine go_aload_n dX8_shared_44 rfl rfl ?_
  refine g8_302 dX8_shared_45 ?_
  rw [n1]
  refine go_icmp_gt (tgt := 105) dX8_shared_48 rfl (fun h48 => ?_) (fun h48 => ?_)
  · refine go_iload_n dX8_shared_105 rfl ?_
    refine go_reti dX8_shared_106 ?_
    exact hT _ (by rw [hx, show k - 1 = ν.1 by omega])
  · have sn := sumZ_n (g := (shG (ψ (15 + v)) (ψ (15 + w)))) (i := k - 1) (by omega)
    rw [show k - 1 + 1 = k by omega] at sn
    refine go_iload_n dX8_shared_51 rfl ?_
    refine go_aload_n dX8_shared_52 rfl rfl ?_
    refine g8_65 dX8_shared_53 ?_
    refine go_bipush dX8_shared_56 ⟨by decide, by decide⟩ ?_
    refine go_iload_n dX8_shared_58 rfl ?_
    refine go_iaddc dX8_shared_59 ⟨by omega, by omega⟩ ?_
    refine v8_358 dX8_shared_60 rfl ⟨rfl, rfl⟩ ⟨rfl, rfl⟩ (ct_X8_middle (a := 15 + v) (by omega) (by omega)) (fun r1 M1 N1 hr1 hq1 => ?_)
    obtain ⟨z1, rfl, rfl⟩ := hq1
    subst z1
    refine go_iload dX8_shared_63 rfl ?_
    refine go_iaddc dX8_shared_65 ⟨by omega, by omega⟩ ?_
    refine go_lald dX8_shared_66 rfl (by omega) (by omega) ?_
    rw [show 81 * (15 + v) + k = 81 * (15 + v) + 1 + (k - 1) by omega, e1 (k - 1) (by omega) (by omega)]
    refine go_lconst (x := 0) dX8_shared_67 rfl ?_
    refine go_lcmp_eq (tgt := 96) dX8_shared_68 dX8_shared_69 rfl (fun h68 => ?_) (fun h68 => ?_)
    · refine go_iconst dX8_shared_96 (R32_lit rfl) ?_
      refine go_iaddc dX8_shared_97 ⟨by omega, by omega⟩ ?_
      refine go_ist3 dX8_shared_98 rfl rfl ?_
      refine go_iinc4c dX8_shared_99 rfl rfl ⟨by omega, by omega⟩ ?_
      refine go_goto (tgt := 42) dX8_shared_102 rfl ?_
      refine ih (n - 1) (by omega) (k + 1) _ (by omega) (by omega) ?_
      rw [show k + 1 - 1 = k by omega, sn, hx]
      unfold shG
      first
      | (rw [if_pos ⟨by omega, by omega⟩]; done)
      | (rw [if_neg (fun q => q.1 (by omega))]; done)
      | (rw [if_neg (fun q => q.2 (by omega))]; done)
    · refine go_aload_n dX8_shared_72 rfl rfl ?_
      refine g8_65 dX8_shared_73 ?_
      refine go_bipush dX8_shared_76 ⟨by decide, by decide⟩ ?_
      refine go_iload_n dX8_shared_78 rfl ?_
      refine go_iaddc dX8_shared_79 ⟨by omega, by omega⟩ ?_
      refine v8_358 dX8_shared_80 rfl ⟨rfl, rfl⟩ ⟨rfl, rfl⟩ (ct_X8_middle (a := 15 + w) (by omega) (by omega)) (fun r2 M2 N2 hr2 hq2 => ?_)
      obtain ⟨z2, rfl, rfl⟩ := hq2
      subst z2
      refine go_iload dX8_shared_83 rfl ?_
      refine go_iaddc dX8_shared_85 ⟨by omega, by omega⟩ ?_
      refine go_lald dX8_shared_86 rfl (by omega) (by omega) ?_
      rw [show 81 * (15 + w) + k = 81 * (15 + w) + 1 + (k - 1) by omega, d1 (k - 1) (by omega) (by omega)]
      refine go_lconst (x := 0) dX8_shared_87 rfl ?_
      refine go_lcmp_eq (tgt := 96) dX8_shared_88 dX8_shared_89 rfl (fun h88 => ?_) (fun h88 => ?_)
      · refine go_iconst dX8_shared_96 (R32_lit rfl) ?_
        refine go_iaddc dX8_shared_97 ⟨by omega, by omega⟩ ?_
        refine go_ist3 dX8_shared_98 rfl rfl ?_
        refine go_iinc4c dX8_shared_99 rfl rfl ⟨by omega, by omega⟩ ?_
        refine go_goto (tgt := 42) dX8_shared_102 rfl ?_
        refine ih (n - 1) (by omega) (k + 1) _ (by omega) (by omega) ?_
        rw [show k + 1 - 1 = k by omega, sn, hx]
        unfold shG
        first
        | (rw [if_pos ⟨by omega, by omega⟩]; done)
        | (rw [if_neg (fun q => q.1 (by omega))]; done)
        | (rw [if_neg (fun q => q.2 (by omega))]; done)
      · refine go_iconst dX8_shared_92 (R32_lit rfl) ?_
        refine go_goto (tgt := 97) dX8_shared_93 rfl ?_
        refine go_iaddc dX8_shared_97 ⟨by omega, by omega⟩ ?_
        refine go_ist3 dX8_shared_98 rfl rfl ?_
        refine go_iinc4c dX8_shared_99 rfl rfl ⟨by omega, by omega⟩ ?_
        refine go_goto (tgt := 42) dX8_shared_102 rfl ?_
        refine ih (n - 1) (by omega) (k + 1) _ (by omega) (by omega) ?_
        rw [show k + 1 - 1 = k by omega, sn, hx]
        unfold shG
        first
        | (rw [if_pos ⟨by omega, by omega⟩]; done)
        | (rw [if_neg (fun q => q.1 (by omega))]; done)
        | (rw [if_neg (fun q => q.2 (by omega))]; done)
set_option maxRecDepth 100000 in
set_option maxHeartbeats 4000000 in
theorem ct_X8_shared {E : Ev} {M : Mm} {N : Nn} {S : Pg} {W : Int → Bool} {v w : Int} (hQ : QR S M) (hW : WF S) (hB : ∀ v, 0 ≤ v → v < S 11 0 → W v = true) (hNE : ∀ v : Nat, (v : Int) < S 11 0 → NEq S (sK S W v).1 v) : Ct E yX8_shared cX8_shared 5 ((some .int)) (rmH 9) [vr (29, 0, 0), vi v, vi w] M N (qi (fun r M1 N1 => ((0 ≤ v ∧ v < S 11 0 ∧ 0 ≤ w ∧ w < S 11 0) ∧ r = sumZ (shG ((sK S W (S 11 0).toNat).1 (15 + v.toNat)) ((sK S W (S 11 0).toNat).1 (15 + w.toNat))) (sK S W (S 11 0).toNat).2.1.1.toNat ∧ F8 (rfM M 0) M1 ∨ ¬ (0 ≤ v ∧ v < S 11 0 ∧ 0 ≤ w ∧ w < S 11 0) ∧ r = -1 ∧ F8 (rfM M 1) M1) ∧ N = N1)) := by
  refine ct_of (own := RX8) (L0 := [vr (29, 0, 0), vi v, vi w, vn, vn]) rfl (by decide +kernel) rfl rfl ?_
  have c6 := hQ.1
  have c5 := hQ.2.2.1
  have c0 := hQ.2.1
  refine go_aload_n dX8_shared_0 rfl rfl ?_
  refine go_aload_n dX8_shared_1 rfl rfl ?_
  refine go_iload_n dX8_shared_2 rfl ?_
  refine v8_285 dX8_shared_3 rfl ⟨rfl, rfl⟩ ⟨rfl, rfl⟩ (ct_X8_isVariable hQ) (fun r1 M1 N1 hr1 hq1 => ?_)
  obtain ⟨z1, rfl, rfl⟩ := hq1
  have z1 := bit_iff z1
  refine go_if_eq (tgt := 21) dX8_shared_6 rfl (fun h6 => ?_) (fun h6 => ?_)
  · refine go_iconst dX8_shared_21 (R32_lit rfl) ?_
    refine v8_292 dX8_shared_22 rfl ⟨rfl, rfl⟩ ⟨rfl, rfl⟩ ct_X8_unless (fun r3 M3 N3 hr3 hq3 => ?_)
    obtain ⟨z3, rfl, rfl⟩ := hq3
    have z3 := bit_iff z3
    refine v8_269 dX8_shared_25 rfl ⟨rfl, rfl⟩ ⟨rfl, rfl⟩ ct_X8_isRefused (fun r4 M4 N4 hr4 hq4 => ?_)
    obtain ⟨z4, rfl, rfl⟩ := hq4
    have z4 := bit_iff z4
    refine go_if_eq (tgt := 33) dX8_shared_28 rfl (fun h28 => ?_) (fun h28 => ?_)
    · have hv : 0 ≤ v ∧ v < S 11 0 := by omega
      rw [show r3 = 0 by omega]
      have hok : 0 ≤ v ∧ v < S 11 0 ∧ 0 ≤ w ∧ w < S 11 0 := by omega
      refine go_aload_n dX8_shared_33 rfl rfl ?_
      refine v8_299 dX8_shared_34 rfl ⟨rfl, rfl⟩ ⟨rfl, rfl⟩ (ct_X8_laysForms (rfM_Q hQ) hW hB hNE) (fun M5 N5 hq5 => ?_)
      obtain ⟨ψ, q1, q2, q3, q4, rfl⟩ := hq5
      have F8k := F8.of q4 (by decide) (by decide)
      obtain ⟨n1, n2, n3, n4⟩ := q1.2.1
      have w15 : ψ (15 + v) = (sK S W (S 11 0).toNat).1 (15 + v.toNat) := by
        have := q2 (15 + v.toNat) (by omega)
        rw [show ((15 + v.toNat : Nat) : Int) = 15 + v by omega] at this
        exact this
      have w16 : ψ (15 + w) = (sK S W (S 11 0).toNat).1 (15 + w.toNat) := by
        have := q2 (15 + w.toNat) (by omega)
        rw [show ((15 + w.toNat : Nat) : Int) = 15 + w by omega] at this
        exact this
      refine go_iconst dX8_shared_37 (R32_lit rfl) ?_
      refine go_ist3 dX8_shared_38 rfl rfl ?_
      refine go_iconst dX8_shared_39 (R32_lit rfl) ?_
      refine go_ist4 dX8_shared_40 rfl rfl ?_
      exact lp_X8_shared (fun r er => ⟨Or.inl ⟨hok, by rw [er, w15, w16], F8k⟩, rfl⟩) q1 (by omega) (by omega) (by omega) (by omega) (sK S W (S 11 0).toNat).2.1.1.toNat 1 0 (by omega) (by omega) rfl
    · refine go_iconst dX8_shared_31 (R32_lit rfl) ?_
      refine go_reti dX8_shared_32 ?_
      exact ⟨Or.inr ⟨by omega, rfl, by rw [show r3 = 1 by omega]; exact F8.rf⟩, rfl⟩
  · refine go_aload_n dX8_shared_9 rfl rfl ?_
    refine go_iload_n dX8_shared_10 rfl ?_
    refine v8_285 dX8_shared_11 rfl ⟨rfl, rfl⟩ ⟨rfl, rfl⟩ (ct_X8_isVariable hQ) (fun r2 M2 N2 hr2 hq2 => ?_)
    obtain ⟨z2, rfl, rfl⟩ := hq2
    have z2 := bit_iff z2
    refine go_if_eq (tgt := 21) dX8_shared_14 rfl (fun h14 => ?_) (fun h14 => ?_)
    · refine go_iconst dX8_shared_21 (R32_lit rfl) ?_
      refine v8_292 dX8_shared_22 rfl ⟨rfl, rfl⟩ ⟨rfl, rfl⟩ ct_X8_unless (fun r3 M3 N3 hr3 hq3 => ?_)
      obtain ⟨z3, rfl, rfl⟩ := hq3
      have z3 := bit_iff z3
      refine v8_269 dX8_shared_25 rfl ⟨rfl, rfl⟩ ⟨rfl, rfl⟩ ct_X8_isRefused (fun r4 M4 N4 hr4 hq4 => ?_)
      obtain ⟨z4, rfl, rfl⟩ := hq4
      have z4 := bit_iff z4
      refine go_if_eq (tgt := 33) dX8_shared_28 rfl (fun h28 => ?_) (fun h28 => ?_)
      · have hv : 0 ≤ v ∧ v < S 11 0 := by omega
        rw [show r3 = 0 by omega]
        have hok : 0 ≤ v ∧ v < S 11 0 ∧ 0 ≤ w ∧ w < S 11 0 := by omega
        refine go_aload_n dX8_shared_33 rfl rfl ?_
        refine v8_299 dX8_shared_34 rfl ⟨rfl, rfl⟩ ⟨rfl, rfl⟩ (ct_X8_laysForms (rfM_Q hQ) hW hB hNE) (fun M5 N5 hq5 => ?_)
        obtain ⟨ψ, q1, q2, q3, q4, rfl⟩ := hq5
        have F8k := F8.of q4 (by decide) (by decide)
        obtain ⟨n1, n2, n3, n4⟩ := q1.2.1
        have w15 : ψ (15 + v) = (sK S W (S 11 0).toNat).1 (15 + v.toNat) := by
          have := q2 (15 + v.toNat) (by omega)
          rw [show ((15 + v.toNat : Nat) : Int) = 15 + v by omega] at this
          exact this
        have w16 : ψ (15 + w) = (sK S W (S 11 0).toNat).1 (15 + w.toNat) := by
          have := q2 (15 + w.toNat) (by omega)
          rw [show ((15 + w.toNat : Nat) : Int) = 15 + w by omega] at this
          exact this
        refine go_iconst dX8_shared_37 (R32_lit rfl) ?_
        refine go_ist3 dX8_shared_38 rfl rfl ?_
        refine go_iconst dX8_shared_39 (R32_lit rfl) ?_
        refine go_ist4 dX8_shared_40 rfl rfl ?_
        exact lp_X8_shared (fun r er => ⟨Or.inl ⟨hok, by rw [er, w15, w16], F8k⟩, rfl⟩) q1 (by omega) (by omega) (by omega) (by omega) (sK S W (S 11 0).toNat).2.1.1.toNat 1 0 (by omega) (by omega) rfl
      · refine go_iconst dX8_shared_31 (R32_lit rfl) ?_
        refine go_reti dX8_shared_32 ?_
        exact ⟨Or.inr ⟨by omega, rfl, by rw [show r3 = 1 by omega]; exact F8.rf⟩, rfl⟩
    · refine go_iconst dX8_shared_17 (R32_lit rfl) ?_
      refine go_goto (tgt := 22) dX8_shared_18 rfl ?_
      refine v8_292 dX8_shared_22 rfl ⟨rfl, rfl⟩ ⟨rfl, rfl⟩ ct_X8_unless (fun r3 M3 N3 hr3 hq3 => ?_)
      obtain ⟨z3, rfl, rfl⟩ := hq3
      have z3 := bit_iff z3
      refine v8_269 dX8_shared_25 rfl ⟨rfl, rfl⟩ ⟨rfl, rfl⟩ ct_X8_isRefused (fun r4 M4 N4 hr4 hq4 => ?_)
      obtain ⟨z4, rfl, rfl⟩ := hq4
      have z4 := bit_iff z4
      refine go_if_eq (tgt := 33) dX8_shared_28 rfl (fun h28 => ?_) (fun h28 => ?_)
      · have hv : 0 ≤ v ∧ v < S 11 0 := by omega
        rw [show r3 = 0 by omega]
        have hok : 0 ≤ v ∧ v < S 11 0 ∧ 0 ≤ w ∧ w < S 11 0 := by omega
        refine go_aload_n dX8_shared_33 rfl rfl ?_
        refine v8_299 dX8_shared_34 rfl ⟨rfl, rfl⟩ ⟨rfl, rfl⟩ (ct_X8_laysForms (rfM_Q hQ) hW hB hNE) (fun M5 N5 hq5 => ?_)
        obtain ⟨ψ, q1, q2, q3, q4, rfl⟩ := hq5
        have F8k := F8.of q4 (by decide) (by decide)
        obtain ⟨n1, n2, n3, n4⟩ := q1.2.1
        have w15 : ψ (15 + v) = (sK S W (S 11 0).toNat).1 (15 + v.toNat) := by
          have := q2 (15 + v.toNat) (by omega)
          rw [show ((15 + v.toNat : Nat) : Int) = 15 + v by omega] at this
          exact this
        have w16 : ψ (15 + w) = (sK S W (S 11 0).toNat).1 (15 + w.toNat) := by
          have := q2 (15 + w.toNat) (by omega)
          rw [show ((15 + w.toNat : Nat) : Int) = 15 + w by omega] at this
          exact this
        refine go_iconst dX8_shared_37 (R32_lit rfl) ?_
        refine go_ist3 dX8_shared_38 rfl rfl ?_
        refine go_iconst dX8_shared_39 (R32_lit rfl) ?_
        refine go_ist4 dX8_shared_40 rfl rfl ?_
        exact lp_X8_shared (fun r er => ⟨Or.inl ⟨hok, by rw [er, w15, w16], F8k⟩, rfl⟩) q1 (by omega) (by omega) (by omega) (by omega) (sK S W (S 11 0).toNat).2.1.1.toNat 1 0 (by omega) (by omega) rfl
      · refine go_iconst dX8_shared_31 (R32_lit rfl) ?_
        refine go_reti dX8_shared_32 ?_
        exact ⟨Or.inr ⟨by omega, rfl, by rw [show r3 = 1 by omega]; exact F8.rf⟩, rfl⟩
theorem np_cs {S : Pg} {v r : Int} (e : r = if 0 ≤ v ∧ v < S 11 0 ∧ S 0 v ≠ -2 then (if S 0 v = 3 then 0 else 5) else 1) : ((0 ≤ v ∧ v < S 11 0 ∧ S 0 v = 3) ∧ r = 0) ∨ ((0 ≤ v ∧ v < S 11 0 ∧ S 0 v ≠ -2 ∧ S 0 v ≠ 3) ∧ r = 5) ∨ (¬ (0 ≤ v ∧ v < S 11 0 ∧ S 0 v ≠ -2) ∧ r = 1) := by
  by_cases a : 0 ≤ v ∧ v < S 11 0 ∧ S 0 v ≠ -2
  · rw [if_pos a] at e
    by_cases c : S 0 v = 3
    · rw [if_pos c] at e; exact Or.inl ⟨⟨a.1, a.2.1, c⟩, e⟩
    · rw [if_neg c] at e; exact Or.inr (Or.inl ⟨⟨a.1, a.2.1, a.2.2, c⟩, e⟩)
  · rw [if_neg a] at e; exact Or.inr (Or.inr ⟨a, e⟩)
set_option maxRecDepth 100000 in
set_option maxHeartbeats 4000000 in
theorem ct_X8_may {E : Ev} {M : Mm} {N : Nn} {S : Pg} {W : Int → Bool} {v : Int} (hQ : QR S M) (hW : WF S) (hB : ∀ v, 0 ≤ v → v < S 11 0 → W v = true) (hNE : ∀ v : Nat, (v : Int) < S 11 0 → NEq S (sK S W v).1 v) : Ct E yX8_may cX8_may 2 ((some .int)) (rmH 9) [vr (29, 0, 0), vi v] M N (qi (fun r M1 N1 => ((0 ≤ v ∧ v < S 11 0 ∧ S 0 v = 3) ∧ r = (sK S W (S 11 0).toNat).2.2 v ∧ F8 (rfM M 0) M1 ∨ (0 ≤ v ∧ v < S 11 0 ∧ S 0 v ≠ -2 ∧ S 0 v ≠ 3) ∧ r = -1 ∧ F8 (rfM M 5) M1 ∨ ¬ (0 ≤ v ∧ v < S 11 0 ∧ S 0 v ≠ -2) ∧ r = -1 ∧ F8 (rfM M 1) M1) ∧ N = N1)) := by
  refine ct_of (own := RX8) (L0 := [vr (29, 0, 0), vi v]) rfl (by decide +kernel) rfl rfl ?_
  have c6 := hQ.1
  have c5 := hQ.2.2.1
  have c0 := hQ.2.1
  refine go_aload_n dX8_may_0 rfl rfl ?_
  refine go_aload_n dX8_may_1 rfl rfl ?_
  refine go_iload_n dX8_may_2 rfl ?_
  refine v8_352 dX8_may_3 rfl ⟨rfl, rfl⟩ ⟨rfl, rfl⟩ (ct_X8_whyNoPick hQ) (fun r1 M1 N1 hr1 hq1 => ?_)
  obtain ⟨z1, rfl, rfl⟩ := hq1
  have z1 := np_cs z1
  refine v8_269 dX8_may_6 rfl ⟨rfl, rfl⟩ ⟨rfl, rfl⟩ ct_X8_isRefused (fun r2 M2 N2 hr2 hq2 => ?_)
  obtain ⟨z2, rfl, rfl⟩ := hq2
  have z2 := bit_iff z2
  refine go_if_eq (tgt := 14) dX8_may_9 rfl (fun h9 => ?_) (fun h9 => ?_)
  · have hok : 0 ≤ v ∧ v < S 11 0 ∧ S 0 v = 3 := by omega
    rw [show r1 = 0 by omega]
    refine go_aload_n dX8_may_14 rfl rfl ?_
    refine v8_299 dX8_may_15 rfl ⟨rfl, rfl⟩ ⟨rfl, rfl⟩ (ct_X8_laysForms (rfM_Q hQ) hW hB hNE) (fun M3 N3 hq3 => ?_)
    obtain ⟨ψ, q1, q2, q3, q4, rfl⟩ := hq3
    have F8k := F8.of q4 (by decide) (by decide)
    obtain ⟨n1, n2, n3, n4⟩ := q1.2.1
    refine go_aload_n dX8_may_18 rfl rfl ?_
    refine g8_80 dX8_may_19 ?_
    refine go_iload_n dX8_may_22 rfl ?_
    refine go_iald dX8_may_23 rfl (by omega) (by omega) ?_
    rw [q3 v hok.1 hok.2.1 hok.2.2]
    refine go_reti dX8_may_24 ?_
    exact ⟨Or.inl ⟨hok, rfl, F8k⟩, rfl⟩
  · refine go_iconst dX8_may_12 (R32_lit rfl) ?_
    refine go_reti dX8_may_13 ?_
    rcases z1 with ⟨y, e⟩ | ⟨y, e⟩ | ⟨y, e⟩
    · omega
    · rw [e]; exact ⟨Or.inr (Or.inl ⟨y, rfl, F8.rf⟩), rfl⟩
    · rw [e]; exact ⟨Or.inr (Or.inr ⟨y, rfl, F8.rf⟩), rfl⟩
