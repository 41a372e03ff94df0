/-- the i-th doubtful pick: whether none, and which -/
def duR (S : Pg) (ma : Int → Int) (i : Int) : Nat → Int → Int → Int × Int
  | 0, _, _ => (1, 0)
  | n + 1, v, c => if S 0 v = 3 ∧ 16 ≤ ma v then (if c = i then (0, v) else duR S ma i n (v + 1) (c + 1)) else duR S ma i n (v + 1) c
theorem duR_s {S : Pg} {ma : Int → Int} {i v c : Int} {n : Nat} (h : 0 < n) : duR S ma i n v c = if S 0 v = 3 ∧ 16 ≤ ma v then (if c = i then (0, v) else duR S ma i (n - 1) (v + 1) (c + 1)) else duR S ma i (n - 1) (v + 1) c := by
  cases n with
  | zero => exact absurd h (by decide)
  | succ m => rfl
set_option maxRecDepth 100000 in
set_option maxHeartbeats 4000000 in
theorem ld_all {E : Ev} {M : Mm} {N : Nn} {S : Pg} {ma : Int → Int} {i : Int} {Q : Int → Mm → Nn → Prop} (hQ : QR S M) (hm : ∀ v, 0 ≤ v → v < S 11 0 → S 0 v = 3 → M (30, 0, 40) v = ma v) (hT0 : ∀ r, (duR S ma i (S 11 0).toNat 0 0) = (0, r) → Q r M N) (hT1 : (duR S ma i (S 11 0).toNat 0 0) = (1, 0) → Q 0 (wr M (29, 0, 0) 0 1) N) : ∀ (n : Nat) (v c : Int), (v + n = S 11 0) → (0 ≤ v) → (0 ≤ c) → (c ≤ v) → (duR S ma i n v c = (duR S ma i (S 11 0).toNat 0 0)) → Go E RX8 cX8_doubtful 4 ((some .int)) (rmH 9) 0 0 (zM E (qi Q)) 20 [vr (29, 0, 0), vi i, vi c, vi v] [] M N := by
  intro n
  induction n using Nat.strongRecOn with
  | ind n ih =>
  intro v c hn v0 k0 k1 hE
  have c6 := hQ.1
  have c5 := hQ.2.2.1
  have c0 := hQ.2.1
  refine go_iload_n dX8_doubtful_20 rfl ?_
  refine go_aload_n dX8_doubtful_21 rfl rfl ?_
  refine g8_259 dX8_doubtful_22 ?_
  rw [c6]
  refine go_icmp_ge (tgt := 65) dX8_doubtful_25 rfl (fun h25 => ?_) (fun h25 => ?_)
  · refine go_aload_n dX8_doubtful_65 rfl rfl ?_
    refine go_iconst dX8_doubtful_66 (R32_lit rfl) ?_
    refine p8_105 dX8_doubtful_67 ?_
    refine go_iconst dX8_doubtful_70 (R32_lit rfl) ?_
    refine go_reti dX8_doubtful_71 ?_
    rw [show n = 0 by omega] at hE
    exact hT1 hE.symm
  · have v1 : v < S 11 0 := by omega
    have ds := duR_s (S := S) (ma := ma) (i := i) (v := v) (c := c) (n := n) (by omega)
    refine go_aload_n dX8_doubtful_28 rfl rfl ?_
    refine g8_19 dX8_doubtful_29 ?_
    refine go_iload_n dX8_doubtful_32 rfl ?_
    refine go_iald dX8_doubtful_33 rfl (by omega) (by omega) ?_
    rw [hQ.srt v0 v1]
    refine go_iconst dX8_doubtful_34 (R32_lit rfl) ?_
    refine go_icmp_ne (tgt := 59) dX8_doubtful_35 rfl (fun h35 => ?_) (fun h35 => ?_)
    · refine go_iinc3c dX8_doubtful_59 rfl rfl ⟨by omega, by omega⟩ ?_
      refine go_goto (tgt := 20) dX8_doubtful_62 rfl ?_
      first
      | (have q : ¬ (S 0 v = 3 ∧ 16 ≤ ma v) := by omega
         rw [if_neg q] at ds
         exact ih (n - 1) (by omega) (v + 1) c (by omega) (by omega) (by omega) (by omega) (by rw [← ds]; exact hE))
      | (have q : S 0 v = 3 ∧ 16 ≤ ma v := by omega
         rw [if_pos q, if_neg (by omega)] at ds
         exact ih (n - 1) (by omega) (v + 1) (c + 1) (by omega) (by omega) (by omega) (by omega) (by rw [← ds]; exact hE))
    · refine go_aload_n dX8_doubtful_38 rfl rfl ?_
      refine g8_80 dX8_doubtful_39 ?_
      refine go_iload_n dX8_doubtful_42 rfl ?_
      refine go_iald dX8_doubtful_43 rfl (by omega) (by omega) ?_
      rw [hm v v0 v1 (by omega)]
      refine go_bipush dX8_doubtful_44 ⟨by decide, by decide⟩ ?_
      refine go_icmp_lt (tgt := 59) dX8_doubtful_46 rfl (fun h46 => ?_) (fun h46 => ?_)
      · refine go_iinc3c dX8_doubtful_59 rfl rfl ⟨by omega, by omega⟩ ?_
        refine go_goto (tgt := 20) dX8_doubtful_62 rfl ?_
        first
        | (have q : ¬ (S 0 v = 3 ∧ 16 ≤ ma v) := by omega
           rw [if_neg q] at ds
           exact ih (n - 1) (by omega) (v + 1) c (by omega) (by omega) (by omega) (by omega) (by rw [← ds]; exact hE))
        | (have q : S 0 v = 3 ∧ 16 ≤ ma v := by omega
           rw [if_pos q, if_neg (by omega)] at ds
           exact ih (n - 1) (by omega) (v + 1) (c + 1) (by omega) (by omega) (by omega) (by omega) (by rw [← ds]; exact hE))
      · refine go_iload_n dX8_doubtful_49 rfl ?_
        refine go_iload_n dX8_doubtful_50 rfl ?_
        refine go_icmp_ne (tgt := 56) dX8_doubtful_51 rfl (fun h51 => ?_) (fun h51 => ?_)
        · refine go_iinc2c dX8_doubtful_56 rfl rfl ⟨by omega, by omega⟩ ?_
          refine go_iinc3c dX8_doubtful_59 rfl rfl ⟨by omega, by omega⟩ ?_
          refine go_goto (tgt := 20) dX8_doubtful_62 rfl ?_
          first
          | (have q : ¬ (S 0 v = 3 ∧ 16 ≤ ma v) := by omega
             rw [if_neg q] at ds
             exact ih (n - 1) (by omega) (v + 1) c (by omega) (by omega) (by omega) (by omega) (by rw [← ds]; exact hE))
          | (have q : S 0 v = 3 ∧ 16 ≤ ma v := by omega
             rw [if_pos q, if_neg (by omega)] at ds
             exact ih (n - 1) (by omega) (v + 1) (c + 1) (by omega) (by omega) (by omega) (by omega) (by rw [← ds]; exact hE))
        · refine go_iload_n dX8_doubtful_54 rfl ?_
          refine go_reti dX8_doubtful_55 ?_
          rw [if_pos (show S 0 v = 3 ∧ 16 ≤ ma v by omega), if_pos (by omega)] at ds
          exact hT0 v (by rw [← hE, ds])
set_option maxRecDepth 100000 in
set_option maxHeartbeats 4000000 in
theorem ct_X8_doubtful {E : Ev} {M : Mm} {N : Nn} {S : Pg} {W : Int → Bool} {i : Int} (hQ : QR S M) (hW : WF S ∨ S 11 0 = 0) (hB : ∀ v, 0 ≤ v → v < S 11 0 → W v = true) (hNE : ∀ v : Nat, (v : Int) < S 11 0 → NEq S (sK S W v).1 v) : Ct E yX8_doubtful cX8_doubtful 4 ((some .int)) (rmH 9) [vr (29, 0, 0), vi i] M N (qi (fun r M1 N1 => r = (duR S (sK S W (S 11 0).toNat).2.2 i (S 11 0).toNat 0 0).2 ∧ M1 (29, 0, 0) 0 = (duR S (sK S W (S 11 0).toNat).2.2 i (S 11 0).toNat 0 0).1 ∧ Kr [0, 34, 37, 42] [28, 29, 33, 35, 36, 38, 39, 40, 41] M M1 ∧ N = N1)) := by
  refine ct_of (own := RX8) (L0 := [vr (29, 0, 0), vi i, vn, vn]) rfl (by decide +kernel) rfl rfl ?_
  have c6 := hQ.1
  have c5 := hQ.2.2.1
  have c0 := hQ.2.1
  have it := hQ.2.2.2.1
  refine go_aload_n dX8_doubtful_0 rfl rfl ?_
  refine go_iconst dX8_doubtful_1 (R32_lit rfl) ?_
  refine p8_105 dX8_doubtful_2 ?_
  refine go_nmM (fun Ma eMa => ?_)
  have fa : Kr [0, 34, 37, 42] [28, 29, 33, 35, 36, 38, 39, 40, 41] M Ma := by rw [eMa]; exact Kr.rf.ws (by decide)
  have ea : Ma (29, 0, 0) 0 = 0 := by rw [eMa, wr_eq]
  clear eMa
  have Qa : QR S Ma := hQ.k fa (by decide) (by decide) (by decide) (by decide) (by decide) (by decide) (by decide) (by decide)
  refine go_aload_n dX8_doubtful_5 rfl rfl ?_
  refine g8_281 dX8_doubtful_6 ?_
  rw [fa.s 14 (by decide)]
  refine go_if_eq (tgt := 16) dX8_doubtful_9 rfl (fun h9 => ?_) (fun h9 => ?_)
  · refine go_iconst dX8_doubtful_16 (R32_lit rfl) ?_
    refine go_ist2 dX8_doubtful_17 rfl rfl ?_
    refine go_iconst dX8_doubtful_18 (R32_lit rfl) ?_
    refine go_ist3 dX8_doubtful_19 rfl rfl ?_
    first
    | (obtain ⟨ψ, q1, q2, q3, q4, rfl⟩ := hq1
       have f3 : Kr [0, 34, 37, 42] [28, 29, 33, 35, 36, 38, 39, 40, 41] M M3 := fa.tr (q4.up (by decide) (by decide))
       exact ld_all (ma := (sK S W (S 11 0).toNat).2.2) (Qa.k q4 (by decide) (by decide) (by decide) (by decide) (by decide) (by decide) (by decide) (by decide)) q3 (fun r e => ⟨by rw [e], by rw [e]; exact ((q4.s 0 (by decide)).trans ea), f3, rfl⟩) (fun e => ⟨by rw [e], by rw [e, wr_eq], (f3).ws (by decide), rfl⟩) (S 11 0).toNat 0 0 (by omega) (by omega) (by omega) (by omega) rfl)
    | (have z0 : S 11 0 = 0 := by omega
       exact ld_all (ma := (sK S W (S 11 0).toNat).2.2) Qa (fun v v0 v1 => absurd v1 (by omega)) (fun r e => ⟨by rw [e], by rw [e]; exact ea, fa, rfl⟩) (fun e => ⟨by rw [e], by rw [e, wr_eq], (fa).ws (by decide), rfl⟩) (S 11 0).toNat 0 0 (by omega) (by omega) (by omega) (by omega) rfl)
  · have hW2 : WF S := by
      rcases hW with h | h
      · exact h
      · omega
    refine go_aload_n dX8_doubtful_12 rfl rfl ?_
    refine v8_299 dX8_doubtful_13 rfl ⟨rfl, rfl⟩ ⟨rfl, rfl⟩ (ct_X8_laysForms Qa hW2 hB hNE) (fun M3 N3 hq1 => ?_)
    refine go_iconst dX8_doubtful_16 (R32_lit rfl) ?_
    refine go_ist2 dX8_doubtful_17 rfl rfl ?_
    refine go_iconst dX8_doubtful_18 (R32_lit rfl) ?_
    refine go_ist3 dX8_doubtful_19 rfl rfl ?_
    first
    | (obtain ⟨ψ, q1, q2, q3, q4, rfl⟩ := hq1
       have f3 : Kr [0, 34, 37, 42] [28, 29, 33, 35, 36, 38, 39, 40, 41] M M3 := fa.tr (q4.up (by decide) (by decide))
       exact ld_all (ma := (sK S W (S 11 0).toNat).2.2) (Qa.k q4 (by decide) (by decide) (by decide) (by decide) (by decide) (by decide) (by decide) (by decide)) q3 (fun r e => ⟨by rw [e], by rw [e]; exact ((q4.s 0 (by decide)).trans ea), f3, rfl⟩) (fun e => ⟨by rw [e], by rw [e, wr_eq], (f3).ws (by decide), rfl⟩) (S 11 0).toNat 0 0 (by omega) (by omega) (by omega) (by omega) rfl)
    | (have z0 : S 11 0 = 0 := by omega
       exact ld_all (ma := (sK S W (S 11 0).toNat).2.2) Qa (fun v v0 v1 => absurd v1 (by omega)) (fun r e => ⟨by rw [e], by rw [e]; exact ea, fa, rfl⟩) (fun e => ⟨by rw [e], by rw [e, wr_eq], (fa).ws (by decide), rfl⟩) (S 11 0).toNat 0 0 (by omega) (by omega) (by omega) (by omega) rfl)
