/-- the widest input that can be split -/
def wiR (S : Pg) (lo hi : Int → Int) : Nat → Int
  | 0 => -1
  | k + 1 => if S 0 k = -2 ∧ 0 < hi k - lo k ∧ (hi k - lo k).tmod 4 = 0 ∧ (wiR S lo hi k = -1 ∨ hi (wiR S lo hi k) - lo (wiR S lo hi k) < hi k - lo k) then k else wiR S lo hi k
theorem wiR_s {S : Pg} {lo hi : Int → Int} {k : Int} (h : 0 ≤ k) : wiR S lo hi (k + 1).toNat = if S 0 k = -2 ∧ 0 < hi k - lo k ∧ (hi k - lo k).tmod 4 = 0 ∧ (wiR S lo hi k.toNat = -1 ∨ hi (wiR S lo hi k.toNat) - lo (wiR S lo hi k.toNat) < hi k - lo k) then k else wiR S lo hi k.toNat := by
  rw [show (k + 1).toNat = k.toNat + 1 by omega]
  show (if S 0 (k.toNat : Int) = -2 ∧ 0 < hi (k.toNat : Int) - lo (k.toNat : Int) ∧ (hi (k.toNat : Int) - lo (k.toNat : Int)).tmod 4 = 0 ∧ (_ ∨ _ < hi (k.toNat : Int) - lo (k.toNat : Int)) then (k.toNat : Int) else _) = _
  rw [Int.toNat_of_nonneg h]
theorem wiR_bd (S : Pg) (lo hi : Int → Int) : ∀ n : Nat, wiR S lo hi n = -1 ∨ (0 ≤ wiR S lo hi n ∧ wiR S lo hi n < n ∧ S 0 (wiR S lo hi n) = -2)
  | 0 => Or.inl rfl
  | n + 1 => by
    have ih := wiR_bd S lo hi n
    have e := wiR_s (S := S) (lo := lo) (hi := hi) (k := n) (by omega)
    rw [show ((n : Int) + 1).toNat = n + 1 by omega, Int.toNat_natCast] at e
    rw [e]
    split
    · rename_i q; exact Or.inr ⟨by omega, by omega, q.1⟩
    · rcases ih with i | ⟨i1, i2, i3⟩
      · exact Or.inl i
      · exact Or.inr ⟨i1, by omega, i3⟩
set_option maxRecDepth 100000 in
set_option maxHeartbeats 4000000 in
theorem lp_X8_widest {E : Ev} {M : Mm} {N : Nn} {S : Pg} (hQ : QR S M) (hl : ∀ k, 0 ≤ k → k < S 11 0 → S 0 k = -2 → -1000 ≤ M (30, 0, 38) k ∧ M (30, 0, 38) k ≤ M (30, 0, 39) k ∧ M (30, 0, 39) k ≤ 1000) : ∀ (n : Nat) (k x : Int) (x3 : Vv), (k + n = S 11 0) → (0 ≤ k) → (x = (wiR S (M (30, 0, 38)) (M (30, 0, 39)) k.toNat)) → Go E RX8 cX8_widest 4 ((some .int)) (rmH 2) 0 0 (zM E (qi (fun r M1 N1 => r = (wiR S (M (30, 0, 38)) (M (30, 0, 39)) (S 11 0).toNat) ∧ M = M1 ∧ N = N1))) 4 [vr (29, 0, 0), vi x, vi k, x3] [] M N := by
  intro n
  induction n using Nat.strongRecOn with
  | ind n ih =>
  intro k x x3 hn k0 hx
  have c6 := hQ.1
  have c5 := hQ.2.2.1
  have c0 := hQ.2.1
  refine go_iload_n dX8_widest_4 rfl ?_
  refine go_aload_n dX8_widest_5 rfl rfl ?_
  refine g8_259 dX8_widest_6 ?_
  rw [c6]
  refine go_icmp_ge (tgt := 78) dX8_widest_9 rfl (fun h9 => ?_) (fun h9 => ?_)
  · refine go_iload_n dX8_widest_78 rfl ?_
    refine go_reti dX8_widest_79 ?_
    exact ⟨by rw [hx, show k = S 11 0 by omega], rfl, rfl⟩
  · have k1 : k < S 11 0 := by omega
    have ws := wiR_s (S := S) (lo := M (30, 0, 38)) (hi := M (30, 0, 39)) k0
    have wb := wiR_bd S (M (30, 0, 38)) (M (30, 0, 39)) k.toNat
    rw [← hx] at ws wb
    refine go_aload_n dX8_widest_12 rfl rfl ?_
    refine g8_77 dX8_widest_13 ?_
    refine go_iload_n dX8_widest_16 rfl ?_
    refine go_iald dX8_widest_17 rfl (by omega) (by omega) ?_
    refine go_aload_n dX8_widest_18 rfl rfl ?_
    refine g8_74 dX8_widest_19 ?_
    refine go_iload_n dX8_widest_22 rfl ?_
    refine go_iald dX8_widest_23 rfl (by omega) (by omega) ?_
    refine go_isub dX8_widest_24 ?_
    refine go_nmi (fun d ed => ?_)
    refine go_ist3 dX8_widest_25 rfl rfl ?_
    refine go_aload_n dX8_widest_26 rfl rfl ?_
    refine g8_19 dX8_widest_27 ?_
    refine go_iload_n dX8_widest_30 rfl ?_
    refine go_iald dX8_widest_31 rfl (by omega) (by omega) ?_
    rw [hQ.srt k0 k1]
    refine v8_248 dX8_widest_32 rfl ⟨rfl, rfl⟩ ⟨rfl, rfl⟩ ct_X8_isInput (fun r1 M1 N1 hr1 hq1 => ?_)
    obtain ⟨z1, rfl, rfl⟩ := hq1
    have z1 := bit_iff z1
    refine go_if_eq (tgt := 72) dX8_widest_35 rfl (fun h35 => ?_) (fun h35 => ?_)
    · refine go_iinc2c dX8_widest_72 rfl rfl ⟨by omega, by omega⟩ ?_
      refine go_goto (tgt := 4) dX8_widest_75 rfl ?_
      first
      | (have q : ¬ (S 0 k = -2 ∧ 0 < M (30, 0, 39) k - M (30, 0, 38) k ∧ (M (30, 0, 39) k - M (30, 0, 38) k).tmod 4 = 0 ∧ (x = -1 ∨ M (30, 0, 39) x - M (30, 0, 38) x < M (30, 0, 39) k - M (30, 0, 38) k)) := by
           intro q
           obtain ⟨q1, q2, q3, q4⟩ := q
           first
           | (rw [← et] at q3; omega)
           | omega
         rw [if_neg q] at ws
         exact ih (n - 1) (by omega) (k + 1) _ _ (by omega) (by omega) ws.symm)
      | (have q : S 0 k = -2 ∧ 0 < M (30, 0, 39) k - M (30, 0, 38) k ∧ (M (30, 0, 39) k - M (30, 0, 38) k).tmod 4 = 0 ∧ (x = -1 ∨ M (30, 0, 39) x - M (30, 0, 38) x < M (30, 0, 39) k - M (30, 0, 38) k) := ⟨by omega, by omega, by omega, by omega⟩
         rw [if_pos q] at ws
         exact ih (n - 1) (by omega) (k + 1) _ _ (by omega) (by omega) ws.symm)
    · have hin : S 0 k = -2 := by omega
      obtain ⟨l1, l2, l3⟩ := hl k k0 k1 hin
      rw [w32_id ⟨by omega, by omega⟩] at ed
      subst ed
      refine go_iload_n dX8_widest_38 rfl ?_
      refine go_if_le (tgt := 72) dX8_widest_39 rfl (fun h39 => ?_) (fun h39 => ?_)
      · refine go_iinc2c dX8_widest_72 rfl rfl ⟨by omega, by omega⟩ ?_
        refine go_goto (tgt := 4) dX8_widest_75 rfl ?_
        first
        | (have q : ¬ (S 0 k = -2 ∧ 0 < M (30, 0, 39) k - M (30, 0, 38) k ∧ (M (30, 0, 39) k - M (30, 0, 38) k).tmod 4 = 0 ∧ (x = -1 ∨ M (30, 0, 39) x - M (30, 0, 38) x < M (30, 0, 39) k - M (30, 0, 38) k)) := by
             intro q
             obtain ⟨q1, q2, q3, q4⟩ := q
             first
             | (rw [← et] at q3; omega)
             | omega
           rw [if_neg q] at ws
           exact ih (n - 1) (by omega) (k + 1) _ _ (by omega) (by omega) ws.symm)
        | (have q : S 0 k = -2 ∧ 0 < M (30, 0, 39) k - M (30, 0, 38) k ∧ (M (30, 0, 39) k - M (30, 0, 38) k).tmod 4 = 0 ∧ (x = -1 ∨ M (30, 0, 39) x - M (30, 0, 38) x < M (30, 0, 39) k - M (30, 0, 38) k) := ⟨by omega, by omega, by omega, by omega⟩
           rw [if_pos q] at ws
           exact ih (n - 1) (by omega) (k + 1) _ _ (by omega) (by omega) ws.symm)
      · refine go_iload_n dX8_widest_42 rfl ?_
        refine go_iconst dX8_widest_43 (R32_lit rfl) ?_
        refine go_irem dX8_widest_44 (by decide) ?_
        refine go_nmi (fun t et => ?_)
        refine go_if_ne (tgt := 72) dX8_widest_45 rfl (fun h45 => ?_) (fun h45 => ?_)
        · refine go_iinc2c dX8_widest_72 rfl rfl ⟨by omega, by omega⟩ ?_
          refine go_goto (tgt := 4) dX8_widest_75 rfl ?_
          first
          | (have q : ¬ (S 0 k = -2 ∧ 0 < M (30, 0, 39) k - M (30, 0, 38) k ∧ (M (30, 0, 39) k - M (30, 0, 38) k).tmod 4 = 0 ∧ (x = -1 ∨ M (30, 0, 39) x - M (30, 0, 38) x < M (30, 0, 39) k - M (30, 0, 38) k)) := by
               intro q
               obtain ⟨q1, q2, q3, q4⟩ := q
               first
               | (rw [← et] at q3; omega)
               | omega
             rw [if_neg q] at ws
             exact ih (n - 1) (by omega) (k + 1) _ _ (by omega) (by omega) ws.symm)
          | (have q : S 0 k = -2 ∧ 0 < M (30, 0, 39) k - M (30, 0, 38) k ∧ (M (30, 0, 39) k - M (30, 0, 38) k).tmod 4 = 0 ∧ (x = -1 ∨ M (30, 0, 39) x - M (30, 0, 38) x < M (30, 0, 39) k - M (30, 0, 38) k) := ⟨by omega, by omega, by omega, by omega⟩
             rw [if_pos q] at ws
             exact ih (n - 1) (by omega) (k + 1) _ _ (by omega) (by omega) ws.symm)
        · refine go_iload_n dX8_widest_48 rfl ?_
          refine go_iconst dX8_widest_49 (R32_lit rfl) ?_
          refine go_icmp_eq (tgt := 70) dX8_widest_50 rfl (fun h50 => ?_) (fun h50 => ?_)
          · refine go_iload_n dX8_widest_70 rfl ?_
            refine go_ist1 dX8_widest_71 rfl rfl ?_
            refine go_iinc2c dX8_widest_72 rfl rfl ⟨by omega, by omega⟩ ?_
            refine go_goto (tgt := 4) dX8_widest_75 rfl ?_
            first
            | (have q : ¬ (S 0 k = -2 ∧ 0 < M (30, 0, 39) k - M (30, 0, 38) k ∧ (M (30, 0, 39) k - M (30, 0, 38) k).tmod 4 = 0 ∧ (x = -1 ∨ M (30, 0, 39) x - M (30, 0, 38) x < M (30, 0, 39) k - M (30, 0, 38) k)) := by
                 intro q
                 obtain ⟨q1, q2, q3, q4⟩ := q
                 first
                 | (rw [← et] at q3; omega)
                 | omega
               rw [if_neg q] at ws
               exact ih (n - 1) (by omega) (k + 1) _ _ (by omega) (by omega) ws.symm)
            | (have q : S 0 k = -2 ∧ 0 < M (30, 0, 39) k - M (30, 0, 38) k ∧ (M (30, 0, 39) k - M (30, 0, 38) k).tmod 4 = 0 ∧ (x = -1 ∨ M (30, 0, 39) x - M (30, 0, 38) x < M (30, 0, 39) k - M (30, 0, 38) k) := ⟨by omega, by omega, by omega, by omega⟩
               rw [if_pos q] at ws
               exact ih (n - 1) (by omega) (k + 1) _ _ (by omega) (by omega) ws.symm)
          · have xb : 0 ≤ x ∧ x < S 11 0 ∧ S 0 x = -2 := by
              rcases wb with i | ⟨i1, i2, i3⟩
              · omega
              · exact ⟨i1, by omega, i3⟩
            obtain ⟨m1, m2, m3⟩ := hl x xb.1 xb.2.1 xb.2.2
            refine go_iload_n dX8_widest_53 rfl ?_
            refine go_aload_n dX8_widest_54 rfl rfl ?_
            refine g8_77 dX8_widest_55 ?_
            refine go_iload_n dX8_widest_58 rfl ?_
            refine go_iald dX8_widest_59 rfl (by omega) (by omega) ?_
            refine go_aload_n dX8_widest_60 rfl rfl ?_
            refine g8_74 dX8_widest_61 ?_
            refine go_iload_n dX8_widest_64 rfl ?_
            refine go_iald dX8_widest_65 rfl (by omega) (by omega) ?_
            refine go_isubc dX8_widest_66 ⟨by omega, by omega⟩ ?_
            refine go_icmp_le (tgt := 72) dX8_widest_67 rfl (fun h67 => ?_) (fun h67 => ?_)
            · refine go_iinc2c dX8_widest_72 rfl rfl ⟨by omega, by omega⟩ ?_
              refine go_goto (tgt := 4) dX8_widest_75 rfl ?_
              first
              | (have q : ¬ (S 0 k = -2 ∧ 0 < M (30, 0, 39) k - M (30, 0, 38) k ∧ (M (30, 0, 39) k - M (30, 0, 38) k).tmod 4 = 0 ∧ (x = -1 ∨ M (30, 0, 39) x - M (30, 0, 38) x < M (30, 0, 39) k - M (30, 0, 38) k)) := by
                   intro q
                   obtain ⟨q1, q2, q3, q4⟩ := q
                   first
                   | (rw [← et] at q3; omega)
                   | omega
                 rw [if_neg q] at ws
                 exact ih (n - 1) (by omega) (k + 1) _ _ (by omega) (by omega) ws.symm)
              | (have q : S 0 k = -2 ∧ 0 < M (30, 0, 39) k - M (30, 0, 38) k ∧ (M (30, 0, 39) k - M (30, 0, 38) k).tmod 4 = 0 ∧ (x = -1 ∨ M (30, 0, 39) x - M (30, 0, 38) x < M (30, 0, 39) k - M (30, 0, 38) k) := ⟨by omega, by omega, by omega, by omega⟩
                 rw [if_pos q] at ws
                 exact ih (n - 1) (by omega) (k + 1) _ _ (by omega) (by omega) ws.symm)
            · refine go_iload_n dX8_widest_70 rfl ?_
              refine go_ist1 dX8_widest_71 rfl rfl ?_
              refine go_iinc2c dX8_widest_72 rfl rfl ⟨by omega, by omega⟩ ?_
              refine go_goto (tgt := 4) dX8_widest_75 rfl ?_
              first
              | (have q : ¬ (S 0 k = -2 ∧ 0 < M (30, 0, 39) k - M (30, 0, 38) k ∧ (M (30, 0, 39) k - M (30, 0, 38) k).tmod 4 = 0 ∧ (x = -1 ∨ M (30, 0, 39) x - M (30, 0, 38) x < M (30, 0, 39) k - M (30, 0, 38) k)) := by
                   intro q
                   obtain ⟨q1, q2, q3, q4⟩ := q
                   first
                   | (rw [← et] at q3; omega)
                   | omega
                 rw [if_neg q] at ws
                 exact ih (n - 1) (by omega) (k + 1) _ _ (by omega) (by omega) ws.symm)
              | (have q : S 0 k = -2 ∧ 0 < M (30, 0, 39) k - M (30, 0, 38) k ∧ (M (30, 0, 39) k - M (30, 0, 38) k).tmod 4 = 0 ∧ (x = -1 ∨ M (30, 0, 39) x - M (30, 0, 38) x < M (30, 0, 39) k - M (30, 0, 38) k) := ⟨by omega, by omega, by omega, by omega⟩
                 rw [if_pos q] at ws
                 exact ih (n - 1) (by omega) (k + 1) _ _ (by omega) (by omega) ws.symm)
set_option maxRecDepth 100000 in
set_option maxHeartbeats 4000000 in
theorem ct_X8_widest {E : Ev} {M : Mm} {N : Nn} {S : Pg} (hQ : QR S M) (hl : ∀ k, 0 ≤ k → k < S 11 0 → S 0 k = -2 → -1000 ≤ M (30, 0, 38) k ∧ M (30, 0, 38) k ≤ M (30, 0, 39) k ∧ M (30, 0, 39) k ≤ 1000) : Ct E yX8_widest cX8_widest 4 ((some .int)) (rmH 2) [vr (29, 0, 0)] M N (qi (fun r M1 N1 => r = (wiR S (M (30, 0, 38)) (M (30, 0, 39)) (S 11 0).toNat) ∧ M = M1 ∧ N = N1)) := by
  refine ct_of (own := RX8) (L0 := [vr (29, 0, 0), vn, vn, vn]) rfl (by decide +kernel) rfl rfl ?_
  refine go_iconst dX8_widest_0 (R32_lit rfl) ?_
  refine go_ist1 dX8_widest_1 rfl rfl ?_
  refine go_iconst dX8_widest_2 (R32_lit rfl) ?_
  refine go_ist2 dX8_widest_3 rfl rfl ?_
  have c0 := hQ.2.1
  exact lp_X8_widest hQ hl (S 11 0).toNat 0 _ _ (by omega) (by omega) rfl
