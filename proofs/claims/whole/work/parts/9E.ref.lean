/-- a point drawn by the variables, and the seed behind it -/
def dqS (S : Pg) (pt : Int → Int) (s : Int) : Nat → (Int → Int) × Int
  | 0 => (pt, s)
  | v + 1 => if S 0 v = -2 then (upI (dqS S pt s v).1 v (S 2 v + drw (sdN (dqS S pt s v).2) (S 3 v - S 2 v + 1)), sdN (dqS S pt s v).2) else (upI (dqS S pt s v).1 v 0, (dqS S pt s v).2)
theorem dqS_s (S : Pg) (pt : Int → Int) (s : Int) {v : Int} (h : 0 ≤ v) : dqS S pt s (v + 1).toNat = if S 0 v = -2 then (upI (dqS S pt s v.toNat).1 v (S 2 v + drw (sdN (dqS S pt s v.toNat).2) (S 3 v - S 2 v + 1)), sdN (dqS S pt s v.toNat).2) else (upI (dqS S pt s v.toNat).1 v 0, (dqS S pt s v.toNat).2) := by
  rw [show (v + 1).toNat = v.toNat + 1 by omega]
  show (if S 0 (v.toNat : Int) = -2 then (upI _ (v.toNat : Int) (S 2 (v.toNat : Int) + drw _ (S 3 (v.toNat : Int) - S 2 (v.toNat : Int) + 1)), _) else (upI _ (v.toNat : Int) 0, _)) = _
  rw [Int.toNat_of_nonneg h]
theorem dqS_bd (S : Pg) (pt : Int → Int) {s : Int} (h0 : 0 ≤ s) (h1 : s ≤ 65536) : ∀ i : Nat, 0 ≤ (dqS S pt s i).2 ∧ (dqS S pt s i).2 ≤ 65536
  | 0 => ⟨h0, h1⟩
  | i + 1 => by
    have ih := dqS_bd S pt h0 h1 i
    show 0 ≤ (if S 0 i = -2 then _ else _ : (Int → Int) × Int).2 ∧ (if S 0 i = -2 then _ else _ : (Int → Int) × Int).2 ≤ 65536
    by_cases q : S 0 i = -2
    · rw [if_pos q]; exact sdN_bd ih.1
    · rw [if_neg q]; exact ih
/-- a point within the ranges -/
def PtI (S : Pg) (pt : Int → Int) : Prop := ∀ k, 0 ≤ k → k < S 11 0 → S 0 k = -2 → S 2 k ≤ pt k ∧ pt k ≤ S 3 k
theorem dqS_in (S : Pg) (pt : Int → Int) {s : Int} (hW : WF S) (h0 : 0 ≤ s) (h1 : s ≤ 65536) : ∀ n : Nat, (n : Int) ≤ S 11 0 → ∀ k : Int, 0 ≤ k → k < n → S 0 k = -2 → S 2 k ≤ (dqS S pt s n).1 k ∧ (dqS S pt s n).1 k ≤ S 3 k
  | 0, _, k, k0, k1, _ => absurd k1 (by omega)
  | n + 1, hn, k, k0, k1, kq => by
    have e := dqS_s S pt s (v := n) (by omega)
    rw [show ((n : Int) + 1).toNat = n + 1 by omega, Int.toNat_natCast] at e
    rw [e]
    by_cases z : k = n
    · rw [z] at kq
      rw [if_pos kq]
      show S 2 k ≤ upI _ _ _ k ∧ upI _ _ _ k ≤ S 3 k
      unfold upI
      rw [if_pos z, z]
      have w := (hW.2.2.2.2.2.2.1 n (by omega) (by omega)).1.1 kq
      have d := drw_bd (s := sdN (dqS S pt s n).2) (m := S 3 n - S 2 n + 1) (sdN_bd (dqS_bd S pt h0 h1 n).1).1
      have d2 := d.2 (by omega)
      omega
    · have ih := dqS_in S pt hW h0 h1 n (by omega) k k0 (by omega) kq
      by_cases q : S 0 n = -2
      · rw [if_pos q]
        show S 2 k ≤ upI _ _ _ k ∧ upI _ _ _ k ≤ S 3 k
        unfold upI
        rw [if_neg z]; exact ih
      · rw [if_neg q]
        show S 2 k ≤ upI _ _ _ k ∧ upI _ _ _ k ≤ S 3 k
        unfold upI
        rw [if_neg z]; exact ih
theorem c8w_471 {E : Ev} {cc : ByteArray} {nL : Nat} {ret : Option FieldType} {R : Room} {cl sl : Nat} {Z : Zt} {pc : Nat} {L st : List Vv} {M : Mm} {N : Nn} (hd : decode cc pc = .ok (.ldc_w 471, 3)) (k : Go E RX8 cc nL ret R cl sl Z (pc + 3) L (vi 65537 :: st) M N) : Go E RX8 cc nL ret R cl sl Z (pc) L (st) M N := by
  intro p e s m args below meth c C H locs ls hP hS hL hst hl
  exact lv_ldcw (v := 65537) C.1 C.2.1 C.2.2.2.2.1 (C.2.2.2.2.2.1 _ (bg7 160 (by decide +kernel) rfl)) hd (k p e s m args below meth c C H locs ls hP hS hL (okL_cons (R32_lit rfl) hst) hl)
set_option maxRecDepth 100000 in
set_option maxHeartbeats 4000000 in
theorem ct_X8_draws {E : Ev} {M : Mm} {N : Nn} {m : Int} (s0 : 0 ≤ M (29, 0, 0) 48) (s1 : M (29, 0, 0) 48 ≤ 65536) (m0 : 0 < m) : Ct E yX8_draws cX8_draws 2 ((some .int)) (rmH 1) [vr (29, 0, 0), vi m] M N (qi (fun r M1 N1 => r = drw (sdN (M (29, 0, 0) 48)) m ∧ M1 = wr M (29, 0, 0) 48 (sdN (M (29, 0, 0) 48)) ∧ N = N1)) := by
  refine ct_of (own := RX8) (L0 := [vr (29, 0, 0), vi m]) rfl (by decide +kernel) rfl rfl ?_
  refine go_aload_n dX8_draws_0 rfl rfl ?_
  refine go_bipush dX8_draws_1 ⟨by decide, by decide⟩ ?_
  refine go_aload_n dX8_draws_3 rfl rfl ?_
  refine g8_468 dX8_draws_4 ?_
  refine go_imulc dX8_draws_7 ⟨by omega, by omega⟩ ?_
  refine go_bipush dX8_draws_8 ⟨by decide, by decide⟩ ?_
  refine go_iaddc dX8_draws_10 ⟨by omega, by omega⟩ ?_
  refine c8w_471 dX8_draws_11 ?_
  refine go_irem dX8_draws_14 (by decide) ?_
  refine p8_468 dX8_draws_15 ?_
  refine go_aload_n dX8_draws_18 rfl rfl ?_
  refine g8_468 dX8_draws_19 ?_
  rw [wr_eq]
  refine go_iload_n dX8_draws_22 rfl ?_
  refine go_irem dX8_draws_23 (by omega) ?_
  skip
  refine go_reti dX8_draws_24 ?_
  exact ⟨by unfold drw; rw [if_pos m0]; rfl, rfl, rfl⟩
set_option maxRecDepth 100000 in
set_option maxHeartbeats 4000000 in
theorem lp_X8_drawsPoint {E : Ev} {M : Mm} {N : Nn} {S : Pg} (hQ : QR S M) (hW : WF S) (s0 : 0 ≤ M (29, 0, 0) 48) (s1 : M (29, 0, 0) 48 ≤ 65536) : ∀ (n : Nat) (v : Int) (M2 : Mm), (v + n = S 11 0) → (0 ≤ v) → (M2 (30, 0, 32) = (dqS S (M (30, 0, 32)) (M (29, 0, 0) 48) v.toNat).1) → (M2 (29, 0, 0) 48 = (dqS S (M (30, 0, 32)) (M (29, 0, 0) 48) v.toNat).2) → (Kr [48] [32] M M2) → Go E RX8 cX8_drawsPoint 2 (none) (rmH 2) 0 0 (zM E (qv (fun M1 N1 => M1 (30, 0, 32) = (dqS S (M (30, 0, 32)) (M (29, 0, 0) 48) (S 11 0).toNat).1 ∧ M1 (29, 0, 0) 48 = (dqS S (M (30, 0, 32)) (M (29, 0, 0) 48) (S 11 0).toNat).2 ∧ Kr [48] [32] M M1 ∧ N = N1))) 2 [vr (29, 0, 0), vi v] [] M2 N := by
  intro n
  induction n using Nat.strongRecOn with
  | ind n ih =>
  intro v M2 hn v0 hA hs hf
  have c6 := hQ.1
  have c5 := hQ.2.2.1
  have c0 := hQ.2.1
  refine go_iload_n dX8_drawsPoint_2 rfl ?_
  refine go_aload_n dX8_drawsPoint_3 rfl rfl ?_
  refine g8_259 dX8_drawsPoint_4 ?_
  rw [hf.s 6 (by decide), c6]
  refine go_icmp_ge (tgt := 64) dX8_drawsPoint_7 rfl (fun h7 => ?_) (fun h7 => ?_)
  · refine go_retv dX8_drawsPoint_64 ?_
    rw [show v = S 11 0 by omega] at hA hs
    exact ⟨hA, hs, hf, rfl⟩
  · have c7 : v < S 11 0 := by omega
    have es := dqS_s S (M (30, 0, 32)) (M (29, 0, 0) 48) v0
    have db := dqS_bd S (M (30, 0, 32)) s0 s1 v.toNat
    have pr := (hQ.2.2.2.2 v v0 c7).2.2.1
    rw [Int.zero_add] at pr
    refine go_aload_n dX8_drawsPoint_10 rfl rfl ?_
    refine g8_62 dX8_drawsPoint_11 ?_
    refine go_iload_n dX8_drawsPoint_14 rfl ?_
    refine go_aload_n dX8_drawsPoint_15 rfl rfl ?_
    refine g8_19 dX8_drawsPoint_16 ?_
    refine go_iload_n dX8_drawsPoint_19 rfl ?_
    refine go_iald dX8_drawsPoint_20 rfl (by omega) (by omega) ?_
    rw [hf.a 7 (by decide), hQ.srt v0 c7]
    refine v8_248 dX8_drawsPoint_21 rfl ⟨rfl, rfl⟩ ⟨rfl, rfl⟩ ct_X8_isInput (fun r1 M1 N1 hr1 hq1 => ?_)
    obtain ⟨z1, rfl, rfl⟩ := hq1
    have z1 := bit_iff z1
    refine go_if_eq (tgt := 56) dX8_drawsPoint_24 rfl (fun h24 => ?_) (fun h24 => ?_)
    · have hnn : ¬ S 0 v = -2 := by omega
      rw [if_neg hnn] at es
      refine go_iconst dX8_drawsPoint_56 (R32_lit rfl) ?_
      refine go_iast dX8_drawsPoint_57 rfl (by omega) (by omega) ?_
      refine go_iinc1c dX8_drawsPoint_58 rfl rfl ⟨by omega, by omega⟩ ?_
      refine go_goto (tgt := 2) dX8_drawsPoint_61 rfl ?_
      first
      | (refine ih (n - 1) (by omega) (v + 1) _ (by omega) (by omega) ?_ ?_ ((hf.ws (by decide)).wa (by decide))
         · rw [upI_wr, wr_nf (nm_ne1 (by decide)), hA, es, z2]
         · rw [wr_nn (nm_ne1 (by decide)), wr_eq, hs, es])
      | (refine ih (n - 1) (by omega) (v + 1) _ (by omega) (by omega) ?_ ?_ (hf.wa (by decide))
         · rw [upI_wr, hA, es]
         · rw [wr_nn (nm_ne1 (by decide)), hs, es])
    · have hin : S 0 v = -2 := by omega
      rw [if_pos hin] at es
      obtain ⟨p1, p2⟩ := pr hin
      obtain ⟨w1, w2, w3⟩ := (hW.2.2.2.2.2.2.1 v v0 c7).1.1 hin
      refine go_aload_n dX8_drawsPoint_27 rfl rfl ?_
      refine g8_25 dX8_drawsPoint_28 ?_
      refine go_iload_n dX8_drawsPoint_31 rfl ?_
      refine go_iald dX8_drawsPoint_32 rfl (by omega) (by omega) ?_
      rw [hf.a 9 (by decide), p1]
      refine go_aload_n dX8_drawsPoint_33 rfl rfl ?_
      refine go_aload_n dX8_drawsPoint_34 rfl rfl ?_
      refine g8_28 dX8_drawsPoint_35 ?_
      refine go_iload_n dX8_drawsPoint_38 rfl ?_
      refine go_iald dX8_drawsPoint_39 rfl (by omega) (by omega) ?_
      rw [hf.a 10 (by decide), p2]
      refine go_aload_n dX8_drawsPoint_40 rfl rfl ?_
      refine g8_25 dX8_drawsPoint_41 ?_
      refine go_iload_n dX8_drawsPoint_44 rfl ?_
      refine go_iald dX8_drawsPoint_45 rfl (by omega) (by omega) ?_
      rw [hf.a 9 (by decide), p1]
      refine go_isubc dX8_drawsPoint_46 ⟨by omega, by omega⟩ ?_
      refine go_iconst dX8_drawsPoint_47 (R32_lit rfl) ?_
      refine go_iaddc dX8_drawsPoint_48 ⟨by omega, by omega⟩ ?_
      refine v8_472 dX8_drawsPoint_49 rfl ⟨rfl, rfl⟩ ⟨rfl, rfl⟩ (ct_X8_draws (by omega) (by omega) (by omega)) (fun r2 M3 N3 hr2 hq2 => ?_)
      obtain ⟨z2, rfl, rfl⟩ := hq2
      rw [hs] at z2
      have dw := drw_bd (s := sdN (dqS S (M (30, 0, 32)) (M (29, 0, 0) 48) v.toNat).2) (m := S 3 v - S 2 v + 1) (sdN_bd db.1).1
      have dw2 := dw.2 (by omega)
      rw [← z2] at dw dw2
      refine go_iaddc dX8_drawsPoint_52 ⟨by omega, by omega⟩ ?_
      refine go_goto (tgt := 57) dX8_drawsPoint_53 rfl ?_
      refine go_iast dX8_drawsPoint_57 rfl (by omega) (by omega) ?_
      refine go_iinc1c dX8_drawsPoint_58 rfl rfl ⟨by omega, by omega⟩ ?_
      refine go_goto (tgt := 2) dX8_drawsPoint_61 rfl ?_
      first
      | (refine ih (n - 1) (by omega) (v + 1) _ (by omega) (by omega) ?_ ?_ ((hf.ws (by decide)).wa (by decide))
         · rw [upI_wr, wr_nf (nm_ne1 (by decide)), hA, es, z2]
         · rw [wr_nn (nm_ne1 (by decide)), wr_eq, hs, es])
      | (refine ih (n - 1) (by omega) (v + 1) _ (by omega) (by omega) ?_ ?_ (hf.wa (by decide))
         · rw [upI_wr, hA, es]
         · rw [wr_nn (nm_ne1 (by decide)), hs, es])
set_option maxRecDepth 100000 in
set_option maxHeartbeats 4000000 in
theorem ct_X8_drawsPoint {E : Ev} {M : Mm} {N : Nn} {S : Pg} (hQ : QR S M) (hW : WF S) (s0 : 0 ≤ M (29, 0, 0) 48) (s1 : M (29, 0, 0) 48 ≤ 65536) : Ct E yX8_drawsPoint cX8_drawsPoint 2 (none) (rmH 2) [vr (29, 0, 0)] M N (qv (fun M1 N1 => M1 (30, 0, 32) = (dqS S (M (30, 0, 32)) (M (29, 0, 0) 48) (S 11 0).toNat).1 ∧ M1 (29, 0, 0) 48 = (dqS S (M (30, 0, 32)) (M (29, 0, 0) 48) (S 11 0).toNat).2 ∧ Kr [48] [32] M M1 ∧ N = N1)) := by
  refine ct_of (own := RX8) (L0 := [vr (29, 0, 0), vn]) rfl (by decide +kernel) rfl rfl ?_
  refine go_iconst dX8_drawsPoint_0 (R32_lit rfl) ?_
  refine go_ist1 dX8_drawsPoint_1 rfl rfl ?_
  have c0 := hQ.2.1
  exact lp_X8_drawsPoint hQ hW s0 s1 (S 11 0).toNat 0 M (by omega) (by omega) rfl rfl Kr.rf
set_option maxRecDepth 100000 in
set_option maxHeartbeats 4000000 in
theorem ct_X8_errorAt {E : Ev} {M : Mm} {N : Nn} {S : Pg} {v : Int} (hQ : QR S M) (hW : WF S) (v0 : 0 ≤ v) (v1 : v < S 11 0) : Ct E yX8_errorAt cX8_errorAt 2 ((some .long)) (rmH 4) [vr (29, 0, 0), vi v] M N (ql (fun r M1 N1 => r = erS S (M (30, 0, 32)) v ∧ Kr [] [30, 31] M M1 ∧ N = N1)) := by
  refine ct_of (own := RX8) (L0 := [vr (29, 0, 0), vi v]) rfl (by decide +kernel) rfl rfl ?_
  have c6 := hQ.1
  have c5 := hQ.2.2.1
  have c0 := hQ.2.1
  refine go_aload_n dX8_errorAt_0 rfl rfl ?_
  refine v8_340 dX8_errorAt_1 rfl ⟨rfl, rfl⟩ ⟨rfl, rfl⟩ (ct_X8_reckons hQ (fun u u0 u1 => (hW.2.2.2.2.2.2.1 u u0 u1).1)) (fun M1 N1 hq1 => ?_)
  obtain ⟨g1, g2, rfl⟩ := hq1
  obtain ⟨g3, g4⟩ := g1 v v0 v1
  have ta := tb_at (S := S) (pt := M (30, 0, 32)) (v + 1).toNat (S 11 0).toNat (by omega) v (by omega)
  rw [ta.1] at g3
  rw [ta.2] at g4
  refine go_aload_n dX8_errorAt_4 rfl rfl ?_
  refine g8_59 dX8_errorAt_5 ?_
  refine go_iload_n dX8_errorAt_8 rfl ?_
  refine go_lald dX8_errorAt_9 rfl (by omega) (by omega) ?_
  rw [g4]
  refine go_aload_n dX8_errorAt_10 rfl rfl ?_
  refine g8_56 dX8_errorAt_11 ?_
  refine go_iload_n dX8_errorAt_14 rfl ?_
  refine go_lald dX8_errorAt_15 rfl (by omega) (by omega) ?_
  rw [g3]
  refine go_lsub dX8_errorAt_16 ?_
  refine v8_244 dX8_errorAt_17 rfl ⟨rfl, rfl⟩ ⟨rfl, rfl⟩ ct_X8_sizeOf (fun r2 M2 N2 hr2 hq2 => ?_)
  obtain ⟨z2, rfl, rfl⟩ := hq2
  refine go_retl dX8_errorAt_20 ?_
  exact ⟨z2, g2, rfl⟩
/-- a move that makes the error greater -/
def mvO (S : Pg) (a was : Int) (pt : Int → Int) (k by_ : Int) : Prop := S 2 k ≤ pt k + by_ ∧ pt k + by_ ≤ S 3 k ∧ was < erS S (upI pt k (pt k + by_)) a
theorem upI_bk {pt : Int → Int} {k x y : Int} (h : y = pt k) : upI (upI pt k x) k y = pt := by
  funext j
  unfold upI
  by_cases z : j = k
  · rw [if_pos z, z, h]
  · rw [if_neg z, if_neg z]
theorem upI_eq {pt : Int → Int} {k x : Int} : upI pt k x k = x := if_pos rfl
set_option maxRecDepth 100000 in
set_option maxHeartbeats 4000000 in
theorem ct_X8_isMoved {E : Ev} {M : Mm} {N : Nn} {S : Pg} {a k by_ was : Int} (hQ : QR S M) (hW : WF S) (a0 : 0 ≤ a) (a1 : a < S 11 0) (k0 : 0 ≤ k) (k1 : k < S 11 0) (kq : S 0 k = -2) (hT : -1000 ≤ M (30, 0, 32) k ∧ M (30, 0, 32) k ≤ 1000) (b0 : -256 ≤ by_) (b1 : by_ ≤ 256) : Ct E yX8_isMoved cX8_isMoved 6 ((some .boolean)) (rmH 5) [vr (29, 0, 0), vi a, vi k, vi by_, vl was] M N (qi (fun r M1 N1 => (mvO S a was (M (30, 0, 32)) k by_ ∧ r = 1 ∧ M1 (30, 0, 32) = upI (M (30, 0, 32)) k ((M (30, 0, 32)) k + by_) ∨ ¬ mvO S a was (M (30, 0, 32)) k by_ ∧ r = 0 ∧ M1 (30, 0, 32) = (M (30, 0, 32))) ∧ Kr [] [30, 31, 32] M M1 ∧ N = N1)) := by
  refine ct_of (own := RX8) (L0 := [vr (29, 0, 0), vi a, vi k, vi by_, vl was, vn]) rfl (by decide +kernel) rfl rfl ?_
  have c6 := hQ.1
  have c5 := hQ.2.2.1
  have c0 := hQ.2.1
  obtain ⟨t1, t2⟩ := hT
  obtain ⟨p1, p2⟩ := (hQ.2.2.2.2 k k0 k1).2.2.1 kq
  rw [Int.zero_add] at p1 p2
  obtain ⟨w1, w2, w3⟩ := (hW.2.2.2.2.2.2.1 k k0 k1).1.1 kq
  refine go_aload_n dX8_isMoved_0 rfl rfl ?_
  refine g8_62 dX8_isMoved_1 ?_
  refine go_iload_n dX8_isMoved_4 rfl ?_
  refine go_iald dX8_isMoved_5 rfl (by omega) (by omega) ?_
  refine go_iload_n dX8_isMoved_6 rfl ?_
  refine go_iaddc dX8_isMoved_7 ⟨by omega, by omega⟩ ?_
  refine go_i2l dX8_isMoved_8 ?_
  refine go_aload_n dX8_isMoved_9 rfl rfl ?_
  refine g8_25 dX8_isMoved_10 ?_
  refine go_iload_n dX8_isMoved_13 rfl ?_
  refine go_iald dX8_isMoved_14 rfl (by omega) (by omega) ?_
  rw [p1]
  refine go_i2l dX8_isMoved_15 ?_
  refine go_aload_n dX8_isMoved_16 rfl rfl ?_
  refine g8_28 dX8_isMoved_17 ?_
  refine go_iload_n dX8_isMoved_20 rfl ?_
  refine go_iald dX8_isMoved_21 rfl (by omega) (by omega) ?_
  rw [p2]
  refine go_i2l dX8_isMoved_22 ?_
  refine v8_140 dX8_isMoved_23 rfl ⟨rfl, rfl⟩ ⟨rfl, rfl⟩ ct_X8_in (fun r1 M1 N1 hr1 hq1 => ?_)
  obtain ⟨z1, rfl, rfl⟩ := hq1
  have z1 := bit_iff z1
  refine go_if_ne (tgt := 31) dX8_isMoved_26 rfl (fun h26 => ?_) (fun h26 => ?_)
  · refine go_aload_n dX8_isMoved_31 rfl rfl ?_
    refine g8_62 dX8_isMoved_32 ?_
    refine go_iload_n dX8_isMoved_35 rfl ?_
    refine go_dup2_ir dX8_isMoved_36 ?_
    refine go_iald dX8_isMoved_37 rfl (by omega) (by omega) ?_
    refine go_iload_n dX8_isMoved_38 rfl ?_
    refine go_iaddc dX8_isMoved_39 ⟨by omega, by omega⟩ ?_
    refine go_iast dX8_isMoved_40 rfl (by omega) (by omega) ?_
    refine go_nmM (fun Ma eMa => ?_)
    have fa : Kr [] [30, 31, 32] M Ma := by rw [eMa]; exact Kr.rf.wa (by decide)
    have ea : Ma (30, 0, 32) = upI (M (30, 0, 32)) k (M (30, 0, 32) k + by_) := by rw [eMa]; exact upI_wr
    clear eMa
    have Qa : QR S Ma := hQ.k fa (by decide) (by decide) (by decide) (by decide) (by decide) (by decide) (by decide) (by decide)
    refine go_aload_n dX8_isMoved_41 rfl rfl ?_
    refine go_iload_n dX8_isMoved_42 rfl ?_
    refine v8_475 dX8_isMoved_43 rfl ⟨rfl, rfl⟩ ⟨rfl, rfl⟩ (ct_X8_errorAt Qa hW a0 a1) (fun r2 M2 N2 hr2 hq2 => ?_)
    obtain ⟨z2, g2, rfl⟩ := hq2
    rw [ea] at z2
    have fb : Kr [] [30, 31, 32] M M2 := fa.tr (g2.up (by decide) (by decide))
    have eb : M2 (30, 0, 32) = upI (M (30, 0, 32)) k (M (30, 0, 32) k + by_) := (g2.a 32 (by decide)).trans ea
    refine go_lload dX8_isMoved_46 rfl ?_
    refine go_lcmp_le (tgt := 54) dX8_isMoved_48 dX8_isMoved_49 rfl (fun h48 => ?_) (fun h48 => ?_)
    · refine go_aload_n dX8_isMoved_54 rfl rfl ?_
      refine g8_62 dX8_isMoved_55 ?_
      refine go_iload_n dX8_isMoved_58 rfl ?_
      refine go_dup2_ir dX8_isMoved_59 ?_
      refine go_iald dX8_isMoved_60 rfl (by omega) (by omega) ?_
      rw [eb, upI_eq]
      refine go_iload_n dX8_isMoved_61 rfl ?_
      refine go_isubc dX8_isMoved_62 ⟨by omega, by omega⟩ ?_
      refine go_iast dX8_isMoved_63 rfl (by omega) (by omega) ?_
      refine go_iconst dX8_isMoved_64 (R32_lit rfl) ?_
      refine go_retz dX8_isMoved_65 (by first | exact Or.inl rfl | exact Or.inr rfl | omega) ?_
      exact ⟨Or.inr ⟨fun q => by have := q.2.2; rw [← z2] at this; omega, rfl, by rw [upI_wr, eb]; exact upI_bk (by omega)⟩, fb.wa (by decide), rfl⟩
    · refine go_iconst dX8_isMoved_52 (R32_lit rfl) ?_
      refine go_retz dX8_isMoved_53 (by first | exact Or.inl rfl | exact Or.inr rfl | omega) ?_
      exact ⟨Or.inl ⟨⟨by omega, by omega, by rw [← z2]; omega⟩, rfl, eb⟩, fb, rfl⟩
  · refine go_iconst dX8_isMoved_29 (R32_lit rfl) ?_
    refine go_retz dX8_isMoved_30 (by first | exact Or.inl rfl | exact Or.inr rfl | omega) ?_
    exact ⟨Or.inr ⟨fun q => by have := q.1; have := q.2.1; omega, rfl, rfl⟩, Kr.rf, rfl⟩
