/-- a move tried -/
def tyR (S : Pg) (a was : Int) (pt : Int → Int) (k d : Int) : Int × (Int → Int) := if S 2 k ≤ pt k + d ∧ pt k + d ≤ S 3 k ∧ was < erS S (upI pt k (pt k + d)) a then (1, upI pt k (pt k + d)) else (0, pt)
theorem tyR_of {S : Pg} {a was k d r : Int} {pt q : Int → Int} (h : mvO S a was pt k d ∧ r = 1 ∧ q = upI pt k (pt k + d) ∨ ¬ mvO S a was pt k d ∧ r = 0 ∧ q = pt) : r = (tyR S a was pt k d).1 ∧ q = (tyR S a was pt k d).2 ∧ (r = 0 → q = pt) := by
  unfold tyR
  unfold mvO at h
  rcases h with ⟨h1, h2, h3⟩ | ⟨h1, h2, h3⟩
  · rw [if_pos h1]; exact ⟨h2, h3, fun z => absurd z (by omega)⟩
  · rw [if_neg h1]; exact ⟨h2, h3, fun _ => h3⟩
theorem tyR_01 {S : Pg} {a was k d : Int} {pt : Int → Int} : (tyR S a was pt k d).1 = 0 ∨ (tyR S a was pt k d).1 = 1 := by
  unfold tyR
  split
  · exact Or.inr rfl
  · exact Or.inl rfl
/-- an input's moves, the far ones first -/
def tyI (S : Pg) (a was : Int) (pt : Int → Int) (k : Int) : Nat → Int × (Int → Int)
  | 0 => (0, pt)
  | n + 1 => if (tyR S a was pt k (fr (n + 1))).1 = 1 then tyR S a was pt k (fr (n + 1)) else if (tyR S a was pt k (- fr (n + 1))).1 = 1 then tyR S a was pt k (- fr (n + 1)) else tyI S a was pt k n
theorem tyI_s {S : Pg} {a was k : Int} {pt : Int → Int} {n : Nat} (h : 0 < n) : tyI S a was pt k n = if (tyR S a was pt k (fr n)).1 = 1 then tyR S a was pt k (fr n) else if (tyR S a was pt k (- fr n)).1 = 1 then tyR S a was pt k (- fr n) else tyI S a was pt k (n - 1) := by
  cases n with
  | zero => exact absurd h (by decide)
  | succ m => rfl
/-- the inputs from the first -/
def tyV (S : Pg) (a was : Int) (pt : Int → Int) : Nat → Int → Int × (Int → Int)
  | 0, _ => (0, pt)
  | n + 1, k => if S 0 k = -2 ∧ (tyI S a was pt k 9).1 = 1 then tyI S a was pt k 9 else tyV S a was pt n (k + 1)
theorem tyV_s {S : Pg} {a was k : Int} {pt : Int → Int} {n : Nat} (h : 0 < n) : tyV S a was pt n k = if S 0 k = -2 ∧ (tyI S a was pt k 9).1 = 1 then tyI S a was pt k 9 else tyV S a was pt (n - 1) (k + 1) := by
  cases n with
  | zero => exact absurd h (by decide)
  | succ m => rfl
set_option maxRecDepth 100000 in
set_option maxHeartbeats 4000000 in
theorem lc_in {E : Ev} {M : Mm} {N : Nn} {S : Pg} {a was k : Int} {pt : Int → Int} {Q : Int → Mm → Nn → Prop} (hQ : QR S M) (hW : WF S) (hP : PtI S pt) (a0 : 0 ≤ a) (a1 : a < S 11 0) (k0 : 0 ≤ k) (k1 : k < S 11 0) (kq : S 0 k = -2) (hT : ∀ M3, (tyI S a was pt k 9).1 = 1 → M3 (30, 0, 32) = (tyI S a was pt k 9).2 → Kr [] [30, 31, 32] M M3 → Q 1 M3 N) (hX : ∀ x5 M3, (tyI S a was pt k 9).1 = 0 → M3 (30, 0, 32) = pt → Kr [] [30, 31, 32] M M3 → Go E RX8 cX8_climbsOnce 6 ((some .boolean)) (rmH 6) 0 0 (zM E (qi Q)) 79 [vr (29, 0, 0), vi a, vl was, vn, vi k, x5] [] M3 N) : ∀ (n : Nat) (M2 : Mm), (n ≤ 9) → ((tyI S a was pt k 9) = (tyI S a was pt k n)) → (M2 (30, 0, 32) = pt) → (Kr [] [30, 31, 32] M M2) → Go E RX8 cX8_climbsOnce 6 ((some .boolean)) (rmH 6) 0 0 (zM E (qi Q)) 23 [vr (29, 0, 0), vi a, vl was, vn, vi k, vi (fr n)] [] M2 N := by
  intro n
  induction n using Nat.strongRecOn with
  | ind n ih =>
  intro M2 h9 hI hA hf
  have c6 := hQ.1
  have c5 := hQ.2.2.1
  have c0 := hQ.2.1
  have f9 := fr_9 (n := n) h9
  obtain ⟨w1, w2, w3⟩ := (hW.2.2.2.2.2.2.1 k k0 k1).1.1 kq
  obtain ⟨p1, p2⟩ := hP k k0 k1 kq
  refine go_iload dX8_climbsOnce_23 rfl ?_
  refine go_if_le (tgt := 79) dX8_climbsOnce_25 rfl (fun h25 => ?_) (fun h25 => ?_)
  · first
    | exact absurd kq (by omega)
    | (have nz : n = 0 := by
         by_cases z : n = 0
         · exact z
         · have := f9.2 (by omega); omega
       refine hX _ _ ?_ hA hf
       rw [hI, nz]; rfl)
  · have n0 : 0 < n := by
      by_cases z : n = 0
      · have := f9.1 z; omega
      · omega
    obtain ⟨g1, g2, g3⟩ := f9.2 n0
    have ts := tyI_s (S := S) (a := a) (was := was) (k := k) (pt := pt) n0
    refine go_aload_n dX8_climbsOnce_28 rfl rfl ?_
    refine g8_19 dX8_climbsOnce_29 ?_
    refine go_iload dX8_climbsOnce_32 rfl ?_
    refine go_iald dX8_climbsOnce_34 rfl (by omega) (by omega) ?_
    rw [hf.a 7 (by decide), hQ.srt k0 k1]
    refine v8_248 dX8_climbsOnce_35 rfl ⟨rfl, rfl⟩ ⟨rfl, rfl⟩ ct_X8_isInput (fun r1 M1 N1 hr1 hq1 => ?_)
    obtain ⟨z1, rfl, rfl⟩ := hq1
    have z1 := bit_iff z1
    refine go_if_eq (tgt := 79) dX8_climbsOnce_38 rfl (fun h38 => ?_) (fun h38 => ?_)
    · first
      | exact absurd kq (by omega)
      | (have nz : n = 0 := by
           by_cases z : n = 0
           · exact z
           · have := f9.2 (by omega); omega
         refine hX _ _ ?_ hA hf
         rw [hI, nz]; rfl)
    · refine go_aload_n dX8_climbsOnce_41 rfl rfl ?_
      refine go_iload_n dX8_climbsOnce_42 rfl ?_
      refine go_iload dX8_climbsOnce_43 rfl ?_
      refine go_iload dX8_climbsOnce_45 rfl ?_
      refine go_lload_n dX8_climbsOnce_47 rfl ?_
      refine v8_478 dX8_climbsOnce_48 rfl ⟨rfl, rfl⟩ ⟨rfl, rfl⟩ (ct_X8_isMoved (S := S) (hQ.k hf (by decide) (by decide) (by decide) (by decide) (by decide) (by decide) (by decide) (by decide)) hW a0 a1 k0 k1 kq (by rw [hA]; exact ⟨by omega, by omega⟩) (by omega) (by omega)) (fun r2 M3 N3 hr2 hq2 => ?_)
      obtain ⟨y2, f2, rfl⟩ := hq2
      rw [hA] at y2
      obtain ⟨y3, y4, y5⟩ := tyR_of y2
      have fb : Kr [] [30, 31, 32] M M3 := hf.tr f2
      have t1 := tyR_01 (S := S) (a := a) (was := was) (k := k) (d := fr n) (pt := pt)
      clear y2
      refine go_if_ne (tgt := 68) dX8_climbsOnce_51 rfl (fun h51 => ?_) (fun h51 => ?_)
      · refine go_iconst dX8_climbsOnce_68 (R32_lit rfl) ?_
        refine go_retz dX8_climbsOnce_69 (by first | exact Or.inl rfl | exact Or.inr rfl | omega) ?_
        first
        | (rw [if_pos (by omega)] at ts
           exact hT _ (by rw [hI, ts]; omega) (by rw [hI, ts]; exact y4) fb)
        | (rw [if_pos (by omega)] at ts
           exact hT _ (by rw [hI, ts]; omega) (by rw [hI, ts]; exact x4) fc)
      · have A3 := y5 (by omega)
        rw [if_neg (by omega)] at ts
        refine go_aload_n dX8_climbsOnce_54 rfl rfl ?_
        refine go_iload_n dX8_climbsOnce_55 rfl ?_
        refine go_iload dX8_climbsOnce_56 rfl ?_
        refine go_iload dX8_climbsOnce_58 rfl ?_
        refine go_inegc dX8_climbsOnce_60 ⟨by omega, by omega⟩ ?_
        refine go_lload_n dX8_climbsOnce_61 rfl ?_
        refine v8_478 dX8_climbsOnce_62 rfl ⟨rfl, rfl⟩ ⟨rfl, rfl⟩ (ct_X8_isMoved (S := S) (hQ.k fb (by decide) (by decide) (by decide) (by decide) (by decide) (by decide) (by decide) (by decide)) hW a0 a1 k0 k1 kq (by rw [A3]; exact ⟨by omega, by omega⟩) (by omega) (by omega)) (fun r3 M4 N4 hr3 hq3 => ?_)
        obtain ⟨x2, f4, rfl⟩ := hq3
        rw [A3] at x2
        obtain ⟨x3, x4, x5'⟩ := tyR_of x2
        have fc : Kr [] [30, 31, 32] M M4 := fb.tr f4
        have t2 := tyR_01 (S := S) (a := a) (was := was) (k := k) (d := - fr n) (pt := pt)
        clear x2
        refine go_if_eq (tgt := 70) dX8_climbsOnce_65 rfl (fun h65 => ?_) (fun h65 => ?_)
        · rw [if_neg (by omega)] at ts
          refine go_iload dX8_climbsOnce_70 rfl ?_
          refine go_iconst dX8_climbsOnce_72 (R32_lit rfl) ?_
          refine go_idivc dX8_climbsOnce_73 (by decide) ⟨by rw [g3]; have := fr_9 (n := n - 1) (by omega); omega, by rw [g3]; have := fr_9 (n := n - 1) (by omega); omega⟩ ?_
          rw [g3]
          refine go_ist5 dX8_climbsOnce_74 rfl rfl ?_
          refine go_goto (tgt := 23) dX8_climbsOnce_76 rfl ?_
          exact ih (n - 1) (by omega) M4 (by omega) (hI.trans ts) (x5' (by omega)) fc
        · refine go_iconst dX8_climbsOnce_68 (R32_lit rfl) ?_
          refine go_retz dX8_climbsOnce_69 (by first | exact Or.inl rfl | exact Or.inr rfl | omega) ?_
          first
          | (rw [if_pos (by omega)] at ts
             exact hT _ (by rw [hI, ts]; omega) (by rw [hI, ts]; exact y4) fb)
          | (rw [if_pos (by omega)] at ts
             exact hT _ (by rw [hI, ts]; omega) (by rw [hI, ts]; exact x4) fc)
set_option maxRecDepth 100000 in
set_option maxHeartbeats 4000000 in
theorem lc_out {E : Ev} {M : Mm} {N : Nn} {S : Pg} {a was : Int} {pt : Int → Int} (hQ : QR S M) (hW : WF S) (hP : PtI S pt) (a0 : 0 ≤ a) (a1 : a < S 11 0) : ∀ (n : Nat) (k : Int) (M2 : Mm) (x5 : Vv), (k + n = S 11 0) → (0 ≤ k) → ((tyV S a was pt (S 11 0).toNat 0) = tyV S a was pt n k) → (M2 (30, 0, 32) = pt) → (Kr [] [30, 31, 32] M M2) → Go E RX8 cX8_climbsOnce 6 ((some .boolean)) (rmH 6) 0 0 (zM E (qi (fun r M1 N1 => r = (tyV S a was pt (S 11 0).toNat 0).1 ∧ M1 (30, 0, 32) = (tyV S a was pt (S 11 0).toNat 0).2 ∧ Kr [] [30, 31, 32] M M1 ∧ N = N1))) 9 [vr (29, 0, 0), vi a, vl was, vn, vi k, x5] [] M2 N := by
  intro n
  induction n using Nat.strongRecOn with
  | ind n ih =>
  intro k M2 x5 hn k0 hV hA hf
  have c6 := hQ.1
  have c5 := hQ.2.2.1
  have c0 := hQ.2.1
  refine go_iload dX8_climbsOnce_9 rfl ?_
  refine go_aload_n dX8_climbsOnce_11 rfl rfl ?_
  refine g8_259 dX8_climbsOnce_12 ?_
  rw [hf.s 6 (by decide), c6]
  refine go_icmp_ge (tgt := 85) dX8_climbsOnce_15 rfl (fun h15 => ?_) (fun h15 => ?_)
  · refine go_iconst dX8_climbsOnce_85 (R32_lit rfl) ?_
    refine go_retz dX8_climbsOnce_86 (by first | exact Or.inl rfl | exact Or.inr rfl | omega) ?_
    have nz : n = 0 := by omega
    rw [nz] at hV
    exact ⟨by rw [hV]; rfl, by rw [hV]; exact hA, hf, rfl⟩
  · have k1 : k < S 11 0 := by omega
    refine go_sipush dX8_climbsOnce_18 ⟨by decide, by decide⟩ ?_
    refine go_ist5 dX8_climbsOnce_21 rfl rfl ?_
    have n0 : 0 < n := by omega
    have tv := tyV_s (S := S) (a := a) (was := was) (k := k) (pt := pt) n0
    by_cases kq : S 0 k = -2
    · refine lc_in hQ hW hP a0 a1 k0 k1 kq (fun M3 h1 h2 h3 => ?_) (fun x5 M3 h1 h2 h3 => ?_) 9 M2 (by decide) rfl hA hf
      · rw [if_pos ⟨kq, h1⟩] at tv
        exact ⟨by rw [hV, tv, h1], by rw [hV, tv]; exact h2, h3, rfl⟩
      · rw [if_neg (fun q => by omega)] at tv
        refine go_iinc4c dX8_climbsOnce_79 rfl rfl ⟨by omega, by omega⟩ ?_
        refine go_goto (tgt := 9) dX8_climbsOnce_82 rfl ?_
        exact ih (n - 1) (by omega) (k + 1) M3 _ (by omega) (by omega) (hV.trans tv) h2 h3
    · rw [if_neg (fun q => kq q.1)] at tv
      refine go_iload dX8_climbsOnce_23 rfl ?_
      refine go_if_le (tgt := 79) dX8_climbsOnce_25 rfl (fun h25 => ?_) (fun h25 => ?_)
      · refine go_iinc4c dX8_climbsOnce_79 rfl rfl ⟨by omega, by omega⟩ ?_
        refine go_goto (tgt := 9) dX8_climbsOnce_82 rfl ?_
        exact ih (n - 1) (by omega) (k + 1) M2 _ (by omega) (by omega) (hV.trans tv) hA hf
      · refine go_aload_n dX8_climbsOnce_28 rfl rfl ?_
        refine g8_19 dX8_climbsOnce_29 ?_
        refine go_iload dX8_climbsOnce_32 rfl ?_
        refine go_iald dX8_climbsOnce_34 rfl (by omega) (by omega) ?_
        rw [hf.a 7 (by decide), hQ.srt k0 k1]
        refine v8_248 dX8_climbsOnce_35 rfl ⟨rfl, rfl⟩ ⟨rfl, rfl⟩ ct_X8_isInput (fun r1 M1 N1 hr1 hq1 => ?_)
        obtain ⟨z1, rfl, rfl⟩ := hq1
        have z1 := bit_iff z1
        refine go_if_eq (tgt := 79) dX8_climbsOnce_38 rfl (fun h38 => ?_) (fun h38 => ?_)
        · refine go_iinc4c dX8_climbsOnce_79 rfl rfl ⟨by omega, by omega⟩ ?_
          refine go_goto (tgt := 9) dX8_climbsOnce_82 rfl ?_
          exact ih (n - 1) (by omega) (k + 1) M2 _ (by omega) (by omega) (hV.trans tv) hA hf
        · exact absurd kq (by omega)
set_option maxRecDepth 100000 in
set_option maxHeartbeats 4000000 in
theorem ct_X8_climbsOnce {E : Ev} {M : Mm} {N : Nn} {S : Pg} {a : Int} (hQ : QR S M) (hW : WF S) (hP : PtI S (M (30, 0, 32))) (a0 : 0 ≤ a) (a1 : a < S 11 0) : Ct E yX8_climbsOnce cX8_climbsOnce 6 ((some .boolean)) (rmH 6) [vr (29, 0, 0), vi a] M N (qi (fun r M1 N1 => r = (tyV S a (erS S (M (30, 0, 32)) a) (M (30, 0, 32)) (S 11 0).toNat 0).1 ∧ M1 (30, 0, 32) = (tyV S a (erS S (M (30, 0, 32)) a) (M (30, 0, 32)) (S 11 0).toNat 0).2 ∧ Kr [] [30, 31, 32] M M1 ∧ N = N1)) := by
  refine ct_of (own := RX8) (L0 := [vr (29, 0, 0), vi a, vn, vn, vn, vn]) rfl (by decide +kernel) rfl rfl ?_
  refine go_aload_n dX8_climbsOnce_0 rfl rfl ?_
  refine go_iload_n dX8_climbsOnce_1 rfl ?_
  refine v8_475 dX8_climbsOnce_2 rfl ⟨rfl, rfl⟩ ⟨rfl, rfl⟩ (ct_X8_errorAt hQ hW a0 a1) (fun r1 M1 N1 hr1 hq1 => ?_)
  obtain ⟨z1, g1, rfl⟩ := hq1
  subst z1
  have c0 := hQ.2.1
  refine go_lst2 dX8_climbsOnce_5 rfl rfl ?_
  refine go_iconst dX8_climbsOnce_6 (R32_lit rfl) ?_
  refine go_ist4 dX8_climbsOnce_7 rfl rfl ?_
  exact lc_out hQ hW hP a0 a1 (S 11 0).toNat 0 M1 _ (by omega) (by omega) rfl (g1.a 32 (by decide)) (g1.up (by decide) (by decide))
theorem tyR_in {S : Pg} {a was k d : Int} {pt : Int → Int} (h : PtI S pt) : PtI S (tyR S a was pt k d).2 := by
  unfold tyR
  split
  · rename_i q
    intro j j0 j1 jq
    show S 2 j ≤ upI pt k (pt k + d) j ∧ upI pt k (pt k + d) j ≤ S 3 j
    unfold upI
    by_cases z : j = k
    · rw [if_pos z, z]; exact ⟨q.1, q.2.1⟩
    · rw [if_neg z]; exact h j j0 j1 jq
  · exact h
theorem tyI_in {S : Pg} {a was k : Int} {pt : Int → Int} (h : PtI S pt) : ∀ n : Nat, PtI S (tyI S a was pt k n).2 ∧ ((tyI S a was pt k n).1 = 0 ∨ (tyI S a was pt k n).1 = 1) ∧ ((tyI S a was pt k n).1 = 0 → (tyI S a was pt k n).2 = pt)
  | 0 => ⟨h, Or.inl rfl, fun _ => rfl⟩
  | n + 1 => by
    rw [tyI_s (by omega)]
    by_cases q : (tyR S a was pt k (fr (n + 1))).1 = 1
    · rw [if_pos q]; exact ⟨tyR_in h, Or.inr q, fun z => absurd z (by omega)⟩
    · rw [if_neg q]
      by_cases q2 : (tyR S a was pt k (- fr (n + 1))).1 = 1
      · rw [if_pos q2]; exact ⟨tyR_in h, Or.inr q2, fun z => absurd z (by omega)⟩
      · rw [if_neg q2]; exact tyI_in h n
theorem tyV_in {S : Pg} {a was : Int} {pt : Int → Int} (h : PtI S pt) : ∀ (n : Nat) (k : Int), PtI S (tyV S a was pt n k).2 ∧ ((tyV S a was pt n k).1 = 0 ∨ (tyV S a was pt n k).1 = 1) ∧ ((tyV S a was pt n k).1 = 0 → (tyV S a was pt n k).2 = pt)
  | 0, _ => ⟨h, Or.inl rfl, fun _ => rfl⟩
  | n + 1, k => by
    rw [tyV_s (by omega)]
    by_cases q : S 0 k = -2 ∧ (tyI S a was pt k 9).1 = 1
    · rw [if_pos q]; exact tyI_in h 9
    · rw [if_neg q]; exact tyV_in h n (k + 1)
