/-- what reading touches of the reader alone -/
def Zf (M M1 : Mm) : Prop := ∀ n : Nm, n ≠ (6, 0, 0) → M1 n = M n
theorem Zf.rf {M : Mm} : Zf M M := fun _ _ => rfl
theorem Zf.tr {M M1 M2 : Mm} (h : Zf M M1) (h2 : Zf M1 M2) : Zf M M2 := fun n a => (h2 n a).trans (h n a)
theorem Zf.w6 {M M1 : Mm} {i x : Int} (h : Zf M M1) : Zf M (wr M1 (6, 0, 0) i x) := fun n a => by rw [wr_nf a]; exact h n a
/-- a fault told -/
def faR (R : Int → Int) (w x : Int) : Int → Int := upI (upI R 0 w) 1 x
/-- the place behind spaces -/
def bkS (b : Int → Int) (n : Int) : Nat → Int → Int
  | 0, x => x
  | k + 1, x => if x < n ∧ b x = 32 then bkS b n k (x + 1) else x
/-- the place behind a run, its meaning -/
def ruS (b : Int → Int) (n lo hi ba le : Int) : Nat → Int → Int → Int × Int
  | 0, x, m => (x, m)
  | k + 1, x, m => if x < n ∧ lo ≤ b x ∧ b x ≤ hi then ruS b n lo hi ba le k (x + 1) (w32 (w32 (m * ba) + (b x - lo + le))) else (x, m)
theorem bkS_bd (b : Int → Int) (n : Int) : ∀ (k : Nat) (x : Int), x + k ≤ n ∨ k = 0 → x ≤ bkS b n k x ∧ (bkS b n k x ≤ n ∨ bkS b n k x = x)
  | 0, x, _ => ⟨Int.le_refl x, Or.inr rfl⟩
  | k + 1, x, h => by
    unfold bkS
    split
    · have ih := bkS_bd b n k (x + 1) (by omega)
      omega
    · exact ⟨Int.le_refl x, Or.inr rfl⟩
theorem ruS_bd (b : Int → Int) (n lo hi ba le : Int) : ∀ (k : Nat) (x m : Int), x ≤ (ruS b n lo hi ba le k x m).1 ∧ ((ruS b n lo hi ba le k x m).1 ≤ n ∨ (ruS b n lo hi ba le k x m).1 = x)
  | 0, x, _ => ⟨Int.le_refl x, Or.inr rfl⟩
  | k + 1, x, m => by
    unfold ruS
    split
    · have ih := ruS_bd b n lo hi ba le k (x + 1) (w32 (w32 (m * ba) + (b x - lo + le)))
      omega
    · exact ⟨Int.le_refl x, Or.inr rfl⟩
abbrev sgl (f : Int) : Prop := f = 59 ∨ f = 61 ∨ f = 43 ∨ f = 45 ∨ f = 42 ∨ f = 60
/-- the token at a place: its kind, the place behind it, its meaning -/
def tkS (b : Int → Int) (n p : Int) : Int × Int × Int :=
  if n ≤ p then (0, p, 0)
  else if 97 ≤ b p ∧ b p ≤ 122 then (if (ruS b n 97 122 27 1 (n - p).toNat p 0).1 - p ≤ 6 then 2 else 1, ruS b n 97 122 27 1 (n - p).toNat p 0)
  else if 48 ≤ b p ∧ b p ≤ 57 then (if (ruS b n 48 57 10 0 (n - p).toNat p 0).1 - p ≤ 4 then 3 else 1, ruS b n 48 57 10 0 (n - p).toNat p 0)
  else (if sgl (b p) then b p else 1, p + 1, 0)
def adP (b R : Int → Int) : Int := bkS b (R 3) (R 3 - R 7).toNat (R 7)
def st4 (R : Int → Int) (t : Int × Int × Int) (p : Int) : Int → Int := upI (upI (upI (upI R 5 t.1) 6 p) 7 t.2.1) 8 t.2.2
theorem up_up {R : Int → Int} {k x y : Int} : upI (upI R k x) k y = upI R k y := by
  funext j; unfold upI; split <;> rfl
theorem up_sw {R : Int → Int} {k l x y : Int} (h : k ≠ l) : upI (upI R k x) l y = upI (upI R l y) k x := by
  funext j
  unfold upI
  by_cases q : j = k
  · rw [if_neg (fun z => h (q.symm.trans z)), if_pos q, if_pos q]
  · rw [if_neg q, if_neg q]
theorem st4_c {R : Int → Int} {x : Int} : upI (upI (upI (upI R 7 x) 6 x) 8 0) 5 0 = st4 R (0, x, 0) x := by
  unfold st4
  rw [up_sw (k := 8) (l := 5) (by decide), up_sw (k := 6) (l := 5) (by decide), up_sw (k := 7) (l := 5) (by decide), up_sw (k := 7) (l := 6) (by decide)]
theorem st4_b {R : Int → Int} {x a k : Int} : upI (upI (upI (upI (upI R 7 x) 6 x) 8 0) 7 a) 5 k = st4 R (k, a, 0) x := by
  unfold st4
  rw [up_sw (k := 7) (l := 5) (by decide), up_sw (k := 8) (l := 5) (by decide), up_sw (k := 6) (l := 5) (by decide), up_sw (k := 7) (l := 5) (by decide), up_sw (k := 7) (l := 6) (by decide), up_sw (k := 8) (l := 7) (by decide), up_up]
theorem st4_a {R : Int → Int} {x k : Int} {Q : Int × Int} : upI (upI (upI (upI (upI (upI R 7 x) 6 x) 8 0) 8 Q.2) 7 Q.1) 5 k = st4 R (k, Q) x := by
  rw [up_up]
  unfold st4
  rw [up_sw (k := 7) (l := 5) (by decide), up_sw (k := 8) (l := 5) (by decide), up_sw (k := 6) (l := 5) (by decide), up_sw (k := 7) (l := 5) (by decide), up_sw (k := 7) (l := 6) (by decide), up_sw (k := 8) (l := 7) (by decide), up_up]
/-- the reader at the next token -/
def adR (b R : Int → Int) : Int → Int := st4 R (tkS b (R 3) (adP b R)) (adP b R)
set_option maxRecDepth 100000 in
set_option maxHeartbeats 4000000 in
theorem ct_X4_fail {E : Ev} {M : Mm} {N : Nn} {w x : Int}  : Ct E yX4_fail cX4_fail 3 ((some .boolean)) (rmH 1) [vr (6, 0, 0), vi w, vi x] M N (qi (fun r M1 N1 => r = 0 ∧ M1 (6, 0, 0) = faR (M (6, 0, 0)) w x ∧ Zf M M1 ∧ N = N1)) := by
  refine ct_of (own := RX4) (L0 := [vr (6, 0, 0), vi w, vi x]) rfl (by decide +kernel) rfl rfl ?_
  refine go_aload_n dX4_fail_0 rfl rfl ?_
  refine go_iload_n dX4_fail_1 rfl ?_
  refine p4_31 dX4_fail_2 ?_
  refine go_aload_n dX4_fail_5 rfl rfl ?_
  refine go_iload_n dX4_fail_6 rfl ?_
  refine p4_34 dX4_fail_7 ?_
  refine go_iconst dX4_fail_10 (R32_lit rfl) ?_
  exact go_retz dX4_fail_11 (by first | exact Or.inl rfl | exact Or.inr rfl | omega) ⟨rfl, by rw [upI_wr, upI_wr]; rfl, Zf.rf.w6.w6, rfl⟩
set_option maxRecDepth 100000 in
set_option maxHeartbeats 4000000 in
theorem ct_X4_isSingle {E : Ev} {M : Mm} {N : Nn} {f : Int}  : Ct E yX4_isSingle cX4_isSingle 1 ((some .boolean)) (rmH 1) [vi f] M N (qi (fun r M1 N1 => ((sgl f ∧ r = 1) ∨ (¬ sgl f ∧ r = 0)) ∧ M = M1 ∧ N = N1)) := by
  refine ct_of (own := RX4) (L0 := [vi f]) rfl (by decide +kernel) rfl rfl ?_
  refine go_iload_n dX4_isSingle_0 rfl ?_
  refine go_bipush dX4_isSingle_1 ⟨by decide, by decide⟩ ?_
  refine go_icmp_eq (tgt := 36) dX4_isSingle_3 rfl (fun h3 => ?_) (fun h3 => ?_)
  · refine go_iconst dX4_isSingle_36 (R32_lit rfl) ?_
    refine go_goto (tgt := 41) dX4_isSingle_37 rfl ?_
    refine go_retz dX4_isSingle_41 (by first | exact Or.inl rfl | exact Or.inr rfl | omega) ?_
    refine ⟨?_, rfl, rfl⟩
    unfold sgl
    first | exact Or.inl ⟨by omega, rfl⟩ | exact Or.inr ⟨by omega, rfl⟩
  · refine go_iload_n dX4_isSingle_6 rfl ?_
    refine go_bipush dX4_isSingle_7 ⟨by decide, by decide⟩ ?_
    refine go_icmp_eq (tgt := 36) dX4_isSingle_9 rfl (fun h9 => ?_) (fun h9 => ?_)
    · refine go_iconst dX4_isSingle_36 (R32_lit rfl) ?_
      refine go_goto (tgt := 41) dX4_isSingle_37 rfl ?_
      refine go_retz dX4_isSingle_41 (by first | exact Or.inl rfl | exact Or.inr rfl | omega) ?_
      refine ⟨?_, rfl, rfl⟩
      unfold sgl
      first | exact Or.inl ⟨by omega, rfl⟩ | exact Or.inr ⟨by omega, rfl⟩
    · refine go_iload_n dX4_isSingle_12 rfl ?_
      refine go_bipush dX4_isSingle_13 ⟨by decide, by decide⟩ ?_
      refine go_icmp_eq (tgt := 36) dX4_isSingle_15 rfl (fun h15 => ?_) (fun h15 => ?_)
      · refine go_iconst dX4_isSingle_36 (R32_lit rfl) ?_
        refine go_goto (tgt := 41) dX4_isSingle_37 rfl ?_
        refine go_retz dX4_isSingle_41 (by first | exact Or.inl rfl | exact Or.inr rfl | omega) ?_
        refine ⟨?_, rfl, rfl⟩
        unfold sgl
        first | exact Or.inl ⟨by omega, rfl⟩ | exact Or.inr ⟨by omega, rfl⟩
      · refine go_iload_n dX4_isSingle_18 rfl ?_
        refine go_bipush dX4_isSingle_19 ⟨by decide, by decide⟩ ?_
        refine go_icmp_eq (tgt := 36) dX4_isSingle_21 rfl (fun h21 => ?_) (fun h21 => ?_)
        · refine go_iconst dX4_isSingle_36 (R32_lit rfl) ?_
          refine go_goto (tgt := 41) dX4_isSingle_37 rfl ?_
          refine go_retz dX4_isSingle_41 (by first | exact Or.inl rfl | exact Or.inr rfl | omega) ?_
          refine ⟨?_, rfl, rfl⟩
          unfold sgl
          first | exact Or.inl ⟨by omega, rfl⟩ | exact Or.inr ⟨by omega, rfl⟩
        · refine go_iload_n dX4_isSingle_24 rfl ?_
          refine go_bipush dX4_isSingle_25 ⟨by decide, by decide⟩ ?_
          refine go_icmp_eq (tgt := 36) dX4_isSingle_27 rfl (fun h27 => ?_) (fun h27 => ?_)
          · refine go_iconst dX4_isSingle_36 (R32_lit rfl) ?_
            refine go_goto (tgt := 41) dX4_isSingle_37 rfl ?_
            refine go_retz dX4_isSingle_41 (by first | exact Or.inl rfl | exact Or.inr rfl | omega) ?_
            refine ⟨?_, rfl, rfl⟩
            unfold sgl
            first | exact Or.inl ⟨by omega, rfl⟩ | exact Or.inr ⟨by omega, rfl⟩
          · refine go_iload_n dX4_isSingle_30 rfl ?_
            refine go_bipush dX4_isSingle_31 ⟨by decide, by decide⟩ ?_
            refine go_icmp_ne (tgt := 40) dX4_isSingle_33 rfl (fun h33 => ?_) (fun h33 => ?_)
            · refine go_iconst dX4_isSingle_40 (R32_lit rfl) ?_
              refine go_retz dX4_isSingle_41 (by first | exact Or.inl rfl | exact Or.inr rfl | omega) ?_
              refine ⟨?_, rfl, rfl⟩
              unfold sgl
              first | exact Or.inl ⟨by omega, rfl⟩ | exact Or.inr ⟨by omega, rfl⟩
            · refine go_iconst dX4_isSingle_36 (R32_lit rfl) ?_
              refine go_goto (tgt := 41) dX4_isSingle_37 rfl ?_
              refine go_retz dX4_isSingle_41 (by first | exact Or.inl rfl | exact Or.inr rfl | omega) ?_
              refine ⟨?_, rfl, rfl⟩
              unfold sgl
              first | exact Or.inl ⟨by omega, rfl⟩ | exact Or.inr ⟨by omega, rfl⟩
set_option maxRecDepth 100000 in
set_option maxHeartbeats 4000000 in
theorem lp_X4_takeRun {E : Ev} {M : Mm} {N : Nn} {lo hi ba le : Int} (hT : N (6, 0, 0) 2 = (4, 0, 0)) (e0 : M (6, 0, 0) 3 ≤ 500) (f0 : 0 ≤ M (6, 0, 0) 7) (hl : 0 ≤ lo ∧ lo ≤ 200) (hh : 0 ≤ hi ∧ hi ≤ 200) (hle : 0 ≤ le ∧ le ≤ 1) : ∀ (n : Nat) (x m : Int) (M' : Mm), (n = (M (6, 0, 0) 3 - x).toNat) → (0 ≤ x) → (Zf M M') → (M' (6, 0, 0) = upI (upI (M (6, 0, 0)) 8 m) 7 x) → ((ruS (M (4, 0, 0)) (M (6, 0, 0) 3) lo hi ba le n x m) = (ruS (M (4, 0, 0)) (M (6, 0, 0) 3) lo hi ba le (M (6, 0, 0) 3 - M (6, 0, 0) 7).toNat (M (6, 0, 0) 7) (M (6, 0, 0) 8))) → Go E RX4 cX4_takeRun 5 (none) (rmH 1) 0 0 (zM E (qv (fun M1 N1 => M1 (6, 0, 0) = upI (upI (M (6, 0, 0)) 8 (ruS (M (4, 0, 0)) (M (6, 0, 0) 3) lo hi ba le (M (6, 0, 0) 3 - M (6, 0, 0) 7).toNat (M (6, 0, 0) 7) (M (6, 0, 0) 8)).2) 7 (ruS (M (4, 0, 0)) (M (6, 0, 0) 3) lo hi ba le (M (6, 0, 0) 3 - M (6, 0, 0) 7).toNat (M (6, 0, 0) 7) (M (6, 0, 0) 8)).1 ∧ Zf M M1 ∧ N = N1))) 0 [vr (6, 0, 0), vi lo, vi hi, vi ba, vi le] [] M' N := by
  intro n
  induction n using Nat.strongRecOn with
  | ind n ih =>
  intro x m M' hn h0 hf hr he
  have e3 : M' (6, 0, 0) 3 = M (6, 0, 0) 3 := by rw [hr]; unfold upI; rw [if_neg (by decide), if_neg (by decide)]
  have e7 : M' (6, 0, 0) 7 = x := by rw [hr]; unfold upI; rw [if_pos rfl]
  have e8 : M' (6, 0, 0) 8 = m := by rw [hr]; unfold upI; rw [if_neg (by decide), if_pos rfl]
  have e4 : M' (4, 0, 0) = M (4, 0, 0) := hf _ (nm_ne1 (by decide))
  refine go_aload_n dX4_takeRun_0 rfl rfl ?_
  refine g4_37 dX4_takeRun_1 ?_
  rw [e7]
  refine go_aload_n dX4_takeRun_4 rfl rfl ?_
  refine g4_15 dX4_takeRun_5 ?_
  rw [e3]
  refine go_icmp_ge (tgt := 75) dX4_takeRun_8 rfl (fun h8 => ?_) (fun h8 => ?_)
  · refine go_retv dX4_takeRun_75 ?_
    have ee : (ruS (M (4, 0, 0)) (M (6, 0, 0) 3) lo hi ba le n x m) = (x, m) := by
      first
      | (rw [show n = 0 by omega]; rfl)
      | (rw [show n = (n - 1) + 1 by omega]
         exact if_neg (by omega))
    rw [ee] at he
    refine ⟨?_, hf, rfl⟩
    rw [← he]
    exact hr
  · have es : (ruS (M (4, 0, 0)) (M (6, 0, 0) 3) lo hi ba le n x m) = if x < M (6, 0, 0) 3 ∧ lo ≤ M (4, 0, 0) x ∧ M (4, 0, 0) x ≤ hi then (ruS (M (4, 0, 0)) (M (6, 0, 0) 3) lo hi ba le (n - 1) (x + 1) (w32 (w32 (m * ba) + (M (4, 0, 0) x - lo + le)))) else (x, m) := by
      rw [show n = (n - 1) + 1 by omega]; rfl
    refine go_aload_n dX4_takeRun_11 rfl rfl ?_
    refine g4_9 dX4_takeRun_12 ?_
    rw [hT]
    refine go_aload_n dX4_takeRun_15 rfl rfl ?_
    refine g4_37 dX4_takeRun_16 ?_
    rw [e7]
    refine go_bald dX4_takeRun_19 rfl (by omega) (by omega) ?_
    rw [e4]
    refine go_iload_n dX4_takeRun_20 rfl ?_
    refine go_icmp_lt (tgt := 75) dX4_takeRun_21 rfl (fun h21 => ?_) (fun h21 => ?_)
    · refine go_retv dX4_takeRun_75 ?_
      have ee : (ruS (M (4, 0, 0)) (M (6, 0, 0) 3) lo hi ba le n x m) = (x, m) := by
        first
        | (rw [show n = 0 by omega]; rfl)
        | (rw [show n = (n - 1) + 1 by omega]
           exact if_neg (by omega))
      rw [ee] at he
      refine ⟨?_, hf, rfl⟩
      rw [← he]
      exact hr
    · refine go_aload_n dX4_takeRun_24 rfl rfl ?_
      refine g4_9 dX4_takeRun_25 ?_
      rw [hT]
      refine go_aload_n dX4_takeRun_28 rfl rfl ?_
      refine g4_37 dX4_takeRun_29 ?_
      rw [e7]
      refine go_bald dX4_takeRun_32 rfl (by omega) (by omega) ?_
      rw [e4]
      refine go_iload_n dX4_takeRun_33 rfl ?_
      refine go_icmp_gt (tgt := 75) dX4_takeRun_34 rfl (fun h34 => ?_) (fun h34 => ?_)
      · refine go_retv dX4_takeRun_75 ?_
        have ee : (ruS (M (4, 0, 0)) (M (6, 0, 0) 3) lo hi ba le n x m) = (x, m) := by
          first
          | (rw [show n = 0 by omega]; rfl)
          | (rw [show n = (n - 1) + 1 by omega]
             exact if_neg (by omega))
        rw [ee] at he
        refine ⟨?_, hf, rfl⟩
        rw [← he]
        exact hr
      · refine go_aload_n dX4_takeRun_37 rfl rfl ?_
        refine go_aload_n dX4_takeRun_38 rfl rfl ?_
        refine g4_129 dX4_takeRun_39 ?_
        rw [e8]
        refine go_iload_n dX4_takeRun_42 rfl ?_
        refine go_imul dX4_takeRun_43 ?_
        refine go_aload_n dX4_takeRun_44 rfl rfl ?_
        refine g4_9 dX4_takeRun_45 ?_
        rw [hT]
        refine go_aload_n dX4_takeRun_48 rfl rfl ?_
        refine g4_37 dX4_takeRun_49 ?_
        rw [e7]
        refine go_bald dX4_takeRun_52 rfl (by omega) (by omega) ?_
        rw [e4]
        refine go_iload_n dX4_takeRun_53 rfl ?_
        refine go_isubc dX4_takeRun_54 ⟨by omega, by omega⟩ ?_
        refine go_iload dX4_takeRun_55 rfl ?_
        refine go_iaddc dX4_takeRun_57 ⟨by omega, by omega⟩ ?_
        refine go_iadd dX4_takeRun_58 ?_
        refine p4_129 dX4_takeRun_59 ?_
        refine go_aload_n dX4_takeRun_62 rfl rfl ?_
        first | refine go_dup_r dX4_takeRun_63 ?_ | refine go_dup_i dX4_takeRun_63 ?_
        refine g4_37 dX4_takeRun_64 ?_
        rw [wr_nk (by decide), e7]
        refine go_iconst dX4_takeRun_67 (R32_lit rfl) ?_
        refine go_iaddc dX4_takeRun_68 ⟨by omega, by omega⟩ ?_
        refine p4_37 dX4_takeRun_69 ?_
        refine go_goto (tgt := 0) dX4_takeRun_72 rfl ?_
        rw [if_pos (by omega)] at es
        exact ih (n - 1) (by omega) (x + 1) (w32 (w32 (m * ba) + (M (4, 0, 0) x - lo + le))) _ (by omega) (by omega) hf.w6.w6 (by
          rw [upI_wr, upI_wr, hr, up_sw (k := 7) (l := 8) (by decide), up_up, up_up]) (by rw [← es]; exact he)
set_option maxRecDepth 100000 in
set_option maxHeartbeats 4000000 in
theorem ct_X4_takeRun {E : Ev} {M : Mm} {N : Nn} {lo hi ba le : Int} (hT : N (6, 0, 0) 2 = (4, 0, 0)) (e0 : M (6, 0, 0) 3 ≤ 500) (f0 : 0 ≤ M (6, 0, 0) 7) (hl : 0 ≤ lo ∧ lo ≤ 200) (hh : 0 ≤ hi ∧ hi ≤ 200) (hle : 0 ≤ le ∧ le ≤ 1) : Ct E yX4_takeRun cX4_takeRun 5 (none) (rmH 1) [vr (6, 0, 0), vi lo, vi hi, vi ba, vi le] M N (qv (fun M1 N1 => M1 (6, 0, 0) = upI (upI (M (6, 0, 0)) 8 (ruS (M (4, 0, 0)) (M (6, 0, 0) 3) lo hi ba le (M (6, 0, 0) 3 - M (6, 0, 0) 7).toNat (M (6, 0, 0) 7) (M (6, 0, 0) 8)).2) 7 (ruS (M (4, 0, 0)) (M (6, 0, 0) 3) lo hi ba le (M (6, 0, 0) 3 - M (6, 0, 0) 7).toNat (M (6, 0, 0) 7) (M (6, 0, 0) 8)).1 ∧ Zf M M1 ∧ N = N1)) := by
  refine ct_of (own := RX4) (L0 := [vr (6, 0, 0), vi lo, vi hi, vi ba, vi le]) rfl (by decide +kernel) rfl rfl ?_
  exact lp_X4_takeRun hT e0 f0 hl hh hle _ _ _ M rfl f0 Zf.rf (by
    funext j
    unfold upI
    by_cases q7 : j = 7
    · rw [if_pos q7, q7]
    · rw [if_neg q7]
      by_cases q8 : j = 8
      · rw [if_pos q8, q8]
      · rw [if_neg q8]) rfl
set_option maxRecDepth 100000 in
set_option maxHeartbeats 4000000 in
theorem lp_X4_advance {E : Ev} {M : Mm} {N : Nn}  (hT : N (6, 0, 0) 2 = (4, 0, 0)) (e0 : M (6, 0, 0) 3 ≤ 500) (f0 : 0 ≤ M (6, 0, 0) 7) (f1 : M (6, 0, 0) 7 ≤ 500) : ∀ (n : Nat) (x : Int) (M' : Mm) (x1 : Vv), (n = (M (6, 0, 0) 3 - x).toNat) → (0 ≤ x) → (x ≤ 500) → (Zf M M') → (M' (6, 0, 0) = upI (M (6, 0, 0)) 7 x) → (bkS (M (4, 0, 0)) (M (6, 0, 0) 3) n x = adP (M (4, 0, 0)) (M (6, 0, 0))) → Go E RX4 cX4_advance 2 (none) (rmH 2) 0 0 (zM E (qv (fun M1 N1 => M1 (6, 0, 0) = adR (M (4, 0, 0)) (M (6, 0, 0)) ∧ Zf M M1 ∧ N = N1))) 0 [vr (6, 0, 0), x1] [] M' N := by
  intro n
  induction n using Nat.strongRecOn with
  | ind n ih =>
  intro x M' x1 hn h0 h1 hf hr he
  have e3 : M' (6, 0, 0) 3 = M (6, 0, 0) 3 := by rw [hr]; unfold upI; rw [if_neg (by decide)]
  have e7 : M' (6, 0, 0) 7 = x := by rw [hr]; unfold upI; rw [if_pos rfl]
  have e4 : M' (4, 0, 0) = M (4, 0, 0) := hf _ (nm_ne1 (by decide))
  refine go_aload_n dX4_advance_0 rfl rfl ?_
  refine g4_37 dX4_advance_1 ?_
  rw [e7]
  refine go_aload_n dX4_advance_4 rfl rfl ?_
  refine g4_15 dX4_advance_5 ?_
  rw [e3]
  refine go_icmp_ge (tgt := 38) dX4_advance_8 rfl (fun h8 => ?_) (fun h8 => ?_)
  · have hx : x = adP (M (4, 0, 0)) (M (6, 0, 0)) := by
      rw [← he]
      first
      | (rw [show n = 0 by omega]; rfl)
      | (rw [show n = (n - 1) + 1 by omega]
         exact (if_neg (by omega)).symm)
    refine go_aload_n dX4_advance_38 rfl rfl ?_
    refine go_aload_n dX4_advance_39 rfl rfl ?_
    refine g4_37 dX4_advance_40 ?_
    rw [e7]
    refine p4_54 dX4_advance_43 ?_
    refine go_aload_n dX4_advance_46 rfl rfl ?_
    refine go_iconst dX4_advance_47 (R32_lit rfl) ?_
    refine p4_129 dX4_advance_48 ?_
    refine go_nmM (fun M2 eM2 => ?_)
    have hf2 : Zf M M2 := by rw [eM2]; exact hf.w6.w6
    have f4 : M2 (4, 0, 0) = M (4, 0, 0) := hf2 _ (nm_ne1 (by decide))
    have r2 : M2 (6, 0, 0) = upI (upI (upI (M (6, 0, 0)) 7 x) 6 x) 8 0 := by rw [eM2, upI_wr, upI_wr, hr]
    have f3 : M2 (6, 0, 0) 3 = M (6, 0, 0) 3 := by rw [r2]; rfl
    have f6 : M2 (6, 0, 0) 6 = x := by rw [r2]; rfl
    have f7 : M2 (6, 0, 0) 7 = x := by rw [r2]; rfl
    have f8 : M2 (6, 0, 0) 8 = 0 := by rw [r2]; rfl
    clear eM2
    refine go_aload_n dX4_advance_51 rfl rfl ?_
    refine g4_54 dX4_advance_52 ?_
    rw [f6]
    refine go_aload_n dX4_advance_55 rfl rfl ?_
    refine g4_15 dX4_advance_56 ?_
    rw [f3]
    refine go_icmp_lt (tgt := 68) dX4_advance_59 rfl (fun h59 => ?_) (fun h59 => ?_)
    · refine go_aload_n dX4_advance_68 rfl rfl ?_
      refine g4_9 dX4_advance_69 ?_
      rw [hT]
      refine go_aload_n dX4_advance_72 rfl rfl ?_
      refine g4_54 dX4_advance_73 ?_
      rw [f6]
      refine go_bald dX4_advance_76 rfl (by omega) (by omega) ?_
      rw [f4]
      refine go_ist1 dX4_advance_77 rfl rfl ?_
      refine go_iload_n dX4_advance_78 rfl ?_
      refine go_bipush dX4_advance_79 ⟨by decide, by decide⟩ ?_
      refine go_icmp_lt (tgt := 127) dX4_advance_81 rfl (fun h81 => ?_) (fun h81 => ?_)
      · refine go_iload_n dX4_advance_127 rfl ?_
        refine go_bipush dX4_advance_128 ⟨by decide, by decide⟩ ?_
        refine go_icmp_lt (tgt := 175) dX4_advance_130 rfl (fun h130 => ?_) (fun h130 => ?_)
        · refine go_aload_n dX4_advance_175 rfl rfl ?_
          first | refine go_dup_r dX4_advance_176 ?_ | refine go_dup_i dX4_advance_176 ?_
          refine g4_37 dX4_advance_177 ?_
          rw [f7]
          refine go_iconst dX4_advance_180 (R32_lit rfl) ?_
          refine go_iaddc dX4_advance_181 ⟨by omega, by omega⟩ ?_
          refine p4_37 dX4_advance_182 ?_
          refine go_aload_n dX4_advance_185 rfl rfl ?_
          refine go_iload_n dX4_advance_186 rfl ?_
          refine v4_162 dX4_advance_187 rfl ⟨rfl, rfl⟩ ⟨rfl, rfl⟩ ct_X4_isSingle (fun r3 M5 N5 hr3 hq3 => ?_)
          obtain ⟨hs, rfl, rfl⟩ := hq3
          refine go_if_eq (tgt := 197) dX4_advance_190 rfl (fun h190 => ?_) (fun h190 => ?_)
          · refine go_iconst dX4_advance_197 (R32_lit rfl) ?_
            refine p4_47 dX4_advance_198 ?_
            refine go_retv dX4_advance_201 ?_
            first
            | (
               refine ⟨?_, ?_, rfl⟩
               · have ht : tkS (M (4, 0, 0)) (M (6, 0, 0) 3) x = (2, Q) := by
                   unfold tkS
                   rw [if_neg (by omega), if_pos (by omega), hQ, if_pos (by omega)]
                 show _ = st4 (M (6, 0, 0)) (tkS (M (4, 0, 0)) (M (6, 0, 0) 3) (adP (M (4, 0, 0)) (M (6, 0, 0)))) (adP (M (4, 0, 0)) (M (6, 0, 0)))
                 rw [← hx, ht]
                 rw [upI_wr, u1]
                 exact st4_a
               · exact hf3.w6)
            | (
               refine ⟨?_, ?_, rfl⟩
               · have ht : tkS (M (4, 0, 0)) (M (6, 0, 0) 3) x = (1, Q) := by
                   unfold tkS
                   rw [if_neg (by omega), if_pos (by omega), hQ, if_neg (by omega)]
                 show _ = st4 (M (6, 0, 0)) (tkS (M (4, 0, 0)) (M (6, 0, 0) 3) (adP (M (4, 0, 0)) (M (6, 0, 0)))) (adP (M (4, 0, 0)) (M (6, 0, 0)))
                 rw [← hx, ht]
                 rw [upI_wr, u1]
                 exact st4_a
               · exact hf3.w6)
            | (
               refine ⟨?_, ?_, rfl⟩
               · have ht : tkS (M (4, 0, 0)) (M (6, 0, 0) 3) x = (3, Q) := by
                   unfold tkS
                   rw [if_neg (by omega), if_neg (by omega), if_pos (by omega), hQ, if_pos (by omega)]
                 show _ = st4 (M (6, 0, 0)) (tkS (M (4, 0, 0)) (M (6, 0, 0) 3) (adP (M (4, 0, 0)) (M (6, 0, 0)))) (adP (M (4, 0, 0)) (M (6, 0, 0)))
                 rw [← hx, ht]
                 rw [upI_wr, u1]
                 exact st4_a
               · exact hf3.w6)
            | (
               refine ⟨?_, ?_, rfl⟩
               · have ht : tkS (M (4, 0, 0)) (M (6, 0, 0) 3) x = (1, Q) := by
                   unfold tkS
                   rw [if_neg (by omega), if_neg (by omega), if_pos (by omega), hQ, if_neg (by omega)]
                 show _ = st4 (M (6, 0, 0)) (tkS (M (4, 0, 0)) (M (6, 0, 0) 3) (adP (M (4, 0, 0)) (M (6, 0, 0)))) (adP (M (4, 0, 0)) (M (6, 0, 0)))
                 rw [← hx, ht]
                 rw [upI_wr, u1]
                 exact st4_a
               · exact hf3.w6)
            | (
               refine ⟨?_, ?_, rfl⟩
               · have ht : tkS (M (4, 0, 0)) (M (6, 0, 0) 3) x = (M (4, 0, 0) x, x + 1, 0) := by
                   unfold tkS
                   rw [if_neg (by omega), if_neg (by omega), if_neg (by omega), if_pos (hs.elim (fun z => z.1) (fun z => absurd z.2 (by omega)))]
                 show _ = st4 (M (6, 0, 0)) (tkS (M (4, 0, 0)) (M (6, 0, 0) 3) (adP (M (4, 0, 0)) (M (6, 0, 0)))) (adP (M (4, 0, 0)) (M (6, 0, 0)))
                 rw [← hx, ht]
                 rw [upI_wr, upI_wr, r2]
                 exact st4_b
               · exact hf2.w6.w6)
            | (
               refine ⟨?_, ?_, rfl⟩
               · have ht : tkS (M (4, 0, 0)) (M (6, 0, 0) 3) x = (1, x + 1, 0) := by
                   unfold tkS
                   rw [if_neg (by omega), if_neg (by omega), if_neg (by omega), if_neg (hs.elim (fun z => absurd z.2 (by omega)) (fun z => z.1))]
                 show _ = st4 (M (6, 0, 0)) (tkS (M (4, 0, 0)) (M (6, 0, 0) 3) (adP (M (4, 0, 0)) (M (6, 0, 0)))) (adP (M (4, 0, 0)) (M (6, 0, 0)))
                 rw [← hx, ht]
                 rw [upI_wr, upI_wr, r2]
                 exact st4_b
               · exact hf2.w6.w6)
          · refine go_iload_n dX4_advance_193 rfl ?_
            refine go_goto (tgt := 198) dX4_advance_194 rfl ?_
            refine p4_47 dX4_advance_198 ?_
            refine go_retv dX4_advance_201 ?_
            first
            | (
               refine ⟨?_, ?_, rfl⟩
               · have ht : tkS (M (4, 0, 0)) (M (6, 0, 0) 3) x = (2, Q) := by
                   unfold tkS
                   rw [if_neg (by omega), if_pos (by omega), hQ, if_pos (by omega)]
                 show _ = st4 (M (6, 0, 0)) (tkS (M (4, 0, 0)) (M (6, 0, 0) 3) (adP (M (4, 0, 0)) (M (6, 0, 0)))) (adP (M (4, 0, 0)) (M (6, 0, 0)))
                 rw [← hx, ht]
                 rw [upI_wr, u1]
                 exact st4_a
               · exact hf3.w6)
            | (
               refine ⟨?_, ?_, rfl⟩
               · have ht : tkS (M (4, 0, 0)) (M (6, 0, 0) 3) x = (1, Q) := by
                   unfold tkS
                   rw [if_neg (by omega), if_pos (by omega), hQ, if_neg (by omega)]
                 show _ = st4 (M (6, 0, 0)) (tkS (M (4, 0, 0)) (M (6, 0, 0) 3) (adP (M (4, 0, 0)) (M (6, 0, 0)))) (adP (M (4, 0, 0)) (M (6, 0, 0)))
                 rw [← hx, ht]
                 rw [upI_wr, u1]
                 exact st4_a
               · exact hf3.w6)
            | (
               refine ⟨?_, ?_, rfl⟩
               · have ht : tkS (M (4, 0, 0)) (M (6, 0, 0) 3) x = (3, Q) := by
                   unfold tkS
                   rw [if_neg (by omega), if_neg (by omega), if_pos (by omega), hQ, if_pos (by omega)]
                 show _ = st4 (M (6, 0, 0)) (tkS (M (4, 0, 0)) (M (6, 0, 0) 3) (adP (M (4, 0, 0)) (M (6, 0, 0)))) (adP (M (4, 0, 0)) (M (6, 0, 0)))
                 rw [← hx, ht]
                 rw [upI_wr, u1]
                 exact st4_a
               · exact hf3.w6)
            | (
               refine ⟨?_, ?_, rfl⟩
               · have ht : tkS (M (4, 0, 0)) (M (6, 0, 0) 3) x = (1, Q) := by
                   unfold tkS
                   rw [if_neg (by omega), if_neg (by omega), if_pos (by omega), hQ, if_neg (by omega)]
                 show _ = st4 (M (6, 0, 0)) (tkS (M (4, 0, 0)) (M (6, 0, 0) 3) (adP (M (4, 0, 0)) (M (6, 0, 0)))) (adP (M (4, 0, 0)) (M (6, 0, 0)))
                 rw [← hx, ht]
                 rw [upI_wr, u1]
                 exact st4_a
               · exact hf3.w6)
            | (
               refine ⟨?_, ?_, rfl⟩
               · have ht : tkS (M (4, 0, 0)) (M (6, 0, 0) 3) x = (M (4, 0, 0) x, x + 1, 0) := by
                   unfold tkS
                   rw [if_neg (by omega), if_neg (by omega), if_neg (by omega), if_pos (hs.elim (fun z => z.1) (fun z => absurd z.2 (by omega)))]
                 show _ = st4 (M (6, 0, 0)) (tkS (M (4, 0, 0)) (M (6, 0, 0) 3) (adP (M (4, 0, 0)) (M (6, 0, 0)))) (adP (M (4, 0, 0)) (M (6, 0, 0)))
                 rw [← hx, ht]
                 rw [upI_wr, upI_wr, r2]
                 exact st4_b
               · exact hf2.w6.w6)
            | (
               refine ⟨?_, ?_, rfl⟩
               · have ht : tkS (M (4, 0, 0)) (M (6, 0, 0) 3) x = (1, x + 1, 0) := by
                   unfold tkS
                   rw [if_neg (by omega), if_neg (by omega), if_neg (by omega), if_neg (hs.elim (fun z => absurd z.2 (by omega)) (fun z => z.1))]
                 show _ = st4 (M (6, 0, 0)) (tkS (M (4, 0, 0)) (M (6, 0, 0) 3) (adP (M (4, 0, 0)) (M (6, 0, 0)))) (adP (M (4, 0, 0)) (M (6, 0, 0)))
                 rw [← hx, ht]
                 rw [upI_wr, upI_wr, r2]
                 exact st4_b
               · exact hf2.w6.w6)
        · refine go_iload_n dX4_advance_133 rfl ?_
          refine go_bipush dX4_advance_134 ⟨by decide, by decide⟩ ?_
          refine go_icmp_gt (tgt := 175) dX4_advance_136 rfl (fun h136 => ?_) (fun h136 => ?_)
          · refine go_aload_n dX4_advance_175 rfl rfl ?_
            first | refine go_dup_r dX4_advance_176 ?_ | refine go_dup_i dX4_advance_176 ?_
            refine g4_37 dX4_advance_177 ?_
            rw [f7]
            refine go_iconst dX4_advance_180 (R32_lit rfl) ?_
            refine go_iaddc dX4_advance_181 ⟨by omega, by omega⟩ ?_
            refine p4_37 dX4_advance_182 ?_
            refine go_aload_n dX4_advance_185 rfl rfl ?_
            refine go_iload_n dX4_advance_186 rfl ?_
            refine v4_162 dX4_advance_187 rfl ⟨rfl, rfl⟩ ⟨rfl, rfl⟩ ct_X4_isSingle (fun r3 M5 N5 hr3 hq3 => ?_)
            obtain ⟨hs, rfl, rfl⟩ := hq3
            refine go_if_eq (tgt := 197) dX4_advance_190 rfl (fun h190 => ?_) (fun h190 => ?_)
            · refine go_iconst dX4_advance_197 (R32_lit rfl) ?_
              refine p4_47 dX4_advance_198 ?_
              refine go_retv dX4_advance_201 ?_
              first
              | (
                 refine ⟨?_, ?_, rfl⟩
                 · have ht : tkS (M (4, 0, 0)) (M (6, 0, 0) 3) x = (2, Q) := by
                     unfold tkS
                     rw [if_neg (by omega), if_pos (by omega), hQ, if_pos (by omega)]
                   show _ = st4 (M (6, 0, 0)) (tkS (M (4, 0, 0)) (M (6, 0, 0) 3) (adP (M (4, 0, 0)) (M (6, 0, 0)))) (adP (M (4, 0, 0)) (M (6, 0, 0)))
                   rw [← hx, ht]
                   rw [upI_wr, u1]
                   exact st4_a
                 · exact hf3.w6)
              | (
                 refine ⟨?_, ?_, rfl⟩
                 · have ht : tkS (M (4, 0, 0)) (M (6, 0, 0) 3) x = (1, Q) := by
                     unfold tkS
                     rw [if_neg (by omega), if_pos (by omega), hQ, if_neg (by omega)]
                   show _ = st4 (M (6, 0, 0)) (tkS (M (4, 0, 0)) (M (6, 0, 0) 3) (adP (M (4, 0, 0)) (M (6, 0, 0)))) (adP (M (4, 0, 0)) (M (6, 0, 0)))
                   rw [← hx, ht]
                   rw [upI_wr, u1]
                   exact st4_a
                 · exact hf3.w6)
              | (
                 refine ⟨?_, ?_, rfl⟩
                 · have ht : tkS (M (4, 0, 0)) (M (6, 0, 0) 3) x = (3, Q) := by
                     unfold tkS
                     rw [if_neg (by omega), if_neg (by omega), if_pos (by omega), hQ, if_pos (by omega)]
                   show _ = st4 (M (6, 0, 0)) (tkS (M (4, 0, 0)) (M (6, 0, 0) 3) (adP (M (4, 0, 0)) (M (6, 0, 0)))) (adP (M (4, 0, 0)) (M (6, 0, 0)))
                   rw [← hx, ht]
                   rw [upI_wr, u1]
                   exact st4_a
                 · exact hf3.w6)
              | (
                 refine ⟨?_, ?_, rfl⟩
                 · have ht : tkS (M (4, 0, 0)) (M (6, 0, 0) 3) x = (1, Q) := by
                     unfold tkS
                     rw [if_neg (by omega), if_neg (by omega), if_pos (by omega), hQ, if_neg (by omega)]
                   show _ = st4 (M (6, 0, 0)) (tkS (M (4, 0, 0)) (M (6, 0, 0) 3) (adP (M (4, 0, 0)) (M (6, 0, 0)))) (adP (M (4, 0, 0)) (M (6, 0, 0)))
                   rw [← hx, ht]
                   rw [upI_wr, u1]
                   exact st4_a
                 · exact hf3.w6)
              | (
                 refine ⟨?_, ?_, rfl⟩
                 · have ht : tkS (M (4, 0, 0)) (M (6, 0, 0) 3) x = (M (4, 0, 0) x, x + 1, 0) := by
                     unfold tkS
                     rw [if_neg (by omega), if_neg (by omega), if_neg (by omega), if_pos (hs.elim (fun z => z.1) (fun z => absurd z.2 (by omega)))]
                   show _ = st4 (M (6, 0, 0)) (tkS (M (4, 0, 0)) (M (6, 0, 0) 3) (adP (M (4, 0, 0)) (M (6, 0, 0)))) (adP (M (4, 0, 0)) (M (6, 0, 0)))
                   rw [← hx, ht]
                   rw [upI_wr, upI_wr, r2]
                   exact st4_b
                 · exact hf2.w6.w6)
              | (
                 refine ⟨?_, ?_, rfl⟩
                 · have ht : tkS (M (4, 0, 0)) (M (6, 0, 0) 3) x = (1, x + 1, 0) := by
                     unfold tkS
                     rw [if_neg (by omega), if_neg (by omega), if_neg (by omega), if_neg (hs.elim (fun z => absurd z.2 (by omega)) (fun z => z.1))]
                   show _ = st4 (M (6, 0, 0)) (tkS (M (4, 0, 0)) (M (6, 0, 0) 3) (adP (M (4, 0, 0)) (M (6, 0, 0)))) (adP (M (4, 0, 0)) (M (6, 0, 0)))
                   rw [← hx, ht]
                   rw [upI_wr, upI_wr, r2]
                   exact st4_b
                 · exact hf2.w6.w6)
            · refine go_iload_n dX4_advance_193 rfl ?_
              refine go_goto (tgt := 198) dX4_advance_194 rfl ?_
              refine p4_47 dX4_advance_198 ?_
              refine go_retv dX4_advance_201 ?_
              first
              | (
                 refine ⟨?_, ?_, rfl⟩
                 · have ht : tkS (M (4, 0, 0)) (M (6, 0, 0) 3) x = (2, Q) := by
                     unfold tkS
                     rw [if_neg (by omega), if_pos (by omega), hQ, if_pos (by omega)]
                   show _ = st4 (M (6, 0, 0)) (tkS (M (4, 0, 0)) (M (6, 0, 0) 3) (adP (M (4, 0, 0)) (M (6, 0, 0)))) (adP (M (4, 0, 0)) (M (6, 0, 0)))
                   rw [← hx, ht]
                   rw [upI_wr, u1]
                   exact st4_a
                 · exact hf3.w6)
              | (
                 refine ⟨?_, ?_, rfl⟩
                 · have ht : tkS (M (4, 0, 0)) (M (6, 0, 0) 3) x = (1, Q) := by
                     unfold tkS
                     rw [if_neg (by omega), if_pos (by omega), hQ, if_neg (by omega)]
                   show _ = st4 (M (6, 0, 0)) (tkS (M (4, 0, 0)) (M (6, 0, 0) 3) (adP (M (4, 0, 0)) (M (6, 0, 0)))) (adP (M (4, 0, 0)) (M (6, 0, 0)))
                   rw [← hx, ht]
                   rw [upI_wr, u1]
                   exact st4_a
                 · exact hf3.w6)
              | (
                 refine ⟨?_, ?_, rfl⟩
                 · have ht : tkS (M (4, 0, 0)) (M (6, 0, 0) 3) x = (3, Q) := by
                     unfold tkS
                     rw [if_neg (by omega), if_neg (by omega), if_pos (by omega), hQ, if_pos (by omega)]
                   show _ = st4 (M (6, 0, 0)) (tkS (M (4, 0, 0)) (M (6, 0, 0) 3) (adP (M (4, 0, 0)) (M (6, 0, 0)))) (adP (M (4, 0, 0)) (M (6, 0, 0)))
                   rw [← hx, ht]
                   rw [upI_wr, u1]
                   exact st4_a
                 · exact hf3.w6)
              | (
                 refine ⟨?_, ?_, rfl⟩
                 · have ht : tkS (M (4, 0, 0)) (M (6, 0, 0) 3) x = (1, Q) := by
                     unfold tkS
                     rw [if_neg (by omega), if_neg (by omega), if_pos (by omega), hQ, if_neg (by omega)]
                   show _ = st4 (M (6, 0, 0)) (tkS (M (4, 0, 0)) (M (6, 0, 0) 3) (adP (M (4, 0, 0)) (M (6, 0, 0)))) (adP (M (4, 0, 0)) (M (6, 0, 0)))
                   rw [← hx, ht]
                   rw [upI_wr, u1]
                   exact st4_a
                 · exact hf3.w6)
              | (
                 refine ⟨?_, ?_, rfl⟩
                 · have ht : tkS (M (4, 0, 0)) (M (6, 0, 0) 3) x = (M (4, 0, 0) x, x + 1, 0) := by
                     unfold tkS
                     rw [if_neg (by omega), if_neg (by omega), if_neg (by omega), if_pos (hs.elim (fun z => z.1) (fun z => absurd z.2 (by omega)))]
                   show _ = st4 (M (6, 0, 0)) (tkS (M (4, 0, 0)) (M (6, 0, 0) 3) (adP (M (4, 0, 0)) (M (6, 0, 0)))) (adP (M (4, 0, 0)) (M (6, 0, 0)))
                   rw [← hx, ht]
                   rw [upI_wr, upI_wr, r2]
                   exact st4_b
                 · exact hf2.w6.w6)
              | (
                 refine ⟨?_, ?_, rfl⟩
                 · have ht : tkS (M (4, 0, 0)) (M (6, 0, 0) 3) x = (1, x + 1, 0) := by
                     unfold tkS
                     rw [if_neg (by omega), if_neg (by omega), if_neg (by omega), if_neg (hs.elim (fun z => absurd z.2 (by omega)) (fun z => z.1))]
                   show _ = st4 (M (6, 0, 0)) (tkS (M (4, 0, 0)) (M (6, 0, 0) 3) (adP (M (4, 0, 0)) (M (6, 0, 0)))) (adP (M (4, 0, 0)) (M (6, 0, 0)))
                   rw [← hx, ht]
                   rw [upI_wr, upI_wr, r2]
                   exact st4_b
                 · exact hf2.w6.w6)
          · refine go_aload_n dX4_advance_139 rfl rfl ?_
            refine go_bipush dX4_advance_140 ⟨by decide, by decide⟩ ?_
            refine go_bipush dX4_advance_142 ⟨by decide, by decide⟩ ?_
            refine go_bipush dX4_advance_144 ⟨by decide, by decide⟩ ?_
            refine go_iconst dX4_advance_146 (R32_lit rfl) ?_
            refine v4_158 dX4_advance_147 rfl ⟨rfl, rfl⟩ ⟨rfl, rfl⟩ (ct_X4_takeRun hT (by omega) (by omega) ⟨by decide, by decide⟩ ⟨by decide, by decide⟩ ⟨by decide, by decide⟩) (fun M4 N4 hq2 => ?_)
            obtain ⟨u1, u2, rfl⟩ := hq2
            rw [f3, f4, f7, f8, r2] at u1
            have hub := ruS_bd (M (4, 0, 0)) (M (6, 0, 0) 3) 48 57 10 0 ((M (6, 0, 0) 3) - x).toNat x 0
            generalize hQ : (ruS (M (4, 0, 0)) (M (6, 0, 0) 3) 48 57 10 0 ((M (6, 0, 0) 3) - x).toNat x 0) = Q at u1 hub
            have hf3 := hf2.tr u2
            have v7 : M4 (6, 0, 0) 7 = Q.1 := by rw [u1]; rfl
            have v6 : M4 (6, 0, 0) 6 = x := by rw [u1]; rfl
            refine go_aload_n dX4_advance_150 rfl rfl ?_
            refine go_aload_n dX4_advance_151 rfl rfl ?_
            refine g4_37 dX4_advance_152 ?_
            rw [v7]
            refine go_aload_n dX4_advance_155 rfl rfl ?_
            refine g4_54 dX4_advance_156 ?_
            rw [v6]
            refine go_isubc dX4_advance_159 ⟨by omega, by omega⟩ ?_
            refine go_iconst dX4_advance_160 (R32_lit rfl) ?_
            refine go_icmp_gt (tgt := 168) dX4_advance_161 rfl (fun h161 => ?_) (fun h161 => ?_)
            · refine go_iconst dX4_advance_168 (R32_lit rfl) ?_
              refine p4_47 dX4_advance_169 ?_
              refine go_goto (tgt := 201) dX4_advance_172 rfl ?_
              refine go_retv dX4_advance_201 ?_
              first
              | (
                 refine ⟨?_, ?_, rfl⟩
                 · have ht : tkS (M (4, 0, 0)) (M (6, 0, 0) 3) x = (2, Q) := by
                     unfold tkS
                     rw [if_neg (by omega), if_pos (by omega), hQ, if_pos (by omega)]
                   show _ = st4 (M (6, 0, 0)) (tkS (M (4, 0, 0)) (M (6, 0, 0) 3) (adP (M (4, 0, 0)) (M (6, 0, 0)))) (adP (M (4, 0, 0)) (M (6, 0, 0)))
                   rw [← hx, ht]
                   rw [upI_wr, u1]
                   exact st4_a
                 · exact hf3.w6)
              | (
                 refine ⟨?_, ?_, rfl⟩
                 · have ht : tkS (M (4, 0, 0)) (M (6, 0, 0) 3) x = (1, Q) := by
                     unfold tkS
                     rw [if_neg (by omega), if_pos (by omega), hQ, if_neg (by omega)]
                   show _ = st4 (M (6, 0, 0)) (tkS (M (4, 0, 0)) (M (6, 0, 0) 3) (adP (M (4, 0, 0)) (M (6, 0, 0)))) (adP (M (4, 0, 0)) (M (6, 0, 0)))
                   rw [← hx, ht]
                   rw [upI_wr, u1]
                   exact st4_a
                 · exact hf3.w6)
              | (
                 refine ⟨?_, ?_, rfl⟩
                 · have ht : tkS (M (4, 0, 0)) (M (6, 0, 0) 3) x = (3, Q) := by
                     unfold tkS
                     rw [if_neg (by omega), if_neg (by omega), if_pos (by omega), hQ, if_pos (by omega)]
                   show _ = st4 (M (6, 0, 0)) (tkS (M (4, 0, 0)) (M (6, 0, 0) 3) (adP (M (4, 0, 0)) (M (6, 0, 0)))) (adP (M (4, 0, 0)) (M (6, 0, 0)))
                   rw [← hx, ht]
                   rw [upI_wr, u1]
                   exact st4_a
                 · exact hf3.w6)
              | (
                 refine ⟨?_, ?_, rfl⟩
                 · have ht : tkS (M (4, 0, 0)) (M (6, 0, 0) 3) x = (1, Q) := by
                     unfold tkS
                     rw [if_neg (by omega), if_neg (by omega), if_pos (by omega), hQ, if_neg (by omega)]
                   show _ = st4 (M (6, 0, 0)) (tkS (M (4, 0, 0)) (M (6, 0, 0) 3) (adP (M (4, 0, 0)) (M (6, 0, 0)))) (adP (M (4, 0, 0)) (M (6, 0, 0)))
                   rw [← hx, ht]
                   rw [upI_wr, u1]
                   exact st4_a
                 · exact hf3.w6)
              | (
                 refine ⟨?_, ?_, rfl⟩
                 · have ht : tkS (M (4, 0, 0)) (M (6, 0, 0) 3) x = (M (4, 0, 0) x, x + 1, 0) := by
                     unfold tkS
                     rw [if_neg (by omega), if_neg (by omega), if_neg (by omega), if_pos (hs.elim (fun z => z.1) (fun z => absurd z.2 (by omega)))]
                   show _ = st4 (M (6, 0, 0)) (tkS (M (4, 0, 0)) (M (6, 0, 0) 3) (adP (M (4, 0, 0)) (M (6, 0, 0)))) (adP (M (4, 0, 0)) (M (6, 0, 0)))
                   rw [← hx, ht]
                   rw [upI_wr, upI_wr, r2]
                   exact st4_b
                 · exact hf2.w6.w6)
              | (
                 refine ⟨?_, ?_, rfl⟩
                 · have ht : tkS (M (4, 0, 0)) (M (6, 0, 0) 3) x = (1, x + 1, 0) := by
                     unfold tkS
                     rw [if_neg (by omega), if_neg (by omega), if_neg (by omega), if_neg (hs.elim (fun z => absurd z.2 (by omega)) (fun z => z.1))]
                   show _ = st4 (M (6, 0, 0)) (tkS (M (4, 0, 0)) (M (6, 0, 0) 3) (adP (M (4, 0, 0)) (M (6, 0, 0)))) (adP (M (4, 0, 0)) (M (6, 0, 0)))
                   rw [← hx, ht]
                   rw [upI_wr, upI_wr, r2]
                   exact st4_b
                 · exact hf2.w6.w6)
            · refine go_iconst dX4_advance_164 (R32_lit rfl) ?_
              refine go_goto (tgt := 169) dX4_advance_165 rfl ?_
              refine p4_47 dX4_advance_169 ?_
              refine go_goto (tgt := 201) dX4_advance_172 rfl ?_
              refine go_retv dX4_advance_201 ?_
              first
              | (
                 refine ⟨?_, ?_, rfl⟩
                 · have ht : tkS (M (4, 0, 0)) (M (6, 0, 0) 3) x = (2, Q) := by
                     unfold tkS
                     rw [if_neg (by omega), if_pos (by omega), hQ, if_pos (by omega)]
                   show _ = st4 (M (6, 0, 0)) (tkS (M (4, 0, 0)) (M (6, 0, 0) 3) (adP (M (4, 0, 0)) (M (6, 0, 0)))) (adP (M (4, 0, 0)) (M (6, 0, 0)))
                   rw [← hx, ht]
                   rw [upI_wr, u1]
                   exact st4_a
                 · exact hf3.w6)
              | (
                 refine ⟨?_, ?_, rfl⟩
                 · have ht : tkS (M (4, 0, 0)) (M (6, 0, 0) 3) x = (1, Q) := by
                     unfold tkS
                     rw [if_neg (by omega), if_pos (by omega), hQ, if_neg (by omega)]
                   show _ = st4 (M (6, 0, 0)) (tkS (M (4, 0, 0)) (M (6, 0, 0) 3) (adP (M (4, 0, 0)) (M (6, 0, 0)))) (adP (M (4, 0, 0)) (M (6, 0, 0)))
                   rw [← hx, ht]
                   rw [upI_wr, u1]
                   exact st4_a
                 · exact hf3.w6)
              | (
                 refine ⟨?_, ?_, rfl⟩
                 · have ht : tkS (M (4, 0, 0)) (M (6, 0, 0) 3) x = (3, Q) := by
                     unfold tkS
                     rw [if_neg (by omega), if_neg (by omega), if_pos (by omega), hQ, if_pos (by omega)]
                   show _ = st4 (M (6, 0, 0)) (tkS (M (4, 0, 0)) (M (6, 0, 0) 3) (adP (M (4, 0, 0)) (M (6, 0, 0)))) (adP (M (4, 0, 0)) (M (6, 0, 0)))
                   rw [← hx, ht]
                   rw [upI_wr, u1]
                   exact st4_a
                 · exact hf3.w6)
              | (
                 refine ⟨?_, ?_, rfl⟩
                 · have ht : tkS (M (4, 0, 0)) (M (6, 0, 0) 3) x = (1, Q) := by
                     unfold tkS
                     rw [if_neg (by omega), if_neg (by omega), if_pos (by omega), hQ, if_neg (by omega)]
                   show _ = st4 (M (6, 0, 0)) (tkS (M (4, 0, 0)) (M (6, 0, 0) 3) (adP (M (4, 0, 0)) (M (6, 0, 0)))) (adP (M (4, 0, 0)) (M (6, 0, 0)))
                   rw [← hx, ht]
                   rw [upI_wr, u1]
                   exact st4_a
                 · exact hf3.w6)
              | (
                 refine ⟨?_, ?_, rfl⟩
                 · have ht : tkS (M (4, 0, 0)) (M (6, 0, 0) 3) x = (M (4, 0, 0) x, x + 1, 0) := by
                     unfold tkS
                     rw [if_neg (by omega), if_neg (by omega), if_neg (by omega), if_pos (hs.elim (fun z => z.1) (fun z => absurd z.2 (by omega)))]
                   show _ = st4 (M (6, 0, 0)) (tkS (M (4, 0, 0)) (M (6, 0, 0) 3) (adP (M (4, 0, 0)) (M (6, 0, 0)))) (adP (M (4, 0, 0)) (M (6, 0, 0)))
                   rw [← hx, ht]
                   rw [upI_wr, upI_wr, r2]
                   exact st4_b
                 · exact hf2.w6.w6)
              | (
                 refine ⟨?_, ?_, rfl⟩
                 · have ht : tkS (M (4, 0, 0)) (M (6, 0, 0) 3) x = (1, x + 1, 0) := by
                     unfold tkS
                     rw [if_neg (by omega), if_neg (by omega), if_neg (by omega), if_neg (hs.elim (fun z => absurd z.2 (by omega)) (fun z => z.1))]
                   show _ = st4 (M (6, 0, 0)) (tkS (M (4, 0, 0)) (M (6, 0, 0) 3) (adP (M (4, 0, 0)) (M (6, 0, 0)))) (adP (M (4, 0, 0)) (M (6, 0, 0)))
                   rw [← hx, ht]
                   rw [upI_wr, upI_wr, r2]
                   exact st4_b
                 · exact hf2.w6.w6)
      · refine go_iload_n dX4_advance_84 rfl ?_
        refine go_bipush dX4_advance_85 ⟨by decide, by decide⟩ ?_
        refine go_icmp_gt (tgt := 127) dX4_advance_87 rfl (fun h87 => ?_) (fun h87 => ?_)
        · refine go_iload_n dX4_advance_127 rfl ?_
          refine go_bipush dX4_advance_128 ⟨by decide, by decide⟩ ?_
          refine go_icmp_lt (tgt := 175) dX4_advance_130 rfl (fun h130 => ?_) (fun h130 => ?_)
          · refine go_aload_n dX4_advance_175 rfl rfl ?_
            first | refine go_dup_r dX4_advance_176 ?_ | refine go_dup_i dX4_advance_176 ?_
            refine g4_37 dX4_advance_177 ?_
            rw [f7]
            refine go_iconst dX4_advance_180 (R32_lit rfl) ?_
            refine go_iaddc dX4_advance_181 ⟨by omega, by omega⟩ ?_
            refine p4_37 dX4_advance_182 ?_
            refine go_aload_n dX4_advance_185 rfl rfl ?_
            refine go_iload_n dX4_advance_186 rfl ?_
            refine v4_162 dX4_advance_187 rfl ⟨rfl, rfl⟩ ⟨rfl, rfl⟩ ct_X4_isSingle (fun r3 M5 N5 hr3 hq3 => ?_)
            obtain ⟨hs, rfl, rfl⟩ := hq3
            refine go_if_eq (tgt := 197) dX4_advance_190 rfl (fun h190 => ?_) (fun h190 => ?_)
            · refine go_iconst dX4_advance_197 (R32_lit rfl) ?_
              refine p4_47 dX4_advance_198 ?_
              refine go_retv dX4_advance_201 ?_
              first
              | (
                 refine ⟨?_, ?_, rfl⟩
                 · have ht : tkS (M (4, 0, 0)) (M (6, 0, 0) 3) x = (2, Q) := by
                     unfold tkS
                     rw [if_neg (by omega), if_pos (by omega), hQ, if_pos (by omega)]
                   show _ = st4 (M (6, 0, 0)) (tkS (M (4, 0, 0)) (M (6, 0, 0) 3) (adP (M (4, 0, 0)) (M (6, 0, 0)))) (adP (M (4, 0, 0)) (M (6, 0, 0)))
                   rw [← hx, ht]
                   rw [upI_wr, u1]
                   exact st4_a
                 · exact hf3.w6)
              | (
                 refine ⟨?_, ?_, rfl⟩
                 · have ht : tkS (M (4, 0, 0)) (M (6, 0, 0) 3) x = (1, Q) := by
                     unfold tkS
                     rw [if_neg (by omega), if_pos (by omega), hQ, if_neg (by omega)]
                   show _ = st4 (M (6, 0, 0)) (tkS (M (4, 0, 0)) (M (6, 0, 0) 3) (adP (M (4, 0, 0)) (M (6, 0, 0)))) (adP (M (4, 0, 0)) (M (6, 0, 0)))
                   rw [← hx, ht]
                   rw [upI_wr, u1]
                   exact st4_a
                 · exact hf3.w6)
              | (
                 refine ⟨?_, ?_, rfl⟩
                 · have ht : tkS (M (4, 0, 0)) (M (6, 0, 0) 3) x = (3, Q) := by
                     unfold tkS
                     rw [if_neg (by omega), if_neg (by omega), if_pos (by omega), hQ, if_pos (by omega)]
                   show _ = st4 (M (6, 0, 0)) (tkS (M (4, 0, 0)) (M (6, 0, 0) 3) (adP (M (4, 0, 0)) (M (6, 0, 0)))) (adP (M (4, 0, 0)) (M (6, 0, 0)))
                   rw [← hx, ht]
                   rw [upI_wr, u1]
                   exact st4_a
                 · exact hf3.w6)
              | (
                 refine ⟨?_, ?_, rfl⟩
                 · have ht : tkS (M (4, 0, 0)) (M (6, 0, 0) 3) x = (1, Q) := by
                     unfold tkS
                     rw [if_neg (by omega), if_neg (by omega), if_pos (by omega), hQ, if_neg (by omega)]
                   show _ = st4 (M (6, 0, 0)) (tkS (M (4, 0, 0)) (M (6, 0, 0) 3) (adP (M (4, 0, 0)) (M (6, 0, 0)))) (adP (M (4, 0, 0)) (M (6, 0, 0)))
                   rw [← hx, ht]
                   rw [upI_wr, u1]
                   exact st4_a
                 · exact hf3.w6)
              | (
                 refine ⟨?_, ?_, rfl⟩
                 · have ht : tkS (M (4, 0, 0)) (M (6, 0, 0) 3) x = (M (4, 0, 0) x, x + 1, 0) := by
                     unfold tkS
                     rw [if_neg (by omega), if_neg (by omega), if_neg (by omega), if_pos (hs.elim (fun z => z.1) (fun z => absurd z.2 (by omega)))]
                   show _ = st4 (M (6, 0, 0)) (tkS (M (4, 0, 0)) (M (6, 0, 0) 3) (adP (M (4, 0, 0)) (M (6, 0, 0)))) (adP (M (4, 0, 0)) (M (6, 0, 0)))
                   rw [← hx, ht]
                   rw [upI_wr, upI_wr, r2]
                   exact st4_b
                 · exact hf2.w6.w6)
              | (
                 refine ⟨?_, ?_, rfl⟩
                 · have ht : tkS (M (4, 0, 0)) (M (6, 0, 0) 3) x = (1, x + 1, 0) := by
                     unfold tkS
                     rw [if_neg (by omega), if_neg (by omega), if_neg (by omega), if_neg (hs.elim (fun z => absurd z.2 (by omega)) (fun z => z.1))]
                   show _ = st4 (M (6, 0, 0)) (tkS (M (4, 0, 0)) (M (6, 0, 0) 3) (adP (M (4, 0, 0)) (M (6, 0, 0)))) (adP (M (4, 0, 0)) (M (6, 0, 0)))
                   rw [← hx, ht]
                   rw [upI_wr, upI_wr, r2]
                   exact st4_b
                 · exact hf2.w6.w6)
            · refine go_iload_n dX4_advance_193 rfl ?_
              refine go_goto (tgt := 198) dX4_advance_194 rfl ?_
              refine p4_47 dX4_advance_198 ?_
              refine go_retv dX4_advance_201 ?_
              first
              | (
                 refine ⟨?_, ?_, rfl⟩
                 · have ht : tkS (M (4, 0, 0)) (M (6, 0, 0) 3) x = (2, Q) := by
                     unfold tkS
                     rw [if_neg (by omega), if_pos (by omega), hQ, if_pos (by omega)]
                   show _ = st4 (M (6, 0, 0)) (tkS (M (4, 0, 0)) (M (6, 0, 0) 3) (adP (M (4, 0, 0)) (M (6, 0, 0)))) (adP (M (4, 0, 0)) (M (6, 0, 0)))
                   rw [← hx, ht]
                   rw [upI_wr, u1]
                   exact st4_a
                 · exact hf3.w6)
              | (
                 refine ⟨?_, ?_, rfl⟩
                 · have ht : tkS (M (4, 0, 0)) (M (6, 0, 0) 3) x = (1, Q) := by
                     unfold tkS
                     rw [if_neg (by omega), if_pos (by omega), hQ, if_neg (by omega)]
                   show _ = st4 (M (6, 0, 0)) (tkS (M (4, 0, 0)) (M (6, 0, 0) 3) (adP (M (4, 0, 0)) (M (6, 0, 0)))) (adP (M (4, 0, 0)) (M (6, 0, 0)))
                   rw [← hx, ht]
                   rw [upI_wr, u1]
                   exact st4_a
                 · exact hf3.w6)
              | (
                 refine ⟨?_, ?_, rfl⟩
                 · have ht : tkS (M (4, 0, 0)) (M (6, 0, 0) 3) x = (3, Q) := by
                     unfold tkS
                     rw [if_neg (by omega), if_neg (by omega), if_pos (by omega), hQ, if_pos (by omega)]
                   show _ = st4 (M (6, 0, 0)) (tkS (M (4, 0, 0)) (M (6, 0, 0) 3) (adP (M (4, 0, 0)) (M (6, 0, 0)))) (adP (M (4, 0, 0)) (M (6, 0, 0)))
                   rw [← hx, ht]
                   rw [upI_wr, u1]
                   exact st4_a
                 · exact hf3.w6)
              | (
                 refine ⟨?_, ?_, rfl⟩
                 · have ht : tkS (M (4, 0, 0)) (M (6, 0, 0) 3) x = (1, Q) := by
                     unfold tkS
                     rw [if_neg (by omega), if_neg (by omega), if_pos (by omega), hQ, if_neg (by omega)]
                   show _ = st4 (M (6, 0, 0)) (tkS (M (4, 0, 0)) (M (6, 0, 0) 3) (adP (M (4, 0, 0)) (M (6, 0, 0)))) (adP (M (4, 0, 0)) (M (6, 0, 0)))
                   rw [← hx, ht]
                   rw [upI_wr, u1]
                   exact st4_a
                 · exact hf3.w6)
              | (
                 refine ⟨?_, ?_, rfl⟩
                 · have ht : tkS (M (4, 0, 0)) (M (6, 0, 0) 3) x = (M (4, 0, 0) x, x + 1, 0) := by
                     unfold tkS
                     rw [if_neg (by omega), if_neg (by omega), if_neg (by omega), if_pos (hs.elim (fun z => z.1) (fun z => absurd z.2 (by omega)))]
                   show _ = st4 (M (6, 0, 0)) (tkS (M (4, 0, 0)) (M (6, 0, 0) 3) (adP (M (4, 0, 0)) (M (6, 0, 0)))) (adP (M (4, 0, 0)) (M (6, 0, 0)))
                   rw [← hx, ht]
                   rw [upI_wr, upI_wr, r2]
                   exact st4_b
                 · exact hf2.w6.w6)
              | (
                 refine ⟨?_, ?_, rfl⟩
                 · have ht : tkS (M (4, 0, 0)) (M (6, 0, 0) 3) x = (1, x + 1, 0) := by
                     unfold tkS
                     rw [if_neg (by omega), if_neg (by omega), if_neg (by omega), if_neg (hs.elim (fun z => absurd z.2 (by omega)) (fun z => z.1))]
                   show _ = st4 (M (6, 0, 0)) (tkS (M (4, 0, 0)) (M (6, 0, 0) 3) (adP (M (4, 0, 0)) (M (6, 0, 0)))) (adP (M (4, 0, 0)) (M (6, 0, 0)))
                   rw [← hx, ht]
                   rw [upI_wr, upI_wr, r2]
                   exact st4_b
                 · exact hf2.w6.w6)
          · refine go_iload_n dX4_advance_133 rfl ?_
            refine go_bipush dX4_advance_134 ⟨by decide, by decide⟩ ?_
            refine go_icmp_gt (tgt := 175) dX4_advance_136 rfl (fun h136 => ?_) (fun h136 => ?_)
            · refine go_aload_n dX4_advance_175 rfl rfl ?_
              first | refine go_dup_r dX4_advance_176 ?_ | refine go_dup_i dX4_advance_176 ?_
              refine g4_37 dX4_advance_177 ?_
              rw [f7]
              refine go_iconst dX4_advance_180 (R32_lit rfl) ?_
              refine go_iaddc dX4_advance_181 ⟨by omega, by omega⟩ ?_
              refine p4_37 dX4_advance_182 ?_
              refine go_aload_n dX4_advance_185 rfl rfl ?_
              refine go_iload_n dX4_advance_186 rfl ?_
              refine v4_162 dX4_advance_187 rfl ⟨rfl, rfl⟩ ⟨rfl, rfl⟩ ct_X4_isSingle (fun r3 M5 N5 hr3 hq3 => ?_)
              obtain ⟨hs, rfl, rfl⟩ := hq3
              refine go_if_eq (tgt := 197) dX4_advance_190 rfl (fun h190 => ?_) (fun h190 => ?_)
              · refine go_iconst dX4_advance_197 (R32_lit rfl) ?_
                refine p4_47 dX4_advance_198 ?_
                refine go_retv dX4_advance_201 ?_
                first
                | (
                   refine ⟨?_, ?_, rfl⟩
                   · have ht : tkS (M (4, 0, 0)) (M (6, 0, 0) 3) x = (2, Q) := by
                       unfold tkS
                       rw [if_neg (by omega), if_pos (by omega), hQ, if_pos (by omega)]
                     show _ = st4 (M (6, 0, 0)) (tkS (M (4, 0, 0)) (M (6, 0, 0) 3) (adP (M (4, 0, 0)) (M (6, 0, 0)))) (adP (M (4, 0, 0)) (M (6, 0, 0)))
                     rw [← hx, ht]
                     rw [upI_wr, u1]
                     exact st4_a
                   · exact hf3.w6)
                | (
                   refine ⟨?_, ?_, rfl⟩
                   · have ht : tkS (M (4, 0, 0)) (M (6, 0, 0) 3) x = (1, Q) := by
                       unfold tkS
                       rw [if_neg (by omega), if_pos (by omega), hQ, if_neg (by omega)]
                     show _ = st4 (M (6, 0, 0)) (tkS (M (4, 0, 0)) (M (6, 0, 0) 3) (adP (M (4, 0, 0)) (M (6, 0, 0)))) (adP (M (4, 0, 0)) (M (6, 0, 0)))
                     rw [← hx, ht]
                     rw [upI_wr, u1]
                     exact st4_a
                   · exact hf3.w6)
                | (
                   refine ⟨?_, ?_, rfl⟩
                   · have ht : tkS (M (4, 0, 0)) (M (6, 0, 0) 3) x = (3, Q) := by
                       unfold tkS
                       rw [if_neg (by omega), if_neg (by omega), if_pos (by omega), hQ, if_pos (by omega)]
                     show _ = st4 (M (6, 0, 0)) (tkS (M (4, 0, 0)) (M (6, 0, 0) 3) (adP (M (4, 0, 0)) (M (6, 0, 0)))) (adP (M (4, 0, 0)) (M (6, 0, 0)))
                     rw [← hx, ht]
                     rw [upI_wr, u1]
                     exact st4_a
                   · exact hf3.w6)
                | (
                   refine ⟨?_, ?_, rfl⟩
                   · have ht : tkS (M (4, 0, 0)) (M (6, 0, 0) 3) x = (1, Q) := by
                       unfold tkS
                       rw [if_neg (by omega), if_neg (by omega), if_pos (by omega), hQ, if_neg (by omega)]
                     show _ = st4 (M (6, 0, 0)) (tkS (M (4, 0, 0)) (M (6, 0, 0) 3) (adP (M (4, 0, 0)) (M (6, 0, 0)))) (adP (M (4, 0, 0)) (M (6, 0, 0)))
                     rw [← hx, ht]
                     rw [upI_wr, u1]
                     exact st4_a
                   · exact hf3.w6)
                | (
                   refine ⟨?_, ?_, rfl⟩
                   · have ht : tkS (M (4, 0, 0)) (M (6, 0, 0) 3) x = (M (4, 0, 0) x, x + 1, 0) := by
                       unfold tkS
                       rw [if_neg (by omega), if_neg (by omega), if_neg (by omega), if_pos (hs.elim (fun z => z.1) (fun z => absurd z.2 (by omega)))]
                     show _ = st4 (M (6, 0, 0)) (tkS (M (4, 0, 0)) (M (6, 0, 0) 3) (adP (M (4, 0, 0)) (M (6, 0, 0)))) (adP (M (4, 0, 0)) (M (6, 0, 0)))
                     rw [← hx, ht]
                     rw [upI_wr, upI_wr, r2]
                     exact st4_b
                   · exact hf2.w6.w6)
                | (
                   refine ⟨?_, ?_, rfl⟩
                   · have ht : tkS (M (4, 0, 0)) (M (6, 0, 0) 3) x = (1, x + 1, 0) := by
                       unfold tkS
                       rw [if_neg (by omega), if_neg (by omega), if_neg (by omega), if_neg (hs.elim (fun z => absurd z.2 (by omega)) (fun z => z.1))]
                     show _ = st4 (M (6, 0, 0)) (tkS (M (4, 0, 0)) (M (6, 0, 0) 3) (adP (M (4, 0, 0)) (M (6, 0, 0)))) (adP (M (4, 0, 0)) (M (6, 0, 0)))
                     rw [← hx, ht]
                     rw [upI_wr, upI_wr, r2]
                     exact st4_b
                   · exact hf2.w6.w6)
              · refine go_iload_n dX4_advance_193 rfl ?_
                refine go_goto (tgt := 198) dX4_advance_194 rfl ?_
                refine p4_47 dX4_advance_198 ?_
                refine go_retv dX4_advance_201 ?_
                first
                | (
                   refine ⟨?_, ?_, rfl⟩
                   · have ht : tkS (M (4, 0, 0)) (M (6, 0, 0) 3) x = (2, Q) := by
                       unfold tkS
                       rw [if_neg (by omega), if_pos (by omega), hQ, if_pos (by omega)]
                     show _ = st4 (M (6, 0, 0)) (tkS (M (4, 0, 0)) (M (6, 0, 0) 3) (adP (M (4, 0, 0)) (M (6, 0, 0)))) (adP (M (4, 0, 0)) (M (6, 0, 0)))
                     rw [← hx, ht]
                     rw [upI_wr, u1]
                     exact st4_a
                   · exact hf3.w6)
                | (
                   refine ⟨?_, ?_, rfl⟩
                   · have ht : tkS (M (4, 0, 0)) (M (6, 0, 0) 3) x = (1, Q) := by
                       unfold tkS
                       rw [if_neg (by omega), if_pos (by omega), hQ, if_neg (by omega)]
                     show _ = st4 (M (6, 0, 0)) (tkS (M (4, 0, 0)) (M (6, 0, 0) 3) (adP (M (4, 0, 0)) (M (6, 0, 0)))) (adP (M (4, 0, 0)) (M (6, 0, 0)))
                     rw [← hx, ht]
                     rw [upI_wr, u1]
                     exact st4_a
                   · exact hf3.w6)
                | (
                   refine ⟨?_, ?_, rfl⟩
                   · have ht : tkS (M (4, 0, 0)) (M (6, 0, 0) 3) x = (3, Q) := by
                       unfold tkS
                       rw [if_neg (by omega), if_neg (by omega), if_pos (by omega), hQ, if_pos (by omega)]
                     show _ = st4 (M (6, 0, 0)) (tkS (M (4, 0, 0)) (M (6, 0, 0) 3) (adP (M (4, 0, 0)) (M (6, 0, 0)))) (adP (M (4, 0, 0)) (M (6, 0, 0)))
                     rw [← hx, ht]
                     rw [upI_wr, u1]
                     exact st4_a
                   · exact hf3.w6)
                | (
                   refine ⟨?_, ?_, rfl⟩
                   · have ht : tkS (M (4, 0, 0)) (M (6, 0, 0) 3) x = (1, Q) := by
                       unfold tkS
                       rw [if_neg (by omega), if_neg (by omega), if_pos (by omega), hQ, if_neg (by omega)]
                     show _ = st4 (M (6, 0, 0)) (tkS (M (4, 0, 0)) (M (6, 0, 0) 3) (adP (M (4, 0, 0)) (M (6, 0, 0)))) (adP (M (4, 0, 0)) (M (6, 0, 0)))
                     rw [← hx, ht]
                     rw [upI_wr, u1]
                     exact st4_a
                   · exact hf3.w6)
                | (
                   refine ⟨?_, ?_, rfl⟩
                   · have ht : tkS (M (4, 0, 0)) (M (6, 0, 0) 3) x = (M (4, 0, 0) x, x + 1, 0) := by
                       unfold tkS
                       rw [if_neg (by omega), if_neg (by omega), if_neg (by omega), if_pos (hs.elim (fun z => z.1) (fun z => absurd z.2 (by omega)))]
                     show _ = st4 (M (6, 0, 0)) (tkS (M (4, 0, 0)) (M (6, 0, 0) 3) (adP (M (4, 0, 0)) (M (6, 0, 0)))) (adP (M (4, 0, 0)) (M (6, 0, 0)))
                     rw [← hx, ht]
                     rw [upI_wr, upI_wr, r2]
                     exact st4_b
                   · exact hf2.w6.w6)
                | (
                   refine ⟨?_, ?_, rfl⟩
                   · have ht : tkS (M (4, 0, 0)) (M (6, 0, 0) 3) x = (1, x + 1, 0) := by
                       unfold tkS
                       rw [if_neg (by omega), if_neg (by omega), if_neg (by omega), if_neg (hs.elim (fun z => absurd z.2 (by omega)) (fun z => z.1))]
                     show _ = st4 (M (6, 0, 0)) (tkS (M (4, 0, 0)) (M (6, 0, 0) 3) (adP (M (4, 0, 0)) (M (6, 0, 0)))) (adP (M (4, 0, 0)) (M (6, 0, 0)))
                     rw [← hx, ht]
                     rw [upI_wr, upI_wr, r2]
                     exact st4_b
                   · exact hf2.w6.w6)
            · refine go_aload_n dX4_advance_139 rfl rfl ?_
              refine go_bipush dX4_advance_140 ⟨by decide, by decide⟩ ?_
              refine go_bipush dX4_advance_142 ⟨by decide, by decide⟩ ?_
              refine go_bipush dX4_advance_144 ⟨by decide, by decide⟩ ?_
              refine go_iconst dX4_advance_146 (R32_lit rfl) ?_
              refine v4_158 dX4_advance_147 rfl ⟨rfl, rfl⟩ ⟨rfl, rfl⟩ (ct_X4_takeRun hT (by omega) (by omega) ⟨by decide, by decide⟩ ⟨by decide, by decide⟩ ⟨by decide, by decide⟩) (fun M4 N4 hq2 => ?_)
              obtain ⟨u1, u2, rfl⟩ := hq2
              rw [f3, f4, f7, f8, r2] at u1
              have hub := ruS_bd (M (4, 0, 0)) (M (6, 0, 0) 3) 48 57 10 0 ((M (6, 0, 0) 3) - x).toNat x 0
              generalize hQ : (ruS (M (4, 0, 0)) (M (6, 0, 0) 3) 48 57 10 0 ((M (6, 0, 0) 3) - x).toNat x 0) = Q at u1 hub
              have hf3 := hf2.tr u2
              have v7 : M4 (6, 0, 0) 7 = Q.1 := by rw [u1]; rfl
              have v6 : M4 (6, 0, 0) 6 = x := by rw [u1]; rfl
              refine go_aload_n dX4_advance_150 rfl rfl ?_
              refine go_aload_n dX4_advance_151 rfl rfl ?_
              refine g4_37 dX4_advance_152 ?_
              rw [v7]
              refine go_aload_n dX4_advance_155 rfl rfl ?_
              refine g4_54 dX4_advance_156 ?_
              rw [v6]
              refine go_isubc dX4_advance_159 ⟨by omega, by omega⟩ ?_
              refine go_iconst dX4_advance_160 (R32_lit rfl) ?_
              refine go_icmp_gt (tgt := 168) dX4_advance_161 rfl (fun h161 => ?_) (fun h161 => ?_)
              · refine go_iconst dX4_advance_168 (R32_lit rfl) ?_
                refine p4_47 dX4_advance_169 ?_
                refine go_goto (tgt := 201) dX4_advance_172 rfl ?_
                refine go_retv dX4_advance_201 ?_
                first
                | (
                   refine ⟨?_, ?_, rfl⟩
                   · have ht : tkS (M (4, 0, 0)) (M (6, 0, 0) 3) x = (2, Q) := by
                       unfold tkS
                       rw [if_neg (by omega), if_pos (by omega), hQ, if_pos (by omega)]
                     show _ = st4 (M (6, 0, 0)) (tkS (M (4, 0, 0)) (M (6, 0, 0) 3) (adP (M (4, 0, 0)) (M (6, 0, 0)))) (adP (M (4, 0, 0)) (M (6, 0, 0)))
                     rw [← hx, ht]
                     rw [upI_wr, u1]
                     exact st4_a
                   · exact hf3.w6)
                | (
                   refine ⟨?_, ?_, rfl⟩
                   · have ht : tkS (M (4, 0, 0)) (M (6, 0, 0) 3) x = (1, Q) := by
                       unfold tkS
                       rw [if_neg (by omega), if_pos (by omega), hQ, if_neg (by omega)]
                     show _ = st4 (M (6, 0, 0)) (tkS (M (4, 0, 0)) (M (6, 0, 0) 3) (adP (M (4, 0, 0)) (M (6, 0, 0)))) (adP (M (4, 0, 0)) (M (6, 0, 0)))
                     rw [← hx, ht]
                     rw [upI_wr, u1]
                     exact st4_a
                   · exact hf3.w6)
                | (
                   refine ⟨?_, ?_, rfl⟩
                   · have ht : tkS (M (4, 0, 0)) (M (6, 0, 0) 3) x = (3, Q) := by
                       unfold tkS
                       rw [if_neg (by omega), if_neg (by omega), if_pos (by omega), hQ, if_pos (by omega)]
                     show _ = st4 (M (6, 0, 0)) (tkS (M (4, 0, 0)) (M (6, 0, 0) 3) (adP (M (4, 0, 0)) (M (6, 0, 0)))) (adP (M (4, 0, 0)) (M (6, 0, 0)))
                     rw [← hx, ht]
                     rw [upI_wr, u1]
                     exact st4_a
                   · exact hf3.w6)
                | (
                   refine ⟨?_, ?_, rfl⟩
                   · have ht : tkS (M (4, 0, 0)) (M (6, 0, 0) 3) x = (1, Q) := by
                       unfold tkS
                       rw [if_neg (by omega), if_neg (by omega), if_pos (by omega), hQ, if_neg (by omega)]
                     show _ = st4 (M (6, 0, 0)) (tkS (M (4, 0, 0)) (M (6, 0, 0) 3) (adP (M (4, 0, 0)) (M (6, 0, 0)))) (adP (M (4, 0, 0)) (M (6, 0, 0)))
                     rw [← hx, ht]
                     rw [upI_wr, u1]
                     exact st4_a
                   · exact hf3.w6)
                | (
                   refine ⟨?_, ?_, rfl⟩
                   · have ht : tkS (M (4, 0, 0)) (M (6, 0, 0) 3) x = (M (4, 0, 0) x, x + 1, 0) := by
                       unfold tkS
                       rw [if_neg (by omega), if_neg (by omega), if_neg (by omega), if_pos (hs.elim (fun z => z.1) (fun z => absurd z.2 (by omega)))]
                     show _ = st4 (M (6, 0, 0)) (tkS (M (4, 0, 0)) (M (6, 0, 0) 3) (adP (M (4, 0, 0)) (M (6, 0, 0)))) (adP (M (4, 0, 0)) (M (6, 0, 0)))
                     rw [← hx, ht]
                     rw [upI_wr, upI_wr, r2]
                     exact st4_b
                   · exact hf2.w6.w6)
                | (
                   refine ⟨?_, ?_, rfl⟩
                   · have ht : tkS (M (4, 0, 0)) (M (6, 0, 0) 3) x = (1, x + 1, 0) := by
                       unfold tkS
                       rw [if_neg (by omega), if_neg (by omega), if_neg (by omega), if_neg (hs.elim (fun z => absurd z.2 (by omega)) (fun z => z.1))]
                     show _ = st4 (M (6, 0, 0)) (tkS (M (4, 0, 0)) (M (6, 0, 0) 3) (adP (M (4, 0, 0)) (M (6, 0, 0)))) (adP (M (4, 0, 0)) (M (6, 0, 0)))
                     rw [← hx, ht]
                     rw [upI_wr, upI_wr, r2]
                     exact st4_b
                   · exact hf2.w6.w6)
              · refine go_iconst dX4_advance_164 (R32_lit rfl) ?_
                refine go_goto (tgt := 169) dX4_advance_165 rfl ?_
                refine p4_47 dX4_advance_169 ?_
                refine go_goto (tgt := 201) dX4_advance_172 rfl ?_
                refine go_retv dX4_advance_201 ?_
                first
                | (
                   refine ⟨?_, ?_, rfl⟩
                   · have ht : tkS (M (4, 0, 0)) (M (6, 0, 0) 3) x = (2, Q) := by
                       unfold tkS
                       rw [if_neg (by omega), if_pos (by omega), hQ, if_pos (by omega)]
                     show _ = st4 (M (6, 0, 0)) (tkS (M (4, 0, 0)) (M (6, 0, 0) 3) (adP (M (4, 0, 0)) (M (6, 0, 0)))) (adP (M (4, 0, 0)) (M (6, 0, 0)))
                     rw [← hx, ht]
                     rw [upI_wr, u1]
                     exact st4_a
                   · exact hf3.w6)
                | (
                   refine ⟨?_, ?_, rfl⟩
                   · have ht : tkS (M (4, 0, 0)) (M (6, 0, 0) 3) x = (1, Q) := by
                       unfold tkS
                       rw [if_neg (by omega), if_pos (by omega), hQ, if_neg (by omega)]
                     show _ = st4 (M (6, 0, 0)) (tkS (M (4, 0, 0)) (M (6, 0, 0) 3) (adP (M (4, 0, 0)) (M (6, 0, 0)))) (adP (M (4, 0, 0)) (M (6, 0, 0)))
                     rw [← hx, ht]
                     rw [upI_wr, u1]
                     exact st4_a
                   · exact hf3.w6)
                | (
                   refine ⟨?_, ?_, rfl⟩
                   · have ht : tkS (M (4, 0, 0)) (M (6, 0, 0) 3) x = (3, Q) := by
                       unfold tkS
                       rw [if_neg (by omega), if_neg (by omega), if_pos (by omega), hQ, if_pos (by omega)]
                     show _ = st4 (M (6, 0, 0)) (tkS (M (4, 0, 0)) (M (6, 0, 0) 3) (adP (M (4, 0, 0)) (M (6, 0, 0)))) (adP (M (4, 0, 0)) (M (6, 0, 0)))
                     rw [← hx, ht]
                     rw [upI_wr, u1]
                     exact st4_a
                   · exact hf3.w6)
                | (
                   refine ⟨?_, ?_, rfl⟩
                   · have ht : tkS (M (4, 0, 0)) (M (6, 0, 0) 3) x = (1, Q) := by
                       unfold tkS
                       rw [if_neg (by omega), if_neg (by omega), if_pos (by omega), hQ, if_neg (by omega)]
                     show _ = st4 (M (6, 0, 0)) (tkS (M (4, 0, 0)) (M (6, 0, 0) 3) (adP (M (4, 0, 0)) (M (6, 0, 0)))) (adP (M (4, 0, 0)) (M (6, 0, 0)))
                     rw [← hx, ht]
                     rw [upI_wr, u1]
                     exact st4_a
                   · exact hf3.w6)
                | (
                   refine ⟨?_, ?_, rfl⟩
                   · have ht : tkS (M (4, 0, 0)) (M (6, 0, 0) 3) x = (M (4, 0, 0) x, x + 1, 0) := by
                       unfold tkS
                       rw [if_neg (by omega), if_neg (by omega), if_neg (by omega), if_pos (hs.elim (fun z => z.1) (fun z => absurd z.2 (by omega)))]
                     show _ = st4 (M (6, 0, 0)) (tkS (M (4, 0, 0)) (M (6, 0, 0) 3) (adP (M (4, 0, 0)) (M (6, 0, 0)))) (adP (M (4, 0, 0)) (M (6, 0, 0)))
                     rw [← hx, ht]
                     rw [upI_wr, upI_wr, r2]
                     exact st4_b
                   · exact hf2.w6.w6)
                | (
                   refine ⟨?_, ?_, rfl⟩
                   · have ht : tkS (M (4, 0, 0)) (M (6, 0, 0) 3) x = (1, x + 1, 0) := by
                       unfold tkS
                       rw [if_neg (by omega), if_neg (by omega), if_neg (by omega), if_neg (hs.elim (fun z => absurd z.2 (by omega)) (fun z => z.1))]
                     show _ = st4 (M (6, 0, 0)) (tkS (M (4, 0, 0)) (M (6, 0, 0) 3) (adP (M (4, 0, 0)) (M (6, 0, 0)))) (adP (M (4, 0, 0)) (M (6, 0, 0)))
                     rw [← hx, ht]
                     rw [upI_wr, upI_wr, r2]
                     exact st4_b
                   · exact hf2.w6.w6)
        · refine go_aload_n dX4_advance_90 rfl rfl ?_
          refine go_bipush dX4_advance_91 ⟨by decide, by decide⟩ ?_
          refine go_bipush dX4_advance_93 ⟨by decide, by decide⟩ ?_
          refine go_bipush dX4_advance_95 ⟨by decide, by decide⟩ ?_
          refine go_iconst dX4_advance_97 (R32_lit rfl) ?_
          refine v4_158 dX4_advance_98 rfl ⟨rfl, rfl⟩ ⟨rfl, rfl⟩ (ct_X4_takeRun hT (by omega) (by omega) ⟨by decide, by decide⟩ ⟨by decide, by decide⟩ ⟨by decide, by decide⟩) (fun M3 N3 hq1 => ?_)
          obtain ⟨u1, u2, rfl⟩ := hq1
          rw [f3, f4, f7, f8, r2] at u1
          have hub := ruS_bd (M (4, 0, 0)) (M (6, 0, 0) 3) 97 122 27 1 ((M (6, 0, 0) 3) - x).toNat x 0
          generalize hQ : (ruS (M (4, 0, 0)) (M (6, 0, 0) 3) 97 122 27 1 ((M (6, 0, 0) 3) - x).toNat x 0) = Q at u1 hub
          have hf3 := hf2.tr u2
          have v7 : M3 (6, 0, 0) 7 = Q.1 := by rw [u1]; rfl
          have v6 : M3 (6, 0, 0) 6 = x := by rw [u1]; rfl
          refine go_aload_n dX4_advance_101 rfl rfl ?_
          refine go_aload_n dX4_advance_102 rfl rfl ?_
          refine g4_37 dX4_advance_103 ?_
          rw [v7]
          refine go_aload_n dX4_advance_106 rfl rfl ?_
          refine g4_54 dX4_advance_107 ?_
          rw [v6]
          refine go_isubc dX4_advance_110 ⟨by omega, by omega⟩ ?_
          refine go_bipush dX4_advance_111 ⟨by decide, by decide⟩ ?_
          refine go_icmp_gt (tgt := 120) dX4_advance_113 rfl (fun h113 => ?_) (fun h113 => ?_)
          · refine go_iconst dX4_advance_120 (R32_lit rfl) ?_
            refine p4_47 dX4_advance_121 ?_
            refine go_goto (tgt := 201) dX4_advance_124 rfl ?_
            refine go_retv dX4_advance_201 ?_
            first
            | (
               refine ⟨?_, ?_, rfl⟩
               · have ht : tkS (M (4, 0, 0)) (M (6, 0, 0) 3) x = (2, Q) := by
                   unfold tkS
                   rw [if_neg (by omega), if_pos (by omega), hQ, if_pos (by omega)]
                 show _ = st4 (M (6, 0, 0)) (tkS (M (4, 0, 0)) (M (6, 0, 0) 3) (adP (M (4, 0, 0)) (M (6, 0, 0)))) (adP (M (4, 0, 0)) (M (6, 0, 0)))
                 rw [← hx, ht]
                 rw [upI_wr, u1]
                 exact st4_a
               · exact hf3.w6)
            | (
               refine ⟨?_, ?_, rfl⟩
               · have ht : tkS (M (4, 0, 0)) (M (6, 0, 0) 3) x = (1, Q) := by
                   unfold tkS
                   rw [if_neg (by omega), if_pos (by omega), hQ, if_neg (by omega)]
                 show _ = st4 (M (6, 0, 0)) (tkS (M (4, 0, 0)) (M (6, 0, 0) 3) (adP (M (4, 0, 0)) (M (6, 0, 0)))) (adP (M (4, 0, 0)) (M (6, 0, 0)))
                 rw [← hx, ht]
                 rw [upI_wr, u1]
                 exact st4_a
               · exact hf3.w6)
            | (
               refine ⟨?_, ?_, rfl⟩
               · have ht : tkS (M (4, 0, 0)) (M (6, 0, 0) 3) x = (3, Q) := by
                   unfold tkS
                   rw [if_neg (by omega), if_neg (by omega), if_pos (by omega), hQ, if_pos (by omega)]
                 show _ = st4 (M (6, 0, 0)) (tkS (M (4, 0, 0)) (M (6, 0, 0) 3) (adP (M (4, 0, 0)) (M (6, 0, 0)))) (adP (M (4, 0, 0)) (M (6, 0, 0)))
                 rw [← hx, ht]
                 rw [upI_wr, u1]
                 exact st4_a
               · exact hf3.w6)
            | (
               refine ⟨?_, ?_, rfl⟩
               · have ht : tkS (M (4, 0, 0)) (M (6, 0, 0) 3) x = (1, Q) := by
                   unfold tkS
                   rw [if_neg (by omega), if_neg (by omega), if_pos (by omega), hQ, if_neg (by omega)]
                 show _ = st4 (M (6, 0, 0)) (tkS (M (4, 0, 0)) (M (6, 0, 0) 3) (adP (M (4, 0, 0)) (M (6, 0, 0)))) (adP (M (4, 0, 0)) (M (6, 0, 0)))
                 rw [← hx, ht]
                 rw [upI_wr, u1]
                 exact st4_a
               · exact hf3.w6)
            | (
               refine ⟨?_, ?_, rfl⟩
               · have ht : tkS (M (4, 0, 0)) (M (6, 0, 0) 3) x = (M (4, 0, 0) x, x + 1, 0) := by
                   unfold tkS
                   rw [if_neg (by omega), if_neg (by omega), if_neg (by omega), if_pos (hs.elim (fun z => z.1) (fun z => absurd z.2 (by omega)))]
                 show _ = st4 (M (6, 0, 0)) (tkS (M (4, 0, 0)) (M (6, 0, 0) 3) (adP (M (4, 0, 0)) (M (6, 0, 0)))) (adP (M (4, 0, 0)) (M (6, 0, 0)))
                 rw [← hx, ht]
                 rw [upI_wr, upI_wr, r2]
                 exact st4_b
               · exact hf2.w6.w6)
            | (
               refine ⟨?_, ?_, rfl⟩
               · have ht : tkS (M (4, 0, 0)) (M (6, 0, 0) 3) x = (1, x + 1, 0) := by
                   unfold tkS
                   rw [if_neg (by omega), if_neg (by omega), if_neg (by omega), if_neg (hs.elim (fun z => absurd z.2 (by omega)) (fun z => z.1))]
                 show _ = st4 (M (6, 0, 0)) (tkS (M (4, 0, 0)) (M (6, 0, 0) 3) (adP (M (4, 0, 0)) (M (6, 0, 0)))) (adP (M (4, 0, 0)) (M (6, 0, 0)))
                 rw [← hx, ht]
                 rw [upI_wr, upI_wr, r2]
                 exact st4_b
               · exact hf2.w6.w6)
          · refine go_iconst dX4_advance_116 (R32_lit rfl) ?_
            refine go_goto (tgt := 121) dX4_advance_117 rfl ?_
            refine p4_47 dX4_advance_121 ?_
            refine go_goto (tgt := 201) dX4_advance_124 rfl ?_
            refine go_retv dX4_advance_201 ?_
            first
            | (
               refine ⟨?_, ?_, rfl⟩
               · have ht : tkS (M (4, 0, 0)) (M (6, 0, 0) 3) x = (2, Q) := by
                   unfold tkS
                   rw [if_neg (by omega), if_pos (by omega), hQ, if_pos (by omega)]
                 show _ = st4 (M (6, 0, 0)) (tkS (M (4, 0, 0)) (M (6, 0, 0) 3) (adP (M (4, 0, 0)) (M (6, 0, 0)))) (adP (M (4, 0, 0)) (M (6, 0, 0)))
                 rw [← hx, ht]
                 rw [upI_wr, u1]
                 exact st4_a
               · exact hf3.w6)
            | (
               refine ⟨?_, ?_, rfl⟩
               · have ht : tkS (M (4, 0, 0)) (M (6, 0, 0) 3) x = (1, Q) := by
                   unfold tkS
                   rw [if_neg (by omega), if_pos (by omega), hQ, if_neg (by omega)]
                 show _ = st4 (M (6, 0, 0)) (tkS (M (4, 0, 0)) (M (6, 0, 0) 3) (adP (M (4, 0, 0)) (M (6, 0, 0)))) (adP (M (4, 0, 0)) (M (6, 0, 0)))
                 rw [← hx, ht]
                 rw [upI_wr, u1]
                 exact st4_a
               · exact hf3.w6)
            | (
               refine ⟨?_, ?_, rfl⟩
               · have ht : tkS (M (4, 0, 0)) (M (6, 0, 0) 3) x = (3, Q) := by
                   unfold tkS
                   rw [if_neg (by omega), if_neg (by omega), if_pos (by omega), hQ, if_pos (by omega)]
                 show _ = st4 (M (6, 0, 0)) (tkS (M (4, 0, 0)) (M (6, 0, 0) 3) (adP (M (4, 0, 0)) (M (6, 0, 0)))) (adP (M (4, 0, 0)) (M (6, 0, 0)))
                 rw [← hx, ht]
                 rw [upI_wr, u1]
                 exact st4_a
               · exact hf3.w6)
            | (
               refine ⟨?_, ?_, rfl⟩
               · have ht : tkS (M (4, 0, 0)) (M (6, 0, 0) 3) x = (1, Q) := by
                   unfold tkS
                   rw [if_neg (by omega), if_neg (by omega), if_pos (by omega), hQ, if_neg (by omega)]
                 show _ = st4 (M (6, 0, 0)) (tkS (M (4, 0, 0)) (M (6, 0, 0) 3) (adP (M (4, 0, 0)) (M (6, 0, 0)))) (adP (M (4, 0, 0)) (M (6, 0, 0)))
                 rw [← hx, ht]
                 rw [upI_wr, u1]
                 exact st4_a
               · exact hf3.w6)
            | (
               refine ⟨?_, ?_, rfl⟩
               · have ht : tkS (M (4, 0, 0)) (M (6, 0, 0) 3) x = (M (4, 0, 0) x, x + 1, 0) := by
                   unfold tkS
                   rw [if_neg (by omega), if_neg (by omega), if_neg (by omega), if_pos (hs.elim (fun z => z.1) (fun z => absurd z.2 (by omega)))]
                 show _ = st4 (M (6, 0, 0)) (tkS (M (4, 0, 0)) (M (6, 0, 0) 3) (adP (M (4, 0, 0)) (M (6, 0, 0)))) (adP (M (4, 0, 0)) (M (6, 0, 0)))
                 rw [← hx, ht]
                 rw [upI_wr, upI_wr, r2]
                 exact st4_b
               · exact hf2.w6.w6)
            | (
               refine ⟨?_, ?_, rfl⟩
               · have ht : tkS (M (4, 0, 0)) (M (6, 0, 0) 3) x = (1, x + 1, 0) := by
                   unfold tkS
                   rw [if_neg (by omega), if_neg (by omega), if_neg (by omega), if_neg (hs.elim (fun z => absurd z.2 (by omega)) (fun z => z.1))]
                 show _ = st4 (M (6, 0, 0)) (tkS (M (4, 0, 0)) (M (6, 0, 0) 3) (adP (M (4, 0, 0)) (M (6, 0, 0)))) (adP (M (4, 0, 0)) (M (6, 0, 0)))
                 rw [← hx, ht]
                 rw [upI_wr, upI_wr, r2]
                 exact st4_b
               · exact hf2.w6.w6)
    · refine go_aload_n dX4_advance_62 rfl rfl ?_
      refine go_iconst dX4_advance_63 (R32_lit rfl) ?_
      refine p4_47 dX4_advance_64 ?_
      refine go_retv dX4_advance_67 ?_
      refine ⟨?_, ?_, rfl⟩
      · have ht : tkS (M (4, 0, 0)) (M (6, 0, 0) 3) x = (0, x, 0) := by
          unfold tkS
          rw [if_pos (by omega)]
        show _ = st4 (M (6, 0, 0)) (tkS (M (4, 0, 0)) (M (6, 0, 0) 3) (adP (M (4, 0, 0)) (M (6, 0, 0)))) (adP (M (4, 0, 0)) (M (6, 0, 0)))
        rw [← hx, ht]
        rw [upI_wr, r2]
        exact st4_c
      · exact hf2.w6
  · have es : bkS (M (4, 0, 0)) (M (6, 0, 0) 3) n x = if x < (M (6, 0, 0) 3) ∧ (M (4, 0, 0)) x = 32 then bkS (M (4, 0, 0)) (M (6, 0, 0) 3) (n - 1) (x + 1) else x := by
      rw [show n = (n - 1) + 1 by omega]; rfl
    refine go_aload_n dX4_advance_11 rfl rfl ?_
    refine g4_9 dX4_advance_12 ?_
    rw [hT]
    refine go_aload_n dX4_advance_15 rfl rfl ?_
    refine g4_37 dX4_advance_16 ?_
    rw [e7]
    refine go_bald dX4_advance_19 rfl (by omega) (by omega) ?_
    rw [e4]
    refine go_bipush dX4_advance_20 ⟨by decide, by decide⟩ ?_
    refine go_icmp_ne (tgt := 38) dX4_advance_22 rfl (fun h22 => ?_) (fun h22 => ?_)
    · have hx : x = adP (M (4, 0, 0)) (M (6, 0, 0)) := by
        rw [← he]
        first
        | (rw [show n = 0 by omega]; rfl)
        | (rw [show n = (n - 1) + 1 by omega]
           exact (if_neg (by omega)).symm)
      refine go_aload_n dX4_advance_38 rfl rfl ?_
      refine go_aload_n dX4_advance_39 rfl rfl ?_
      refine g4_37 dX4_advance_40 ?_
      rw [e7]
      refine p4_54 dX4_advance_43 ?_
      refine go_aload_n dX4_advance_46 rfl rfl ?_
      refine go_iconst dX4_advance_47 (R32_lit rfl) ?_
      refine p4_129 dX4_advance_48 ?_
      refine go_nmM (fun M2 eM2 => ?_)
      have hf2 : Zf M M2 := by rw [eM2]; exact hf.w6.w6
      have f4 : M2 (4, 0, 0) = M (4, 0, 0) := hf2 _ (nm_ne1 (by decide))
      have r2 : M2 (6, 0, 0) = upI (upI (upI (M (6, 0, 0)) 7 x) 6 x) 8 0 := by rw [eM2, upI_wr, upI_wr, hr]
      have f3 : M2 (6, 0, 0) 3 = M (6, 0, 0) 3 := by rw [r2]; rfl
      have f6 : M2 (6, 0, 0) 6 = x := by rw [r2]; rfl
      have f7 : M2 (6, 0, 0) 7 = x := by rw [r2]; rfl
      have f8 : M2 (6, 0, 0) 8 = 0 := by rw [r2]; rfl
      clear eM2
      refine go_aload_n dX4_advance_51 rfl rfl ?_
      refine g4_54 dX4_advance_52 ?_
      rw [f6]
      refine go_aload_n dX4_advance_55 rfl rfl ?_
      refine g4_15 dX4_advance_56 ?_
      rw [f3]
      refine go_icmp_lt (tgt := 68) dX4_advance_59 rfl (fun h59 => ?_) (fun h59 => ?_)
      · refine go_aload_n dX4_advance_68 rfl rfl ?_
        refine g4_9 dX4_advance_69 ?_
        rw [hT]
        refine go_aload_n dX4_advance_72 rfl rfl ?_
        refine g4_54 dX4_advance_73 ?_
        rw [f6]
        refine go_bald dX4_advance_76 rfl (by omega) (by omega) ?_
        rw [f4]
        refine go_ist1 dX4_advance_77 rfl rfl ?_
        refine go_iload_n dX4_advance_78 rfl ?_
        refine go_bipush dX4_advance_79 ⟨by decide, by decide⟩ ?_
        refine go_icmp_lt (tgt := 127) dX4_advance_81 rfl (fun h81 => ?_) (fun h81 => ?_)
        · refine go_iload_n dX4_advance_127 rfl ?_
          refine go_bipush dX4_advance_128 ⟨by decide, by decide⟩ ?_
          refine go_icmp_lt (tgt := 175) dX4_advance_130 rfl (fun h130 => ?_) (fun h130 => ?_)
          · refine go_aload_n dX4_advance_175 rfl rfl ?_
            first | refine go_dup_r dX4_advance_176 ?_ | refine go_dup_i dX4_advance_176 ?_
            refine g4_37 dX4_advance_177 ?_
            rw [f7]
            refine go_iconst dX4_advance_180 (R32_lit rfl) ?_
            refine go_iaddc dX4_advance_181 ⟨by omega, by omega⟩ ?_
            refine p4_37 dX4_advance_182 ?_
            refine go_aload_n dX4_advance_185 rfl rfl ?_
            refine go_iload_n dX4_advance_186 rfl ?_
            refine v4_162 dX4_advance_187 rfl ⟨rfl, rfl⟩ ⟨rfl, rfl⟩ ct_X4_isSingle (fun r3 M5 N5 hr3 hq3 => ?_)
            obtain ⟨hs, rfl, rfl⟩ := hq3
            refine go_if_eq (tgt := 197) dX4_advance_190 rfl (fun h190 => ?_) (fun h190 => ?_)
            · refine go_iconst dX4_advance_197 (R32_lit rfl) ?_
              refine p4_47 dX4_advance_198 ?_
              refine go_retv dX4_advance_201 ?_
              first
              | (
                 refine ⟨?_, ?_, rfl⟩
                 · have ht : tkS (M (4, 0, 0)) (M (6, 0, 0) 3) x = (2, Q) := by
                     unfold tkS
                     rw [if_neg (by omega), if_pos (by omega), hQ, if_pos (by omega)]
                   show _ = st4 (M (6, 0, 0)) (tkS (M (4, 0, 0)) (M (6, 0, 0) 3) (adP (M (4, 0, 0)) (M (6, 0, 0)))) (adP (M (4, 0, 0)) (M (6, 0, 0)))
                   rw [← hx, ht]
                   rw [upI_wr, u1]
                   exact st4_a
                 · exact hf3.w6)
              | (
                 refine ⟨?_, ?_, rfl⟩
                 · have ht : tkS (M (4, 0, 0)) (M (6, 0, 0) 3) x = (1, Q) := by
                     unfold tkS
                     rw [if_neg (by omega), if_pos (by omega), hQ, if_neg (by omega)]
                   show _ = st4 (M (6, 0, 0)) (tkS (M (4, 0, 0)) (M (6, 0, 0) 3) (adP (M (4, 0, 0)) (M (6, 0, 0)))) (adP (M (4, 0, 0)) (M (6, 0, 0)))
                   rw [← hx, ht]
                   rw [upI_wr, u1]
                   exact st4_a
                 · exact hf3.w6)
              | (
                 refine ⟨?_, ?_, rfl⟩
                 · have ht : tkS (M (4, 0, 0)) (M (6, 0, 0) 3) x = (3, Q) := by
                     unfold tkS
                     rw [if_neg (by omega), if_neg (by omega), if_pos (by omega), hQ, if_pos (by omega)]
                   show _ = st4 (M (6, 0, 0)) (tkS (M (4, 0, 0)) (M (6, 0, 0) 3) (adP (M (4, 0, 0)) (M (6, 0, 0)))) (adP (M (4, 0, 0)) (M (6, 0, 0)))
                   rw [← hx, ht]
                   rw [upI_wr, u1]
                   exact st4_a
                 · exact hf3.w6)
              | (
                 refine ⟨?_, ?_, rfl⟩
                 · have ht : tkS (M (4, 0, 0)) (M (6, 0, 0) 3) x = (1, Q) := by
                     unfold tkS
                     rw [if_neg (by omega), if_neg (by omega), if_pos (by omega), hQ, if_neg (by omega)]
                   show _ = st4 (M (6, 0, 0)) (tkS (M (4, 0, 0)) (M (6, 0, 0) 3) (adP (M (4, 0, 0)) (M (6, 0, 0)))) (adP (M (4, 0, 0)) (M (6, 0, 0)))
                   rw [← hx, ht]
                   rw [upI_wr, u1]
                   exact st4_a
                 · exact hf3.w6)
              | (
                 refine ⟨?_, ?_, rfl⟩
                 · have ht : tkS (M (4, 0, 0)) (M (6, 0, 0) 3) x = (M (4, 0, 0) x, x + 1, 0) := by
                     unfold tkS
                     rw [if_neg (by omega), if_neg (by omega), if_neg (by omega), if_pos (hs.elim (fun z => z.1) (fun z => absurd z.2 (by omega)))]
                   show _ = st4 (M (6, 0, 0)) (tkS (M (4, 0, 0)) (M (6, 0, 0) 3) (adP (M (4, 0, 0)) (M (6, 0, 0)))) (adP (M (4, 0, 0)) (M (6, 0, 0)))
                   rw [← hx, ht]
                   rw [upI_wr, upI_wr, r2]
                   exact st4_b
                 · exact hf2.w6.w6)
              | (
                 refine ⟨?_, ?_, rfl⟩
                 · have ht : tkS (M (4, 0, 0)) (M (6, 0, 0) 3) x = (1, x + 1, 0) := by
                     unfold tkS
                     rw [if_neg (by omega), if_neg (by omega), if_neg (by omega), if_neg (hs.elim (fun z => absurd z.2 (by omega)) (fun z => z.1))]
                   show _ = st4 (M (6, 0, 0)) (tkS (M (4, 0, 0)) (M (6, 0, 0) 3) (adP (M (4, 0, 0)) (M (6, 0, 0)))) (adP (M (4, 0, 0)) (M (6, 0, 0)))
                   rw [← hx, ht]
                   rw [upI_wr, upI_wr, r2]
                   exact st4_b
                 · exact hf2.w6.w6)
            · refine go_iload_n dX4_advance_193 rfl ?_
              refine go_goto (tgt := 198) dX4_advance_194 rfl ?_
              refine p4_47 dX4_advance_198 ?_
              refine go_retv dX4_advance_201 ?_
              first
              | (
                 refine ⟨?_, ?_, rfl⟩
                 · have ht : tkS (M (4, 0, 0)) (M (6, 0, 0) 3) x = (2, Q) := by
                     unfold tkS
                     rw [if_neg (by omega), if_pos (by omega), hQ, if_pos (by omega)]
                   show _ = st4 (M (6, 0, 0)) (tkS (M (4, 0, 0)) (M (6, 0, 0) 3) (adP (M (4, 0, 0)) (M (6, 0, 0)))) (adP (M (4, 0, 0)) (M (6, 0, 0)))
                   rw [← hx, ht]
                   rw [upI_wr, u1]
                   exact st4_a
                 · exact hf3.w6)
              | (
                 refine ⟨?_, ?_, rfl⟩
                 · have ht : tkS (M (4, 0, 0)) (M (6, 0, 0) 3) x = (1, Q) := by
                     unfold tkS
                     rw [if_neg (by omega), if_pos (by omega), hQ, if_neg (by omega)]
                   show _ = st4 (M (6, 0, 0)) (tkS (M (4, 0, 0)) (M (6, 0, 0) 3) (adP (M (4, 0, 0)) (M (6, 0, 0)))) (adP (M (4, 0, 0)) (M (6, 0, 0)))
                   rw [← hx, ht]
                   rw [upI_wr, u1]
                   exact st4_a
                 · exact hf3.w6)
              | (
                 refine ⟨?_, ?_, rfl⟩
                 · have ht : tkS (M (4, 0, 0)) (M (6, 0, 0) 3) x = (3, Q) := by
                     unfold tkS
                     rw [if_neg (by omega), if_neg (by omega), if_pos (by omega), hQ, if_pos (by omega)]
                   show _ = st4 (M (6, 0, 0)) (tkS (M (4, 0, 0)) (M (6, 0, 0) 3) (adP (M (4, 0, 0)) (M (6, 0, 0)))) (adP (M (4, 0, 0)) (M (6, 0, 0)))
                   rw [← hx, ht]
                   rw [upI_wr, u1]
                   exact st4_a
                 · exact hf3.w6)
              | (
                 refine ⟨?_, ?_, rfl⟩
                 · have ht : tkS (M (4, 0, 0)) (M (6, 0, 0) 3) x = (1, Q) := by
                     unfold tkS
                     rw [if_neg (by omega), if_neg (by omega), if_pos (by omega), hQ, if_neg (by omega)]
                   show _ = st4 (M (6, 0, 0)) (tkS (M (4, 0, 0)) (M (6, 0, 0) 3) (adP (M (4, 0, 0)) (M (6, 0, 0)))) (adP (M (4, 0, 0)) (M (6, 0, 0)))
                   rw [← hx, ht]
                   rw [upI_wr, u1]
                   exact st4_a
                 · exact hf3.w6)
              | (
                 refine ⟨?_, ?_, rfl⟩
                 · have ht : tkS (M (4, 0, 0)) (M (6, 0, 0) 3) x = (M (4, 0, 0) x, x + 1, 0) := by
                     unfold tkS
                     rw [if_neg (by omega), if_neg (by omega), if_neg (by omega), if_pos (hs.elim (fun z => z.1) (fun z => absurd z.2 (by omega)))]
                   show _ = st4 (M (6, 0, 0)) (tkS (M (4, 0, 0)) (M (6, 0, 0) 3) (adP (M (4, 0, 0)) (M (6, 0, 0)))) (adP (M (4, 0, 0)) (M (6, 0, 0)))
                   rw [← hx, ht]
                   rw [upI_wr, upI_wr, r2]
                   exact st4_b
                 · exact hf2.w6.w6)
              | (
                 refine ⟨?_, ?_, rfl⟩
                 · have ht : tkS (M (4, 0, 0)) (M (6, 0, 0) 3) x = (1, x + 1, 0) := by
                     unfold tkS
                     rw [if_neg (by omega), if_neg (by omega), if_neg (by omega), if_neg (hs.elim (fun z => absurd z.2 (by omega)) (fun z => z.1))]
                   show _ = st4 (M (6, 0, 0)) (tkS (M (4, 0, 0)) (M (6, 0, 0) 3) (adP (M (4, 0, 0)) (M (6, 0, 0)))) (adP (M (4, 0, 0)) (M (6, 0, 0)))
                   rw [← hx, ht]
                   rw [upI_wr, upI_wr, r2]
                   exact st4_b
                 · exact hf2.w6.w6)
          · refine go_iload_n dX4_advance_133 rfl ?_
            refine go_bipush dX4_advance_134 ⟨by decide, by decide⟩ ?_
            refine go_icmp_gt (tgt := 175) dX4_advance_136 rfl (fun h136 => ?_) (fun h136 => ?_)
            · refine go_aload_n dX4_advance_175 rfl rfl ?_
              first | refine go_dup_r dX4_advance_176 ?_ | refine go_dup_i dX4_advance_176 ?_
              refine g4_37 dX4_advance_177 ?_
              rw [f7]
              refine go_iconst dX4_advance_180 (R32_lit rfl) ?_
              refine go_iaddc dX4_advance_181 ⟨by omega, by omega⟩ ?_
              refine p4_37 dX4_advance_182 ?_
              refine go_aload_n dX4_advance_185 rfl rfl ?_
              refine go_iload_n dX4_advance_186 rfl ?_
              refine v4_162 dX4_advance_187 rfl ⟨rfl, rfl⟩ ⟨rfl, rfl⟩ ct_X4_isSingle (fun r3 M5 N5 hr3 hq3 => ?_)
              obtain ⟨hs, rfl, rfl⟩ := hq3
              refine go_if_eq (tgt := 197) dX4_advance_190 rfl (fun h190 => ?_) (fun h190 => ?_)
              · refine go_iconst dX4_advance_197 (R32_lit rfl) ?_
                refine p4_47 dX4_advance_198 ?_
                refine go_retv dX4_advance_201 ?_
                first
                | (
                   refine ⟨?_, ?_, rfl⟩
                   · have ht : tkS (M (4, 0, 0)) (M (6, 0, 0) 3) x = (2, Q) := by
                       unfold tkS
                       rw [if_neg (by omega), if_pos (by omega), hQ, if_pos (by omega)]
                     show _ = st4 (M (6, 0, 0)) (tkS (M (4, 0, 0)) (M (6, 0, 0) 3) (adP (M (4, 0, 0)) (M (6, 0, 0)))) (adP (M (4, 0, 0)) (M (6, 0, 0)))
                     rw [← hx, ht]
                     rw [upI_wr, u1]
                     exact st4_a
                   · exact hf3.w6)
                | (
                   refine ⟨?_, ?_, rfl⟩
                   · have ht : tkS (M (4, 0, 0)) (M (6, 0, 0) 3) x = (1, Q) := by
                       unfold tkS
                       rw [if_neg (by omega), if_pos (by omega), hQ, if_neg (by omega)]
                     show _ = st4 (M (6, 0, 0)) (tkS (M (4, 0, 0)) (M (6, 0, 0) 3) (adP (M (4, 0, 0)) (M (6, 0, 0)))) (adP (M (4, 0, 0)) (M (6, 0, 0)))
                     rw [← hx, ht]
                     rw [upI_wr, u1]
                     exact st4_a
                   · exact hf3.w6)
                | (
                   refine ⟨?_, ?_, rfl⟩
                   · have ht : tkS (M (4, 0, 0)) (M (6, 0, 0) 3) x = (3, Q) := by
                       unfold tkS
                       rw [if_neg (by omega), if_neg (by omega), if_pos (by omega), hQ, if_pos (by omega)]
                     show _ = st4 (M (6, 0, 0)) (tkS (M (4, 0, 0)) (M (6, 0, 0) 3) (adP (M (4, 0, 0)) (M (6, 0, 0)))) (adP (M (4, 0, 0)) (M (6, 0, 0)))
                     rw [← hx, ht]
                     rw [upI_wr, u1]
                     exact st4_a
                   · exact hf3.w6)
                | (
                   refine ⟨?_, ?_, rfl⟩
                   · have ht : tkS (M (4, 0, 0)) (M (6, 0, 0) 3) x = (1, Q) := by
                       unfold tkS
                       rw [if_neg (by omega), if_neg (by omega), if_pos (by omega), hQ, if_neg (by omega)]
                     show _ = st4 (M (6, 0, 0)) (tkS (M (4, 0, 0)) (M (6, 0, 0) 3) (adP (M (4, 0, 0)) (M (6, 0, 0)))) (adP (M (4, 0, 0)) (M (6, 0, 0)))
                     rw [← hx, ht]
                     rw [upI_wr, u1]
                     exact st4_a
                   · exact hf3.w6)
                | (
                   refine ⟨?_, ?_, rfl⟩
                   · have ht : tkS (M (4, 0, 0)) (M (6, 0, 0) 3) x = (M (4, 0, 0) x, x + 1, 0) := by
                       unfold tkS
                       rw [if_neg (by omega), if_neg (by omega), if_neg (by omega), if_pos (hs.elim (fun z => z.1) (fun z => absurd z.2 (by omega)))]
                     show _ = st4 (M (6, 0, 0)) (tkS (M (4, 0, 0)) (M (6, 0, 0) 3) (adP (M (4, 0, 0)) (M (6, 0, 0)))) (adP (M (4, 0, 0)) (M (6, 0, 0)))
                     rw [← hx, ht]
                     rw [upI_wr, upI_wr, r2]
                     exact st4_b
                   · exact hf2.w6.w6)
                | (
                   refine ⟨?_, ?_, rfl⟩
                   · have ht : tkS (M (4, 0, 0)) (M (6, 0, 0) 3) x = (1, x + 1, 0) := by
                       unfold tkS
                       rw [if_neg (by omega), if_neg (by omega), if_neg (by omega), if_neg (hs.elim (fun z => absurd z.2 (by omega)) (fun z => z.1))]
                     show _ = st4 (M (6, 0, 0)) (tkS (M (4, 0, 0)) (M (6, 0, 0) 3) (adP (M (4, 0, 0)) (M (6, 0, 0)))) (adP (M (4, 0, 0)) (M (6, 0, 0)))
                     rw [← hx, ht]
                     rw [upI_wr, upI_wr, r2]
                     exact st4_b
                   · exact hf2.w6.w6)
              · refine go_iload_n dX4_advance_193 rfl ?_
                refine go_goto (tgt := 198) dX4_advance_194 rfl ?_
                refine p4_47 dX4_advance_198 ?_
                refine go_retv dX4_advance_201 ?_
                first
                | (
                   refine ⟨?_, ?_, rfl⟩
                   · have ht : tkS (M (4, 0, 0)) (M (6, 0, 0) 3) x = (2, Q) := by
                       unfold tkS
                       rw [if_neg (by omega), if_pos (by omega), hQ, if_pos (by omega)]
                     show _ = st4 (M (6, 0, 0)) (tkS (M (4, 0, 0)) (M (6, 0, 0) 3) (adP (M (4, 0, 0)) (M (6, 0, 0)))) (adP (M (4, 0, 0)) (M (6, 0, 0)))
                     rw [← hx, ht]
                     rw [upI_wr, u1]
                     exact st4_a
                   · exact hf3.w6)
                | (
                   refine ⟨?_, ?_, rfl⟩
                   · have ht : tkS (M (4, 0, 0)) (M (6, 0, 0) 3) x = (1, Q) := by
                       unfold tkS
                       rw [if_neg (by omega), if_pos (by omega), hQ, if_neg (by omega)]
                     show _ = st4 (M (6, 0, 0)) (tkS (M (4, 0, 0)) (M (6, 0, 0) 3) (adP (M (4, 0, 0)) (M (6, 0, 0)))) (adP (M (4, 0, 0)) (M (6, 0, 0)))
                     rw [← hx, ht]
                     rw [upI_wr, u1]
                     exact st4_a
                   · exact hf3.w6)
                | (
                   refine ⟨?_, ?_, rfl⟩
                   · have ht : tkS (M (4, 0, 0)) (M (6, 0, 0) 3) x = (3, Q) := by
                       unfold tkS
                       rw [if_neg (by omega), if_neg (by omega), if_pos (by omega), hQ, if_pos (by omega)]
                     show _ = st4 (M (6, 0, 0)) (tkS (M (4, 0, 0)) (M (6, 0, 0) 3) (adP (M (4, 0, 0)) (M (6, 0, 0)))) (adP (M (4, 0, 0)) (M (6, 0, 0)))
                     rw [← hx, ht]
                     rw [upI_wr, u1]
                     exact st4_a
                   · exact hf3.w6)
                | (
                   refine ⟨?_, ?_, rfl⟩
                   · have ht : tkS (M (4, 0, 0)) (M (6, 0, 0) 3) x = (1, Q) := by
                       unfold tkS
                       rw [if_neg (by omega), if_neg (by omega), if_pos (by omega), hQ, if_neg (by omega)]
                     show _ = st4 (M (6, 0, 0)) (tkS (M (4, 0, 0)) (M (6, 0, 0) 3) (adP (M (4, 0, 0)) (M (6, 0, 0)))) (adP (M (4, 0, 0)) (M (6, 0, 0)))
                     rw [← hx, ht]
                     rw [upI_wr, u1]
                     exact st4_a
                   · exact hf3.w6)
                | (
                   refine ⟨?_, ?_, rfl⟩
                   · have ht : tkS (M (4, 0, 0)) (M (6, 0, 0) 3) x = (M (4, 0, 0) x, x + 1, 0) := by
                       unfold tkS
                       rw [if_neg (by omega), if_neg (by omega), if_neg (by omega), if_pos (hs.elim (fun z => z.1) (fun z => absurd z.2 (by omega)))]
                     show _ = st4 (M (6, 0, 0)) (tkS (M (4, 0, 0)) (M (6, 0, 0) 3) (adP (M (4, 0, 0)) (M (6, 0, 0)))) (adP (M (4, 0, 0)) (M (6, 0, 0)))
                     rw [← hx, ht]
                     rw [upI_wr, upI_wr, r2]
                     exact st4_b
                   · exact hf2.w6.w6)
                | (
                   refine ⟨?_, ?_, rfl⟩
                   · have ht : tkS (M (4, 0, 0)) (M (6, 0, 0) 3) x = (1, x + 1, 0) := by
                       unfold tkS
                       rw [if_neg (by omega), if_neg (by omega), if_neg (by omega), if_neg (hs.elim (fun z => absurd z.2 (by omega)) (fun z => z.1))]
                     show _ = st4 (M (6, 0, 0)) (tkS (M (4, 0, 0)) (M (6, 0, 0) 3) (adP (M (4, 0, 0)) (M (6, 0, 0)))) (adP (M (4, 0, 0)) (M (6, 0, 0)))
                     rw [← hx, ht]
                     rw [upI_wr, upI_wr, r2]
                     exact st4_b
                   · exact hf2.w6.w6)
            · refine go_aload_n dX4_advance_139 rfl rfl ?_
              refine go_bipush dX4_advance_140 ⟨by decide, by decide⟩ ?_
              refine go_bipush dX4_advance_142 ⟨by decide, by decide⟩ ?_
              refine go_bipush dX4_advance_144 ⟨by decide, by decide⟩ ?_
              refine go_iconst dX4_advance_146 (R32_lit rfl) ?_
              refine v4_158 dX4_advance_147 rfl ⟨rfl, rfl⟩ ⟨rfl, rfl⟩ (ct_X4_takeRun hT (by omega) (by omega) ⟨by decide, by decide⟩ ⟨by decide, by decide⟩ ⟨by decide, by decide⟩) (fun M4 N4 hq2 => ?_)
              obtain ⟨u1, u2, rfl⟩ := hq2
              rw [f3, f4, f7, f8, r2] at u1
              have hub := ruS_bd (M (4, 0, 0)) (M (6, 0, 0) 3) 48 57 10 0 ((M (6, 0, 0) 3) - x).toNat x 0
              generalize hQ : (ruS (M (4, 0, 0)) (M (6, 0, 0) 3) 48 57 10 0 ((M (6, 0, 0) 3) - x).toNat x 0) = Q at u1 hub
              have hf3 := hf2.tr u2
              have v7 : M4 (6, 0, 0) 7 = Q.1 := by rw [u1]; rfl
              have v6 : M4 (6, 0, 0) 6 = x := by rw [u1]; rfl
              refine go_aload_n dX4_advance_150 rfl rfl ?_
              refine go_aload_n dX4_advance_151 rfl rfl ?_
              refine g4_37 dX4_advance_152 ?_
              rw [v7]
              refine go_aload_n dX4_advance_155 rfl rfl ?_
              refine g4_54 dX4_advance_156 ?_
              rw [v6]
              refine go_isubc dX4_advance_159 ⟨by omega, by omega⟩ ?_
              refine go_iconst dX4_advance_160 (R32_lit rfl) ?_
              refine go_icmp_gt (tgt := 168) dX4_advance_161 rfl (fun h161 => ?_) (fun h161 => ?_)
              · refine go_iconst dX4_advance_168 (R32_lit rfl) ?_
                refine p4_47 dX4_advance_169 ?_
                refine go_goto (tgt := 201) dX4_advance_172 rfl ?_
                refine go_retv dX4_advance_201 ?_
                first
                | (
                   refine ⟨?_, ?_, rfl⟩
                   · have ht : tkS (M (4, 0, 0)) (M (6, 0, 0) 3) x = (2, Q) := by
                       unfold tkS
                       rw [if_neg (by omega), if_pos (by omega), hQ, if_pos (by omega)]
                     show _ = st4 (M (6, 0, 0)) (tkS (M (4, 0, 0)) (M (6, 0, 0) 3) (adP (M (4, 0, 0)) (M (6, 0, 0)))) (adP (M (4, 0, 0)) (M (6, 0, 0)))
                     rw [← hx, ht]
                     rw [upI_wr, u1]
                     exact st4_a
                   · exact hf3.w6)
                | (
                   refine ⟨?_, ?_, rfl⟩
                   · have ht : tkS (M (4, 0, 0)) (M (6, 0, 0) 3) x = (1, Q) := by
                       unfold tkS
                       rw [if_neg (by omega), if_pos (by omega), hQ, if_neg (by omega)]
                     show _ = st4 (M (6, 0, 0)) (tkS (M (4, 0, 0)) (M (6, 0, 0) 3) (adP (M (4, 0, 0)) (M (6, 0, 0)))) (adP (M (4, 0, 0)) (M (6, 0, 0)))
                     rw [← hx, ht]
                     rw [upI_wr, u1]
                     exact st4_a
                   · exact hf3.w6)
                | (
                   refine ⟨?_, ?_, rfl⟩
                   · have ht : tkS (M (4, 0, 0)) (M (6, 0, 0) 3) x = (3, Q) := by
                       unfold tkS
                       rw [if_neg (by omega), if_neg (by omega), if_pos (by omega), hQ, if_pos (by omega)]
                     show _ = st4 (M (6, 0, 0)) (tkS (M (4, 0, 0)) (M (6, 0, 0) 3) (adP (M (4, 0, 0)) (M (6, 0, 0)))) (adP (M (4, 0, 0)) (M (6, 0, 0)))
                     rw [← hx, ht]
                     rw [upI_wr, u1]
                     exact st4_a
                   · exact hf3.w6)
                | (
                   refine ⟨?_, ?_, rfl⟩
                   · have ht : tkS (M (4, 0, 0)) (M (6, 0, 0) 3) x = (1, Q) := by
                       unfold tkS
                       rw [if_neg (by omega), if_neg (by omega), if_pos (by omega), hQ, if_neg (by omega)]
                     show _ = st4 (M (6, 0, 0)) (tkS (M (4, 0, 0)) (M (6, 0, 0) 3) (adP (M (4, 0, 0)) (M (6, 0, 0)))) (adP (M (4, 0, 0)) (M (6, 0, 0)))
                     rw [← hx, ht]
                     rw [upI_wr, u1]
                     exact st4_a
                   · exact hf3.w6)
                | (
                   refine ⟨?_, ?_, rfl⟩
                   · have ht : tkS (M (4, 0, 0)) (M (6, 0, 0) 3) x = (M (4, 0, 0) x, x + 1, 0) := by
                       unfold tkS
                       rw [if_neg (by omega), if_neg (by omega), if_neg (by omega), if_pos (hs.elim (fun z => z.1) (fun z => absurd z.2 (by omega)))]
                     show _ = st4 (M (6, 0, 0)) (tkS (M (4, 0, 0)) (M (6, 0, 0) 3) (adP (M (4, 0, 0)) (M (6, 0, 0)))) (adP (M (4, 0, 0)) (M (6, 0, 0)))
                     rw [← hx, ht]
                     rw [upI_wr, upI_wr, r2]
                     exact st4_b
                   · exact hf2.w6.w6)
                | (
                   refine ⟨?_, ?_, rfl⟩
                   · have ht : tkS (M (4, 0, 0)) (M (6, 0, 0) 3) x = (1, x + 1, 0) := by
                       unfold tkS
                       rw [if_neg (by omega), if_neg (by omega), if_neg (by omega), if_neg (hs.elim (fun z => absurd z.2 (by omega)) (fun z => z.1))]
                     show _ = st4 (M (6, 0, 0)) (tkS (M (4, 0, 0)) (M (6, 0, 0) 3) (adP (M (4, 0, 0)) (M (6, 0, 0)))) (adP (M (4, 0, 0)) (M (6, 0, 0)))
                     rw [← hx, ht]
                     rw [upI_wr, upI_wr, r2]
                     exact st4_b
                   · exact hf2.w6.w6)
              · refine go_iconst dX4_advance_164 (R32_lit rfl) ?_
                refine go_goto (tgt := 169) dX4_advance_165 rfl ?_
                refine p4_47 dX4_advance_169 ?_
                refine go_goto (tgt := 201) dX4_advance_172 rfl ?_
                refine go_retv dX4_advance_201 ?_
                first
                | (
                   refine ⟨?_, ?_, rfl⟩
                   · have ht : tkS (M (4, 0, 0)) (M (6, 0, 0) 3) x = (2, Q) := by
                       unfold tkS
                       rw [if_neg (by omega), if_pos (by omega), hQ, if_pos (by omega)]
                     show _ = st4 (M (6, 0, 0)) (tkS (M (4, 0, 0)) (M (6, 0, 0) 3) (adP (M (4, 0, 0)) (M (6, 0, 0)))) (adP (M (4, 0, 0)) (M (6, 0, 0)))
                     rw [← hx, ht]
                     rw [upI_wr, u1]
                     exact st4_a
                   · exact hf3.w6)
                | (
                   refine ⟨?_, ?_, rfl⟩
                   · have ht : tkS (M (4, 0, 0)) (M (6, 0, 0) 3) x = (1, Q) := by
                       unfold tkS
                       rw [if_neg (by omega), if_pos (by omega), hQ, if_neg (by omega)]
                     show _ = st4 (M (6, 0, 0)) (tkS (M (4, 0, 0)) (M (6, 0, 0) 3) (adP (M (4, 0, 0)) (M (6, 0, 0)))) (adP (M (4, 0, 0)) (M (6, 0, 0)))
                     rw [← hx, ht]
                     rw [upI_wr, u1]
                     exact st4_a
                   · exact hf3.w6)
                | (
                   refine ⟨?_, ?_, rfl⟩
                   · have ht : tkS (M (4, 0, 0)) (M (6, 0, 0) 3) x = (3, Q) := by
                       unfold tkS
                       rw [if_neg (by omega), if_neg (by omega), if_pos (by omega), hQ, if_pos (by omega)]
                     show _ = st4 (M (6, 0, 0)) (tkS (M (4, 0, 0)) (M (6, 0, 0) 3) (adP (M (4, 0, 0)) (M (6, 0, 0)))) (adP (M (4, 0, 0)) (M (6, 0, 0)))
                     rw [← hx, ht]
                     rw [upI_wr, u1]
                     exact st4_a
                   · exact hf3.w6)
                | (
                   refine ⟨?_, ?_, rfl⟩
                   · have ht : tkS (M (4, 0, 0)) (M (6, 0, 0) 3) x = (1, Q) := by
                       unfold tkS
                       rw [if_neg (by omega), if_neg (by omega), if_pos (by omega), hQ, if_neg (by omega)]
                     show _ = st4 (M (6, 0, 0)) (tkS (M (4, 0, 0)) (M (6, 0, 0) 3) (adP (M (4, 0, 0)) (M (6, 0, 0)))) (adP (M (4, 0, 0)) (M (6, 0, 0)))
                     rw [← hx, ht]
                     rw [upI_wr, u1]
                     exact st4_a
                   · exact hf3.w6)
                | (
                   refine ⟨?_, ?_, rfl⟩
                   · have ht : tkS (M (4, 0, 0)) (M (6, 0, 0) 3) x = (M (4, 0, 0) x, x + 1, 0) := by
                       unfold tkS
                       rw [if_neg (by omega), if_neg (by omega), if_neg (by omega), if_pos (hs.elim (fun z => z.1) (fun z => absurd z.2 (by omega)))]
                     show _ = st4 (M (6, 0, 0)) (tkS (M (4, 0, 0)) (M (6, 0, 0) 3) (adP (M (4, 0, 0)) (M (6, 0, 0)))) (adP (M (4, 0, 0)) (M (6, 0, 0)))
                     rw [← hx, ht]
                     rw [upI_wr, upI_wr, r2]
                     exact st4_b
                   · exact hf2.w6.w6)
                | (
                   refine ⟨?_, ?_, rfl⟩
                   · have ht : tkS (M (4, 0, 0)) (M (6, 0, 0) 3) x = (1, x + 1, 0) := by
                       unfold tkS
                       rw [if_neg (by omega), if_neg (by omega), if_neg (by omega), if_neg (hs.elim (fun z => absurd z.2 (by omega)) (fun z => z.1))]
                     show _ = st4 (M (6, 0, 0)) (tkS (M (4, 0, 0)) (M (6, 0, 0) 3) (adP (M (4, 0, 0)) (M (6, 0, 0)))) (adP (M (4, 0, 0)) (M (6, 0, 0)))
                     rw [← hx, ht]
                     rw [upI_wr, upI_wr, r2]
                     exact st4_b
                   · exact hf2.w6.w6)
        · refine go_iload_n dX4_advance_84 rfl ?_
          refine go_bipush dX4_advance_85 ⟨by decide, by decide⟩ ?_
          refine go_icmp_gt (tgt := 127) dX4_advance_87 rfl (fun h87 => ?_) (fun h87 => ?_)
          · refine go_iload_n dX4_advance_127 rfl ?_
            refine go_bipush dX4_advance_128 ⟨by decide, by decide⟩ ?_
            refine go_icmp_lt (tgt := 175) dX4_advance_130 rfl (fun h130 => ?_) (fun h130 => ?_)
            · refine go_aload_n dX4_advance_175 rfl rfl ?_
              first | refine go_dup_r dX4_advance_176 ?_ | refine go_dup_i dX4_advance_176 ?_
              refine g4_37 dX4_advance_177 ?_
              rw [f7]
              refine go_iconst dX4_advance_180 (R32_lit rfl) ?_
              refine go_iaddc dX4_advance_181 ⟨by omega, by omega⟩ ?_
              refine p4_37 dX4_advance_182 ?_
              refine go_aload_n dX4_advance_185 rfl rfl ?_
              refine go_iload_n dX4_advance_186 rfl ?_
              refine v4_162 dX4_advance_187 rfl ⟨rfl, rfl⟩ ⟨rfl, rfl⟩ ct_X4_isSingle (fun r3 M5 N5 hr3 hq3 => ?_)
              obtain ⟨hs, rfl, rfl⟩ := hq3
              refine go_if_eq (tgt := 197) dX4_advance_190 rfl (fun h190 => ?_) (fun h190 => ?_)
              · refine go_iconst dX4_advance_197 (R32_lit rfl) ?_
                refine p4_47 dX4_advance_198 ?_
                refine go_retv dX4_advance_201 ?_
                first
                | (
                   refine ⟨?_, ?_, rfl⟩
                   · have ht : tkS (M (4, 0, 0)) (M (6, 0, 0) 3) x = (2, Q) := by
                       unfold tkS
                       rw [if_neg (by omega), if_pos (by omega), hQ, if_pos (by omega)]
                     show _ = st4 (M (6, 0, 0)) (tkS (M (4, 0, 0)) (M (6, 0, 0) 3) (adP (M (4, 0, 0)) (M (6, 0, 0)))) (adP (M (4, 0, 0)) (M (6, 0, 0)))
                     rw [← hx, ht]
                     rw [upI_wr, u1]
                     exact st4_a
                   · exact hf3.w6)
                | (
                   refine ⟨?_, ?_, rfl⟩
                   · have ht : tkS (M (4, 0, 0)) (M (6, 0, 0) 3) x = (1, Q) := by
                       unfold tkS
                       rw [if_neg (by omega), if_pos (by omega), hQ, if_neg (by omega)]
                     show _ = st4 (M (6, 0, 0)) (tkS (M (4, 0, 0)) (M (6, 0, 0) 3) (adP (M (4, 0, 0)) (M (6, 0, 0)))) (adP (M (4, 0, 0)) (M (6, 0, 0)))
                     rw [← hx, ht]
                     rw [upI_wr, u1]
                     exact st4_a
                   · exact hf3.w6)
                | (
                   refine ⟨?_, ?_, rfl⟩
                   · have ht : tkS (M (4, 0, 0)) (M (6, 0, 0) 3) x = (3, Q) := by
                       unfold tkS
                       rw [if_neg (by omega), if_neg (by omega), if_pos (by omega), hQ, if_pos (by omega)]
                     show _ = st4 (M (6, 0, 0)) (tkS (M (4, 0, 0)) (M (6, 0, 0) 3) (adP (M (4, 0, 0)) (M (6, 0, 0)))) (adP (M (4, 0, 0)) (M (6, 0, 0)))
                     rw [← hx, ht]
                     rw [upI_wr, u1]
                     exact st4_a
                   · exact hf3.w6)
                | (
                   refine ⟨?_, ?_, rfl⟩
                   · have ht : tkS (M (4, 0, 0)) (M (6, 0, 0) 3) x = (1, Q) := by
                       unfold tkS
                       rw [if_neg (by omega), if_neg (by omega), if_pos (by omega), hQ, if_neg (by omega)]
                     show _ = st4 (M (6, 0, 0)) (tkS (M (4, 0, 0)) (M (6, 0, 0) 3) (adP (M (4, 0, 0)) (M (6, 0, 0)))) (adP (M (4, 0, 0)) (M (6, 0, 0)))
                     rw [← hx, ht]
                     rw [upI_wr, u1]
                     exact st4_a
                   · exact hf3.w6)
                | (
                   refine ⟨?_, ?_, rfl⟩
                   · have ht : tkS (M (4, 0, 0)) (M (6, 0, 0) 3) x = (M (4, 0, 0) x, x + 1, 0) := by
                       unfold tkS
                       rw [if_neg (by omega), if_neg (by omega), if_neg (by omega), if_pos (hs.elim (fun z => z.1) (fun z => absurd z.2 (by omega)))]
                     show _ = st4 (M (6, 0, 0)) (tkS (M (4, 0, 0)) (M (6, 0, 0) 3) (adP (M (4, 0, 0)) (M (6, 0, 0)))) (adP (M (4, 0, 0)) (M (6, 0, 0)))
                     rw [← hx, ht]
                     rw [upI_wr, upI_wr, r2]
                     exact st4_b
                   · exact hf2.w6.w6)
                | (
                   refine ⟨?_, ?_, rfl⟩
                   · have ht : tkS (M (4, 0, 0)) (M (6, 0, 0) 3) x = (1, x + 1, 0) := by
                       unfold tkS
                       rw [if_neg (by omega), if_neg (by omega), if_neg (by omega), if_neg (hs.elim (fun z => absurd z.2 (by omega)) (fun z => z.1))]
                     show _ = st4 (M (6, 0, 0)) (tkS (M (4, 0, 0)) (M (6, 0, 0) 3) (adP (M (4, 0, 0)) (M (6, 0, 0)))) (adP (M (4, 0, 0)) (M (6, 0, 0)))
                     rw [← hx, ht]
                     rw [upI_wr, upI_wr, r2]
                     exact st4_b
                   · exact hf2.w6.w6)
              · refine go_iload_n dX4_advance_193 rfl ?_
                refine go_goto (tgt := 198) dX4_advance_194 rfl ?_
                refine p4_47 dX4_advance_198 ?_
                refine go_retv dX4_advance_201 ?_
                first
                | (
                   refine ⟨?_, ?_, rfl⟩
                   · have ht : tkS (M (4, 0, 0)) (M (6, 0, 0) 3) x = (2, Q) := by
                       unfold tkS
                       rw [if_neg (by omega), if_pos (by omega), hQ, if_pos (by omega)]
                     show _ = st4 (M (6, 0, 0)) (tkS (M (4, 0, 0)) (M (6, 0, 0) 3) (adP (M (4, 0, 0)) (M (6, 0, 0)))) (adP (M (4, 0, 0)) (M (6, 0, 0)))
                     rw [← hx, ht]
                     rw [upI_wr, u1]
                     exact st4_a
                   · exact hf3.w6)
                | (
                   refine ⟨?_, ?_, rfl⟩
                   · have ht : tkS (M (4, 0, 0)) (M (6, 0, 0) 3) x = (1, Q) := by
                       unfold tkS
                       rw [if_neg (by omega), if_pos (by omega), hQ, if_neg (by omega)]
                     show _ = st4 (M (6, 0, 0)) (tkS (M (4, 0, 0)) (M (6, 0, 0) 3) (adP (M (4, 0, 0)) (M (6, 0, 0)))) (adP (M (4, 0, 0)) (M (6, 0, 0)))
                     rw [← hx, ht]
                     rw [upI_wr, u1]
                     exact st4_a
                   · exact hf3.w6)
                | (
                   refine ⟨?_, ?_, rfl⟩
                   · have ht : tkS (M (4, 0, 0)) (M (6, 0, 0) 3) x = (3, Q) := by
                       unfold tkS
                       rw [if_neg (by omega), if_neg (by omega), if_pos (by omega), hQ, if_pos (by omega)]
                     show _ = st4 (M (6, 0, 0)) (tkS (M (4, 0, 0)) (M (6, 0, 0) 3) (adP (M (4, 0, 0)) (M (6, 0, 0)))) (adP (M (4, 0, 0)) (M (6, 0, 0)))
                     rw [← hx, ht]
                     rw [upI_wr, u1]
                     exact st4_a
                   · exact hf3.w6)
                | (
                   refine ⟨?_, ?_, rfl⟩
                   · have ht : tkS (M (4, 0, 0)) (M (6, 0, 0) 3) x = (1, Q) := by
                       unfold tkS
                       rw [if_neg (by omega), if_neg (by omega), if_pos (by omega), hQ, if_neg (by omega)]
                     show _ = st4 (M (6, 0, 0)) (tkS (M (4, 0, 0)) (M (6, 0, 0) 3) (adP (M (4, 0, 0)) (M (6, 0, 0)))) (adP (M (4, 0, 0)) (M (6, 0, 0)))
                     rw [← hx, ht]
                     rw [upI_wr, u1]
                     exact st4_a
                   · exact hf3.w6)
                | (
                   refine ⟨?_, ?_, rfl⟩
                   · have ht : tkS (M (4, 0, 0)) (M (6, 0, 0) 3) x = (M (4, 0, 0) x, x + 1, 0) := by
                       unfold tkS
                       rw [if_neg (by omega), if_neg (by omega), if_neg (by omega), if_pos (hs.elim (fun z => z.1) (fun z => absurd z.2 (by omega)))]
                     show _ = st4 (M (6, 0, 0)) (tkS (M (4, 0, 0)) (M (6, 0, 0) 3) (adP (M (4, 0, 0)) (M (6, 0, 0)))) (adP (M (4, 0, 0)) (M (6, 0, 0)))
                     rw [← hx, ht]
                     rw [upI_wr, upI_wr, r2]
                     exact st4_b
                   · exact hf2.w6.w6)
                | (
                   refine ⟨?_, ?_, rfl⟩
                   · have ht : tkS (M (4, 0, 0)) (M (6, 0, 0) 3) x = (1, x + 1, 0) := by
                       unfold tkS
                       rw [if_neg (by omega), if_neg (by omega), if_neg (by omega), if_neg (hs.elim (fun z => absurd z.2 (by omega)) (fun z => z.1))]
                     show _ = st4 (M (6, 0, 0)) (tkS (M (4, 0, 0)) (M (6, 0, 0) 3) (adP (M (4, 0, 0)) (M (6, 0, 0)))) (adP (M (4, 0, 0)) (M (6, 0, 0)))
                     rw [← hx, ht]
                     rw [upI_wr, upI_wr, r2]
                     exact st4_b
                   · exact hf2.w6.w6)
            · refine go_iload_n dX4_advance_133 rfl ?_
              refine go_bipush dX4_advance_134 ⟨by decide, by decide⟩ ?_
              refine go_icmp_gt (tgt := 175) dX4_advance_136 rfl (fun h136 => ?_) (fun h136 => ?_)
              · refine go_aload_n dX4_advance_175 rfl rfl ?_
                first | refine go_dup_r dX4_advance_176 ?_ | refine go_dup_i dX4_advance_176 ?_
                refine g4_37 dX4_advance_177 ?_
                rw [f7]
                refine go_iconst dX4_advance_180 (R32_lit rfl) ?_
                refine go_iaddc dX4_advance_181 ⟨by omega, by omega⟩ ?_
                refine p4_37 dX4_advance_182 ?_
                refine go_aload_n dX4_advance_185 rfl rfl ?_
                refine go_iload_n dX4_advance_186 rfl ?_
                refine v4_162 dX4_advance_187 rfl ⟨rfl, rfl⟩ ⟨rfl, rfl⟩ ct_X4_isSingle (fun r3 M5 N5 hr3 hq3 => ?_)
                obtain ⟨hs, rfl, rfl⟩ := hq3
                refine go_if_eq (tgt := 197) dX4_advance_190 rfl (fun h190 => ?_) (fun h190 => ?_)
                · refine go_iconst dX4_advance_197 (R32_lit rfl) ?_
                  refine p4_47 dX4_advance_198 ?_
                  refine go_retv dX4_advance_201 ?_
                  first
                  | (
                     refine ⟨?_, ?_, rfl⟩
                     · have ht : tkS (M (4, 0, 0)) (M (6, 0, 0) 3) x = (2, Q) := by
                         unfold tkS
                         rw [if_neg (by omega), if_pos (by omega), hQ, if_pos (by omega)]
                       show _ = st4 (M (6, 0, 0)) (tkS (M (4, 0, 0)) (M (6, 0, 0) 3) (adP (M (4, 0, 0)) (M (6, 0, 0)))) (adP (M (4, 0, 0)) (M (6, 0, 0)))
                       rw [← hx, ht]
                       rw [upI_wr, u1]
                       exact st4_a
                     · exact hf3.w6)
                  | (
                     refine ⟨?_, ?_, rfl⟩
                     · have ht : tkS (M (4, 0, 0)) (M (6, 0, 0) 3) x = (1, Q) := by
                         unfold tkS
                         rw [if_neg (by omega), if_pos (by omega), hQ, if_neg (by omega)]
                       show _ = st4 (M (6, 0, 0)) (tkS (M (4, 0, 0)) (M (6, 0, 0) 3) (adP (M (4, 0, 0)) (M (6, 0, 0)))) (adP (M (4, 0, 0)) (M (6, 0, 0)))
                       rw [← hx, ht]
                       rw [upI_wr, u1]
                       exact st4_a
                     · exact hf3.w6)
                  | (
                     refine ⟨?_, ?_, rfl⟩
                     · have ht : tkS (M (4, 0, 0)) (M (6, 0, 0) 3) x = (3, Q) := by
                         unfold tkS
                         rw [if_neg (by omega), if_neg (by omega), if_pos (by omega), hQ, if_pos (by omega)]
                       show _ = st4 (M (6, 0, 0)) (tkS (M (4, 0, 0)) (M (6, 0, 0) 3) (adP (M (4, 0, 0)) (M (6, 0, 0)))) (adP (M (4, 0, 0)) (M (6, 0, 0)))
                       rw [← hx, ht]
                       rw [upI_wr, u1]
                       exact st4_a
                     · exact hf3.w6)
                  | (
                     refine ⟨?_, ?_, rfl⟩
                     · have ht : tkS (M (4, 0, 0)) (M (6, 0, 0) 3) x = (1, Q) := by
                         unfold tkS
                         rw [if_neg (by omega), if_neg (by omega), if_pos (by omega), hQ, if_neg (by omega)]
                       show _ = st4 (M (6, 0, 0)) (tkS (M (4, 0, 0)) (M (6, 0, 0) 3) (adP (M (4, 0, 0)) (M (6, 0, 0)))) (adP (M (4, 0, 0)) (M (6, 0, 0)))
                       rw [← hx, ht]
                       rw [upI_wr, u1]
                       exact st4_a
                     · exact hf3.w6)
                  | (
                     refine ⟨?_, ?_, rfl⟩
                     · have ht : tkS (M (4, 0, 0)) (M (6, 0, 0) 3) x = (M (4, 0, 0) x, x + 1, 0) := by
                         unfold tkS
                         rw [if_neg (by omega), if_neg (by omega), if_neg (by omega), if_pos (hs.elim (fun z => z.1) (fun z => absurd z.2 (by omega)))]
                       show _ = st4 (M (6, 0, 0)) (tkS (M (4, 0, 0)) (M (6, 0, 0) 3) (adP (M (4, 0, 0)) (M (6, 0, 0)))) (adP (M (4, 0, 0)) (M (6, 0, 0)))
                       rw [← hx, ht]
                       rw [upI_wr, upI_wr, r2]
                       exact st4_b
                     · exact hf2.w6.w6)
                  | (
                     refine ⟨?_, ?_, rfl⟩
                     · have ht : tkS (M (4, 0, 0)) (M (6, 0, 0) 3) x = (1, x + 1, 0) := by
                         unfold tkS
                         rw [if_neg (by omega), if_neg (by omega), if_neg (by omega), if_neg (hs.elim (fun z => absurd z.2 (by omega)) (fun z => z.1))]
                       show _ = st4 (M (6, 0, 0)) (tkS (M (4, 0, 0)) (M (6, 0, 0) 3) (adP (M (4, 0, 0)) (M (6, 0, 0)))) (adP (M (4, 0, 0)) (M (6, 0, 0)))
                       rw [← hx, ht]
                       rw [upI_wr, upI_wr, r2]
                       exact st4_b
                     · exact hf2.w6.w6)
                · refine go_iload_n dX4_advance_193 rfl ?_
                  refine go_goto (tgt := 198) dX4_advance_194 rfl ?_
                  refine p4_47 dX4_advance_198 ?_
                  refine go_retv dX4_advance_201 ?_
                  first
                  | (
                     refine ⟨?_, ?_, rfl⟩
                     · have ht : tkS (M (4, 0, 0)) (M (6, 0, 0) 3) x = (2, Q) := by
                         unfold tkS
                         rw [if_neg (by omega), if_pos (by omega), hQ, if_pos (by omega)]
                       show _ = st4 (M (6, 0, 0)) (tkS (M (4, 0, 0)) (M (6, 0, 0) 3) (adP (M (4, 0, 0)) (M (6, 0, 0)))) (adP (M (4, 0, 0)) (M (6, 0, 0)))
                       rw [← hx, ht]
                       rw [upI_wr, u1]
                       exact st4_a
                     · exact hf3.w6)
                  | (
                     refine ⟨?_, ?_, rfl⟩
                     · have ht : tkS (M (4, 0, 0)) (M (6, 0, 0) 3) x = (1, Q) := by
                         unfold tkS
                         rw [if_neg (by omega), if_pos (by omega), hQ, if_neg (by omega)]
                       show _ = st4 (M (6, 0, 0)) (tkS (M (4, 0, 0)) (M (6, 0, 0) 3) (adP (M (4, 0, 0)) (M (6, 0, 0)))) (adP (M (4, 0, 0)) (M (6, 0, 0)))
                       rw [← hx, ht]
                       rw [upI_wr, u1]
                       exact st4_a
                     · exact hf3.w6)
                  | (
                     refine ⟨?_, ?_, rfl⟩
                     · have ht : tkS (M (4, 0, 0)) (M (6, 0, 0) 3) x = (3, Q) := by
                         unfold tkS
                         rw [if_neg (by omega), if_neg (by omega), if_pos (by omega), hQ, if_pos (by omega)]
                       show _ = st4 (M (6, 0, 0)) (tkS (M (4, 0, 0)) (M (6, 0, 0) 3) (adP (M (4, 0, 0)) (M (6, 0, 0)))) (adP (M (4, 0, 0)) (M (6, 0, 0)))
                       rw [← hx, ht]
                       rw [upI_wr, u1]
                       exact st4_a
                     · exact hf3.w6)
                  | (
                     refine ⟨?_, ?_, rfl⟩
                     · have ht : tkS (M (4, 0, 0)) (M (6, 0, 0) 3) x = (1, Q) := by
                         unfold tkS
                         rw [if_neg (by omega), if_neg (by omega), if_pos (by omega), hQ, if_neg (by omega)]
                       show _ = st4 (M (6, 0, 0)) (tkS (M (4, 0, 0)) (M (6, 0, 0) 3) (adP (M (4, 0, 0)) (M (6, 0, 0)))) (adP (M (4, 0, 0)) (M (6, 0, 0)))
                       rw [← hx, ht]
                       rw [upI_wr, u1]
                       exact st4_a
                     · exact hf3.w6)
                  | (
                     refine ⟨?_, ?_, rfl⟩
                     · have ht : tkS (M (4, 0, 0)) (M (6, 0, 0) 3) x = (M (4, 0, 0) x, x + 1, 0) := by
                         unfold tkS
                         rw [if_neg (by omega), if_neg (by omega), if_neg (by omega), if_pos (hs.elim (fun z => z.1) (fun z => absurd z.2 (by omega)))]
                       show _ = st4 (M (6, 0, 0)) (tkS (M (4, 0, 0)) (M (6, 0, 0) 3) (adP (M (4, 0, 0)) (M (6, 0, 0)))) (adP (M (4, 0, 0)) (M (6, 0, 0)))
                       rw [← hx, ht]
                       rw [upI_wr, upI_wr, r2]
                       exact st4_b
                     · exact hf2.w6.w6)
                  | (
                     refine ⟨?_, ?_, rfl⟩
                     · have ht : tkS (M (4, 0, 0)) (M (6, 0, 0) 3) x = (1, x + 1, 0) := by
                         unfold tkS
                         rw [if_neg (by omega), if_neg (by omega), if_neg (by omega), if_neg (hs.elim (fun z => absurd z.2 (by omega)) (fun z => z.1))]
                       show _ = st4 (M (6, 0, 0)) (tkS (M (4, 0, 0)) (M (6, 0, 0) 3) (adP (M (4, 0, 0)) (M (6, 0, 0)))) (adP (M (4, 0, 0)) (M (6, 0, 0)))
                       rw [← hx, ht]
                       rw [upI_wr, upI_wr, r2]
                       exact st4_b
                     · exact hf2.w6.w6)
              · refine go_aload_n dX4_advance_139 rfl rfl ?_
                refine go_bipush dX4_advance_140 ⟨by decide, by decide⟩ ?_
                refine go_bipush dX4_advance_142 ⟨by decide, by decide⟩ ?_
                refine go_bipush dX4_advance_144 ⟨by decide, by decide⟩ ?_
                refine go_iconst dX4_advance_146 (R32_lit rfl) ?_
                refine v4_158 dX4_advance_147 rfl ⟨rfl, rfl⟩ ⟨rfl, rfl⟩ (ct_X4_takeRun hT (by omega) (by omega) ⟨by decide, by decide⟩ ⟨by decide, by decide⟩ ⟨by decide, by decide⟩) (fun M4 N4 hq2 => ?_)
                obtain ⟨u1, u2, rfl⟩ := hq2
                rw [f3, f4, f7, f8, r2] at u1
                have hub := ruS_bd (M (4, 0, 0)) (M (6, 0, 0) 3) 48 57 10 0 ((M (6, 0, 0) 3) - x).toNat x 0
                generalize hQ : (ruS (M (4, 0, 0)) (M (6, 0, 0) 3) 48 57 10 0 ((M (6, 0, 0) 3) - x).toNat x 0) = Q at u1 hub
                have hf3 := hf2.tr u2
                have v7 : M4 (6, 0, 0) 7 = Q.1 := by rw [u1]; rfl
                have v6 : M4 (6, 0, 0) 6 = x := by rw [u1]; rfl
                refine go_aload_n dX4_advance_150 rfl rfl ?_
                refine go_aload_n dX4_advance_151 rfl rfl ?_
                refine g4_37 dX4_advance_152 ?_
                rw [v7]
                refine go_aload_n dX4_advance_155 rfl rfl ?_
                refine g4_54 dX4_advance_156 ?_
                rw [v6]
                refine go_isubc dX4_advance_159 ⟨by omega, by omega⟩ ?_
                refine go_iconst dX4_advance_160 (R32_lit rfl) ?_
                refine go_icmp_gt (tgt := 168) dX4_advance_161 rfl (fun h161 => ?_) (fun h161 => ?_)
                · refine go_iconst dX4_advance_168 (R32_lit rfl) ?_
                  refine p4_47 dX4_advance_169 ?_
                  refine go_goto (tgt := 201) dX4_advance_172 rfl ?_
                  refine go_retv dX4_advance_201 ?_
                  first
                  | (
                     refine ⟨?_, ?_, rfl⟩
                     · have ht : tkS (M (4, 0, 0)) (M (6, 0, 0) 3) x = (2, Q) := by
                         unfold tkS
                         rw [if_neg (by omega), if_pos (by omega), hQ, if_pos (by omega)]
                       show _ = st4 (M (6, 0, 0)) (tkS (M (4, 0, 0)) (M (6, 0, 0) 3) (adP (M (4, 0, 0)) (M (6, 0, 0)))) (adP (M (4, 0, 0)) (M (6, 0, 0)))
                       rw [← hx, ht]
                       rw [upI_wr, u1]
                       exact st4_a
                     · exact hf3.w6)
                  | (
                     refine ⟨?_, ?_, rfl⟩
                     · have ht : tkS (M (4, 0, 0)) (M (6, 0, 0) 3) x = (1, Q) := by
                         unfold tkS
                         rw [if_neg (by omega), if_pos (by omega), hQ, if_neg (by omega)]
                       show _ = st4 (M (6, 0, 0)) (tkS (M (4, 0, 0)) (M (6, 0, 0) 3) (adP (M (4, 0, 0)) (M (6, 0, 0)))) (adP (M (4, 0, 0)) (M (6, 0, 0)))
                       rw [← hx, ht]
                       rw [upI_wr, u1]
                       exact st4_a
                     · exact hf3.w6)
                  | (
                     refine ⟨?_, ?_, rfl⟩
                     · have ht : tkS (M (4, 0, 0)) (M (6, 0, 0) 3) x = (3, Q) := by
                         unfold tkS
                         rw [if_neg (by omega), if_neg (by omega), if_pos (by omega), hQ, if_pos (by omega)]
                       show _ = st4 (M (6, 0, 0)) (tkS (M (4, 0, 0)) (M (6, 0, 0) 3) (adP (M (4, 0, 0)) (M (6, 0, 0)))) (adP (M (4, 0, 0)) (M (6, 0, 0)))
                       rw [← hx, ht]
                       rw [upI_wr, u1]
                       exact st4_a
                     · exact hf3.w6)
                  | (
                     refine ⟨?_, ?_, rfl⟩
                     · have ht : tkS (M (4, 0, 0)) (M (6, 0, 0) 3) x = (1, Q) := by
                         unfold tkS
                         rw [if_neg (by omega), if_neg (by omega), if_pos (by omega), hQ, if_neg (by omega)]
                       show _ = st4 (M (6, 0, 0)) (tkS (M (4, 0, 0)) (M (6, 0, 0) 3) (adP (M (4, 0, 0)) (M (6, 0, 0)))) (adP (M (4, 0, 0)) (M (6, 0, 0)))
                       rw [← hx, ht]
                       rw [upI_wr, u1]
                       exact st4_a
                     · exact hf3.w6)
                  | (
                     refine ⟨?_, ?_, rfl⟩
                     · have ht : tkS (M (4, 0, 0)) (M (6, 0, 0) 3) x = (M (4, 0, 0) x, x + 1, 0) := by
                         unfold tkS
                         rw [if_neg (by omega), if_neg (by omega), if_neg (by omega), if_pos (hs.elim (fun z => z.1) (fun z => absurd z.2 (by omega)))]
                       show _ = st4 (M (6, 0, 0)) (tkS (M (4, 0, 0)) (M (6, 0, 0) 3) (adP (M (4, 0, 0)) (M (6, 0, 0)))) (adP (M (4, 0, 0)) (M (6, 0, 0)))
                       rw [← hx, ht]
                       rw [upI_wr, upI_wr, r2]
                       exact st4_b
                     · exact hf2.w6.w6)
                  | (
                     refine ⟨?_, ?_, rfl⟩
                     · have ht : tkS (M (4, 0, 0)) (M (6, 0, 0) 3) x = (1, x + 1, 0) := by
                         unfold tkS
                         rw [if_neg (by omega), if_neg (by omega), if_neg (by omega), if_neg (hs.elim (fun z => absurd z.2 (by omega)) (fun z => z.1))]
                       show _ = st4 (M (6, 0, 0)) (tkS (M (4, 0, 0)) (M (6, 0, 0) 3) (adP (M (4, 0, 0)) (M (6, 0, 0)))) (adP (M (4, 0, 0)) (M (6, 0, 0)))
                       rw [← hx, ht]
                       rw [upI_wr, upI_wr, r2]
                       exact st4_b
                     · exact hf2.w6.w6)
                · refine go_iconst dX4_advance_164 (R32_lit rfl) ?_
                  refine go_goto (tgt := 169) dX4_advance_165 rfl ?_
                  refine p4_47 dX4_advance_169 ?_
                  refine go_goto (tgt := 201) dX4_advance_172 rfl ?_
                  refine go_retv dX4_advance_201 ?_
                  first
                  | (
                     refine ⟨?_, ?_, rfl⟩
                     · have ht : tkS (M (4, 0, 0)) (M (6, 0, 0) 3) x = (2, Q) := by
                         unfold tkS
                         rw [if_neg (by omega), if_pos (by omega), hQ, if_pos (by omega)]
                       show _ = st4 (M (6, 0, 0)) (tkS (M (4, 0, 0)) (M (6, 0, 0) 3) (adP (M (4, 0, 0)) (M (6, 0, 0)))) (adP (M (4, 0, 0)) (M (6, 0, 0)))
                       rw [← hx, ht]
                       rw [upI_wr, u1]
                       exact st4_a
                     · exact hf3.w6)
                  | (
                     refine ⟨?_, ?_, rfl⟩
                     · have ht : tkS (M (4, 0, 0)) (M (6, 0, 0) 3) x = (1, Q) := by
                         unfold tkS
                         rw [if_neg (by omega), if_pos (by omega), hQ, if_neg (by omega)]
                       show _ = st4 (M (6, 0, 0)) (tkS (M (4, 0, 0)) (M (6, 0, 0) 3) (adP (M (4, 0, 0)) (M (6, 0, 0)))) (adP (M (4, 0, 0)) (M (6, 0, 0)))
                       rw [← hx, ht]
                       rw [upI_wr, u1]
                       exact st4_a
                     · exact hf3.w6)
                  | (
                     refine ⟨?_, ?_, rfl⟩
                     · have ht : tkS (M (4, 0, 0)) (M (6, 0, 0) 3) x = (3, Q) := by
                         unfold tkS
                         rw [if_neg (by omega), if_neg (by omega), if_pos (by omega), hQ, if_pos (by omega)]
                       show _ = st4 (M (6, 0, 0)) (tkS (M (4, 0, 0)) (M (6, 0, 0) 3) (adP (M (4, 0, 0)) (M (6, 0, 0)))) (adP (M (4, 0, 0)) (M (6, 0, 0)))
                       rw [← hx, ht]
                       rw [upI_wr, u1]
                       exact st4_a
                     · exact hf3.w6)
                  | (
                     refine ⟨?_, ?_, rfl⟩
                     · have ht : tkS (M (4, 0, 0)) (M (6, 0, 0) 3) x = (1, Q) := by
                         unfold tkS
                         rw [if_neg (by omega), if_neg (by omega), if_pos (by omega), hQ, if_neg (by omega)]
                       show _ = st4 (M (6, 0, 0)) (tkS (M (4, 0, 0)) (M (6, 0, 0) 3) (adP (M (4, 0, 0)) (M (6, 0, 0)))) (adP (M (4, 0, 0)) (M (6, 0, 0)))
                       rw [← hx, ht]
                       rw [upI_wr, u1]
                       exact st4_a
                     · exact hf3.w6)
                  | (
                     refine ⟨?_, ?_, rfl⟩
                     · have ht : tkS (M (4, 0, 0)) (M (6, 0, 0) 3) x = (M (4, 0, 0) x, x + 1, 0) := by
                         unfold tkS
                         rw [if_neg (by omega), if_neg (by omega), if_neg (by omega), if_pos (hs.elim (fun z => z.1) (fun z => absurd z.2 (by omega)))]
                       show _ = st4 (M (6, 0, 0)) (tkS (M (4, 0, 0)) (M (6, 0, 0) 3) (adP (M (4, 0, 0)) (M (6, 0, 0)))) (adP (M (4, 0, 0)) (M (6, 0, 0)))
                       rw [← hx, ht]
                       rw [upI_wr, upI_wr, r2]
                       exact st4_b
                     · exact hf2.w6.w6)
                  | (
                     refine ⟨?_, ?_, rfl⟩
                     · have ht : tkS (M (4, 0, 0)) (M (6, 0, 0) 3) x = (1, x + 1, 0) := by
                         unfold tkS
                         rw [if_neg (by omega), if_neg (by omega), if_neg (by omega), if_neg (hs.elim (fun z => absurd z.2 (by omega)) (fun z => z.1))]
                       show _ = st4 (M (6, 0, 0)) (tkS (M (4, 0, 0)) (M (6, 0, 0) 3) (adP (M (4, 0, 0)) (M (6, 0, 0)))) (adP (M (4, 0, 0)) (M (6, 0, 0)))
                       rw [← hx, ht]
                       rw [upI_wr, upI_wr, r2]
                       exact st4_b
                     · exact hf2.w6.w6)
          · refine go_aload_n dX4_advance_90 rfl rfl ?_
            refine go_bipush dX4_advance_91 ⟨by decide, by decide⟩ ?_
            refine go_bipush dX4_advance_93 ⟨by decide, by decide⟩ ?_
            refine go_bipush dX4_advance_95 ⟨by decide, by decide⟩ ?_
            refine go_iconst dX4_advance_97 (R32_lit rfl) ?_
            refine v4_158 dX4_advance_98 rfl ⟨rfl, rfl⟩ ⟨rfl, rfl⟩ (ct_X4_takeRun hT (by omega) (by omega) ⟨by decide, by decide⟩ ⟨by decide, by decide⟩ ⟨by decide, by decide⟩) (fun M3 N3 hq1 => ?_)
            obtain ⟨u1, u2, rfl⟩ := hq1
            rw [f3, f4, f7, f8, r2] at u1
            have hub := ruS_bd (M (4, 0, 0)) (M (6, 0, 0) 3) 97 122 27 1 ((M (6, 0, 0) 3) - x).toNat x 0
            generalize hQ : (ruS (M (4, 0, 0)) (M (6, 0, 0) 3) 97 122 27 1 ((M (6, 0, 0) 3) - x).toNat x 0) = Q at u1 hub
            have hf3 := hf2.tr u2
            have v7 : M3 (6, 0, 0) 7 = Q.1 := by rw [u1]; rfl
            have v6 : M3 (6, 0, 0) 6 = x := by rw [u1]; rfl
            refine go_aload_n dX4_advance_101 rfl rfl ?_
            refine go_aload_n dX4_advance_102 rfl rfl ?_
            refine g4_37 dX4_advance_103 ?_
            rw [v7]
            refine go_aload_n dX4_advance_106 rfl rfl ?_
            refine g4_54 dX4_advance_107 ?_
            rw [v6]
            refine go_isubc dX4_advance_110 ⟨by omega, by omega⟩ ?_
            refine go_bipush dX4_advance_111 ⟨by decide, by decide⟩ ?_
            refine go_icmp_gt (tgt := 120) dX4_advance_113 rfl (fun h113 => ?_) (fun h113 => ?_)
            · refine go_iconst dX4_advance_120 (R32_lit rfl) ?_
              refine p4_47 dX4_advance_121 ?_
              refine go_goto (tgt := 201) dX4_advance_124 rfl ?_
              refine go_retv dX4_advance_201 ?_
              first
              | (
                 refine ⟨?_, ?_, rfl⟩
                 · have ht : tkS (M (4, 0, 0)) (M (6, 0, 0) 3) x = (2, Q) := by
                     unfold tkS
                     rw [if_neg (by omega), if_pos (by omega), hQ, if_pos (by omega)]
                   show _ = st4 (M (6, 0, 0)) (tkS (M (4, 0, 0)) (M (6, 0, 0) 3) (adP (M (4, 0, 0)) (M (6, 0, 0)))) (adP (M (4, 0, 0)) (M (6, 0, 0)))
                   rw [← hx, ht]
                   rw [upI_wr, u1]
                   exact st4_a
                 · exact hf3.w6)
              | (
                 refine ⟨?_, ?_, rfl⟩
                 · have ht : tkS (M (4, 0, 0)) (M (6, 0, 0) 3) x = (1, Q) := by
                     unfold tkS
                     rw [if_neg (by omega), if_pos (by omega), hQ, if_neg (by omega)]
                   show _ = st4 (M (6, 0, 0)) (tkS (M (4, 0, 0)) (M (6, 0, 0) 3) (adP (M (4, 0, 0)) (M (6, 0, 0)))) (adP (M (4, 0, 0)) (M (6, 0, 0)))
                   rw [← hx, ht]
                   rw [upI_wr, u1]
                   exact st4_a
                 · exact hf3.w6)
              | (
                 refine ⟨?_, ?_, rfl⟩
                 · have ht : tkS (M (4, 0, 0)) (M (6, 0, 0) 3) x = (3, Q) := by
                     unfold tkS
                     rw [if_neg (by omega), if_neg (by omega), if_pos (by omega), hQ, if_pos (by omega)]
                   show _ = st4 (M (6, 0, 0)) (tkS (M (4, 0, 0)) (M (6, 0, 0) 3) (adP (M (4, 0, 0)) (M (6, 0, 0)))) (adP (M (4, 0, 0)) (M (6, 0, 0)))
                   rw [← hx, ht]
                   rw [upI_wr, u1]
                   exact st4_a
                 · exact hf3.w6)
              | (
                 refine ⟨?_, ?_, rfl⟩
                 · have ht : tkS (M (4, 0, 0)) (M (6, 0, 0) 3) x = (1, Q) := by
                     unfold tkS
                     rw [if_neg (by omega), if_neg (by omega), if_pos (by omega), hQ, if_neg (by omega)]
                   show _ = st4 (M (6, 0, 0)) (tkS (M (4, 0, 0)) (M (6, 0, 0) 3) (adP (M (4, 0, 0)) (M (6, 0, 0)))) (adP (M (4, 0, 0)) (M (6, 0, 0)))
                   rw [← hx, ht]
                   rw [upI_wr, u1]
                   exact st4_a
                 · exact hf3.w6)
              | (
                 refine ⟨?_, ?_, rfl⟩
                 · have ht : tkS (M (4, 0, 0)) (M (6, 0, 0) 3) x = (M (4, 0, 0) x, x + 1, 0) := by
                     unfold tkS
                     rw [if_neg (by omega), if_neg (by omega), if_neg (by omega), if_pos (hs.elim (fun z => z.1) (fun z => absurd z.2 (by omega)))]
                   show _ = st4 (M (6, 0, 0)) (tkS (M (4, 0, 0)) (M (6, 0, 0) 3) (adP (M (4, 0, 0)) (M (6, 0, 0)))) (adP (M (4, 0, 0)) (M (6, 0, 0)))
                   rw [← hx, ht]
                   rw [upI_wr, upI_wr, r2]
                   exact st4_b
                 · exact hf2.w6.w6)
              | (
                 refine ⟨?_, ?_, rfl⟩
                 · have ht : tkS (M (4, 0, 0)) (M (6, 0, 0) 3) x = (1, x + 1, 0) := by
                     unfold tkS
                     rw [if_neg (by omega), if_neg (by omega), if_neg (by omega), if_neg (hs.elim (fun z => absurd z.2 (by omega)) (fun z => z.1))]
                   show _ = st4 (M (6, 0, 0)) (tkS (M (4, 0, 0)) (M (6, 0, 0) 3) (adP (M (4, 0, 0)) (M (6, 0, 0)))) (adP (M (4, 0, 0)) (M (6, 0, 0)))
                   rw [← hx, ht]
                   rw [upI_wr, upI_wr, r2]
                   exact st4_b
                 · exact hf2.w6.w6)
            · refine go_iconst dX4_advance_116 (R32_lit rfl) ?_
              refine go_goto (tgt := 121) dX4_advance_117 rfl ?_
              refine p4_47 dX4_advance_121 ?_
              refine go_goto (tgt := 201) dX4_advance_124 rfl ?_
              refine go_retv dX4_advance_201 ?_
              first
              | (
                 refine ⟨?_, ?_, rfl⟩
                 · have ht : tkS (M (4, 0, 0)) (M (6, 0, 0) 3) x = (2, Q) := by
                     unfold tkS
                     rw [if_neg (by omega), if_pos (by omega), hQ, if_pos (by omega)]
                   show _ = st4 (M (6, 0, 0)) (tkS (M (4, 0, 0)) (M (6, 0, 0) 3) (adP (M (4, 0, 0)) (M (6, 0, 0)))) (adP (M (4, 0, 0)) (M (6, 0, 0)))
                   rw [← hx, ht]
                   rw [upI_wr, u1]
                   exact st4_a
                 · exact hf3.w6)
              | (
                 refine ⟨?_, ?_, rfl⟩
                 · have ht : tkS (M (4, 0, 0)) (M (6, 0, 0) 3) x = (1, Q) := by
                     unfold tkS
                     rw [if_neg (by omega), if_pos (by omega), hQ, if_neg (by omega)]
                   show _ = st4 (M (6, 0, 0)) (tkS (M (4, 0, 0)) (M (6, 0, 0) 3) (adP (M (4, 0, 0)) (M (6, 0, 0)))) (adP (M (4, 0, 0)) (M (6, 0, 0)))
                   rw [← hx, ht]
                   rw [upI_wr, u1]
                   exact st4_a
                 · exact hf3.w6)
              | (
                 refine ⟨?_, ?_, rfl⟩
                 · have ht : tkS (M (4, 0, 0)) (M (6, 0, 0) 3) x = (3, Q) := by
                     unfold tkS
                     rw [if_neg (by omega), if_neg (by omega), if_pos (by omega), hQ, if_pos (by omega)]
                   show _ = st4 (M (6, 0, 0)) (tkS (M (4, 0, 0)) (M (6, 0, 0) 3) (adP (M (4, 0, 0)) (M (6, 0, 0)))) (adP (M (4, 0, 0)) (M (6, 0, 0)))
                   rw [← hx, ht]
                   rw [upI_wr, u1]
                   exact st4_a
                 · exact hf3.w6)
              | (
                 refine ⟨?_, ?_, rfl⟩
                 · have ht : tkS (M (4, 0, 0)) (M (6, 0, 0) 3) x = (1, Q) := by
                     unfold tkS
                     rw [if_neg (by omega), if_neg (by omega), if_pos (by omega), hQ, if_neg (by omega)]
                   show _ = st4 (M (6, 0, 0)) (tkS (M (4, 0, 0)) (M (6, 0, 0) 3) (adP (M (4, 0, 0)) (M (6, 0, 0)))) (adP (M (4, 0, 0)) (M (6, 0, 0)))
                   rw [← hx, ht]
                   rw [upI_wr, u1]
                   exact st4_a
                 · exact hf3.w6)
              | (
                 refine ⟨?_, ?_, rfl⟩
                 · have ht : tkS (M (4, 0, 0)) (M (6, 0, 0) 3) x = (M (4, 0, 0) x, x + 1, 0) := by
                     unfold tkS
                     rw [if_neg (by omega), if_neg (by omega), if_neg (by omega), if_pos (hs.elim (fun z => z.1) (fun z => absurd z.2 (by omega)))]
                   show _ = st4 (M (6, 0, 0)) (tkS (M (4, 0, 0)) (M (6, 0, 0) 3) (adP (M (4, 0, 0)) (M (6, 0, 0)))) (adP (M (4, 0, 0)) (M (6, 0, 0)))
                   rw [← hx, ht]
                   rw [upI_wr, upI_wr, r2]
                   exact st4_b
                 · exact hf2.w6.w6)
              | (
                 refine ⟨?_, ?_, rfl⟩
                 · have ht : tkS (M (4, 0, 0)) (M (6, 0, 0) 3) x = (1, x + 1, 0) := by
                     unfold tkS
                     rw [if_neg (by omega), if_neg (by omega), if_neg (by omega), if_neg (hs.elim (fun z => absurd z.2 (by omega)) (fun z => z.1))]
                   show _ = st4 (M (6, 0, 0)) (tkS (M (4, 0, 0)) (M (6, 0, 0) 3) (adP (M (4, 0, 0)) (M (6, 0, 0)))) (adP (M (4, 0, 0)) (M (6, 0, 0)))
                   rw [← hx, ht]
                   rw [upI_wr, upI_wr, r2]
                   exact st4_b
                 · exact hf2.w6.w6)
      · refine go_aload_n dX4_advance_62 rfl rfl ?_
        refine go_iconst dX4_advance_63 (R32_lit rfl) ?_
        refine p4_47 dX4_advance_64 ?_
        refine go_retv dX4_advance_67 ?_
        refine ⟨?_, ?_, rfl⟩
        · have ht : tkS (M (4, 0, 0)) (M (6, 0, 0) 3) x = (0, x, 0) := by
            unfold tkS
            rw [if_pos (by omega)]
          show _ = st4 (M (6, 0, 0)) (tkS (M (4, 0, 0)) (M (6, 0, 0) 3) (adP (M (4, 0, 0)) (M (6, 0, 0)))) (adP (M (4, 0, 0)) (M (6, 0, 0)))
          rw [← hx, ht]
          rw [upI_wr, r2]
          exact st4_c
        · exact hf2.w6
    · refine go_aload_n dX4_advance_25 rfl rfl ?_
      first | refine go_dup_r dX4_advance_26 ?_ | refine go_dup_i dX4_advance_26 ?_
      refine g4_37 dX4_advance_27 ?_
      rw [e7]
      refine go_iconst dX4_advance_30 (R32_lit rfl) ?_
      refine go_iaddc dX4_advance_31 ⟨by omega, by omega⟩ ?_
      refine p4_37 dX4_advance_32 ?_
      refine go_goto (tgt := 0) dX4_advance_35 rfl ?_
      rw [if_pos (by omega)] at es
      exact ih (n - 1) (by omega) (x + 1) _ _ (by omega) (by omega) (by omega) hf.w6 (by
        rw [upI_wr, hr]
        funext j
        unfold upI
        by_cases q7 : j = 7
        · rw [if_pos q7, if_pos q7]
        · rw [if_neg q7, if_neg q7, if_neg q7]) (by rw [← es]; exact he)
set_option maxRecDepth 100000 in
set_option maxHeartbeats 4000000 in
theorem ct_X4_advance {E : Ev} {M : Mm} {N : Nn}  (hT : N (6, 0, 0) 2 = (4, 0, 0)) (e0 : M (6, 0, 0) 3 ≤ 500) (f0 : 0 ≤ M (6, 0, 0) 7) (f1 : M (6, 0, 0) 7 ≤ 500) : Ct E yX4_advance cX4_advance 2 (none) (rmH 2) [vr (6, 0, 0)] M N (qv (fun M1 N1 => M1 (6, 0, 0) = adR (M (4, 0, 0)) (M (6, 0, 0)) ∧ Zf M M1 ∧ N = N1)) := by
  refine ct_of (own := RX4) (L0 := [vr (6, 0, 0), vn]) rfl (by decide +kernel) rfl rfl ?_
  exact lp_X4_advance hT e0 f0 f1 _ _ M _ rfl f0 f1 Zf.rf (by
    funext j
    unfold upI
    by_cases q7 : j = 7
    · rw [if_pos q7, q7]
    · rw [if_neg q7]) rfl
