theorem lxor_neg {a b : Int} (ha : R64 a) (hb : R64 b) (b0 : 0 < b) : lxor a b < 0 ↔ a < 0 := by
  have h1 : ∀ x : Int64, (x.toInt < 0) = (x.toBitVec.msb = true) := by
    intro x
    show (x.toBitVec.toInt < 0) = _
    rw [BitVec.msb_eq_toInt, decide_eq_true_eq]
  have e : (Int64.ofInt a ^^^ Int64.ofInt b).toBitVec = (Int64.ofInt a).toBitVec ^^^ (Int64.ofInt b).toBitVec := rfl
  unfold lxor
  rw [h1, e, BitVec.msb_xor]
  have ea := h1 (Int64.ofInt a)
  have eb := h1 (Int64.ofInt b)
  rw [i64 ha] at ea
  rw [i64 hb] at eb
  have nb : (Int64.ofInt b).toBitVec.msb = false := by
    cases q : (Int64.ofInt b).toBitVec.msb with
    | false => rfl
    | true => rw [q] at eb; exact absurd (eb.mpr rfl) (by omega)
  rw [nb, Bool.xor_false, ea]
theorem fd_q {a b : Int} (b0 : 0 < b) : (0 ≤ a → a.tdiv b = a / b) ∧ (a < 0 → (a.tdiv b * b = a ∧ a.tdiv b = a / b) ∨ (a.tdiv b * b ≠ a ∧ a.tdiv b = a / b + 1)) := by
  have h := Int.tdiv_eq_ediv (a := a) (b := b)
  have hs : Int.sign b = 1 := Int.sign_eq_one_of_pos b0
  refine ⟨fun q => ?_, fun q => ?_⟩
  · rw [if_pos (Or.inl q)] at h; omega
  · by_cases z : b ∣ a
    · rw [if_pos (Or.inr z)] at h
      left
      have : a.tdiv b = a / b := by omega
      refine ⟨?_, this⟩
      rw [this]
      exact Int.ediv_mul_cancel z
    · rw [if_neg (by rintro (y | y); omega; exact z y), hs] at h
      right
      refine ⟨fun y => z ⟨a.tdiv b, by rw [Int.mul_comm]; exact y.symm⟩, h⟩
theorem fd_R {a b : Int} (ha : R64 a) (b0 : 0 < b) : R64 (a.tdiv b) ∧ R64 (a.tdiv b * b) ∧ (a < 0 → a.tdiv b ≤ 0) ∧ R64 (a / b) := by
  have h1 := Int.tdiv_mul_add_tmod a b
  have hm := tmod_R64 (b := b) ha
  obtain ⟨f1, f2⟩ := fd_q (a := a) b0
  have hb1 : a.tdiv b * b = a - a.tmod b := by omega
  have hr : R64 (a.tdiv b * b) ∧ (a < 0 → a.tdiv b ≤ 0) ∧ R64 (a.tdiv b) := by
    by_cases q : 0 ≤ a
    · have m0 := Int.tmod_nonneg b q
      have d0 : 0 ≤ a / b := Int.ediv_nonneg q (by omega)
      have e := f1 q
      have lb : a.tdiv b ≤ a.tdiv b * b := by
        rw [e]
        have := Int.mul_le_mul_of_nonneg_left (show 1 ≤ b by omega) d0
        omega
      unfold R64 at *
      omega
    · have m0 := Int.tmod_nonneg b (show 0 ≤ -a by omega)
      rw [Int.neg_tmod] at m0
      have d0 : 0 ≤ (-a) / b := Int.ediv_nonneg (by omega) (by omega)
      have e : a.tdiv b = -((-a) / b) := by
        have := (fd_q (a := -a) b0).1 (by omega)
        rw [Int.neg_tdiv] at this
        omega
      have lb : (-a) / b ≤ (-a) / b * b := by
        have := Int.mul_le_mul_of_nonneg_left (show 1 ≤ b by omega) d0
        omega
      have e2 : a.tdiv b * b = -((-a) / b * b) := by rw [e, Int.neg_mul]
      unfold R64 at *
      omega
  refine ⟨hr.2.2, hr.1, hr.2.1, ?_⟩
  by_cases q : 0 ≤ a
  · rw [← f1 q]; exact hr.2.2
  · have g := f2 (by omega)
    have l : a ≤ a / b := by
      refine Int.le_ediv_of_mul_le b0 ?_
      have := Int.mul_le_mul_of_nonneg_left (show 1 ≤ b by omega) (show 0 ≤ -a by omega)
      rw [Int.neg_mul, Int.neg_mul] at this
      omega
    have := hr.2.1 (by omega)
    unfold R64 at *
    omega
set_option maxRecDepth 100000 in
set_option maxHeartbeats 4000000 in
theorem ct_J9_floorDiv_f86c9 {E : Ev} {M : Mm} {N : Nn} {a b : Int} (b0 : 0 < b) : Ct E yJ9_floorDiv_f86c9 cJ9_floorDiv_f86c9 6 ((some .long)) (rmH 1) [vl a, vl b] M N (ql (fun r M1 N1 => r = a / b ∧ M = M1 ∧ N = N1)) := by
  refine ct_of (own := RJ9) (L0 := [vl a, vn, vl b, vn, vn, vn]) rfl (by decide +kernel) rfl rfl ?_
  refine go_rg (fun _ hL0 _ => ?_)
  have ha : R64 a := hL0.at (i := 0) rfl
  have hb : R64 b := hL0.at (i := 2) rfl
  obtain ⟨f1, f2⟩ := fd_q (a := a) b0
  obtain ⟨r1, r2, r3, r4⟩ := fd_R ha b0
  have lx := lxor_neg ha hb b0
  refine go_lload_n dJ9_floorDiv_f86c9_0 rfl ?_
  refine go_lload_n dJ9_floorDiv_f86c9_1 rfl ?_
  refine go_ldiv dJ9_floorDiv_f86c9_2 (by omega) ?_
  rw [w64_id r1]
  refine go_nml (fun q eq => ?_)
  rw [← eq] at f1 f2 r1 r2 r3
  refine go_lst4 dJ9_floorDiv_f86c9_3 rfl rfl ?_
  refine go_lload_n dJ9_floorDiv_f86c9_5 rfl ?_
  refine go_lload_n dJ9_floorDiv_f86c9_6 rfl ?_
  refine go_lxor dJ9_floorDiv_f86c9_7 ?_
  refine go_lconst (x := 0) dJ9_floorDiv_f86c9_8 rfl ?_
  refine go_lcmp_ge (tgt := 27) dJ9_floorDiv_f86c9_9 dJ9_floorDiv_f86c9_10 rfl (fun h9 => ?_) (fun h9 => ?_)
  · refine go_lload dJ9_floorDiv_f86c9_27 rfl ?_
    refine go_retl dJ9_floorDiv_f86c9_29 ?_
    refine ⟨?_, rfl, rfl⟩
    by_cases z : 0 ≤ a
    · exact f1 z
    · have := f2 (by omega)
      omega
  · refine go_lload dJ9_floorDiv_f86c9_13 rfl ?_
    refine go_lload_n dJ9_floorDiv_f86c9_15 rfl ?_
    refine go_lmul dJ9_floorDiv_f86c9_16 ?_
    rw [w64_id r2]
    refine go_lload_n dJ9_floorDiv_f86c9_17 rfl ?_
    refine go_lcmp_eq (tgt := 27) dJ9_floorDiv_f86c9_18 dJ9_floorDiv_f86c9_19 rfl (fun h18 => ?_) (fun h18 => ?_)
    · refine go_lload dJ9_floorDiv_f86c9_27 rfl ?_
      refine go_retl dJ9_floorDiv_f86c9_29 ?_
      refine ⟨?_, rfl, rfl⟩
      by_cases z : 0 ≤ a
      · exact f1 z
      · have := f2 (by omega)
        omega
    · refine go_lload dJ9_floorDiv_f86c9_22 rfl ?_
      refine go_lconst (x := 1) dJ9_floorDiv_f86c9_24 rfl ?_
      refine go_lsubc dJ9_floorDiv_f86c9_25 (by have := f2 (by omega); unfold R64 at *; omega) ?_
      refine go_retl dJ9_floorDiv_f86c9_26 ?_
      exact ⟨by have := f2 (by omega); omega, rfl, rfl⟩
theorem rnd_lo {n k : Int} (hr : R64 n) (k0 : 0 ≤ k) (k1 : k ≤ 8) : -9223372036854775808 ≤ n - n % p2 k ∧ n - n % p2 k = n / p2 k * p2 k := by
  have hr1 := hr.1
  have hk9 : k = 0 ∨ k = 1 ∨ k = 2 ∨ k = 3 ∨ k = 4 ∨ k = 5 ∨ k = 6 ∨ k = 7 ∨ k = 8 := by omega
  rcases hk9 with rfl | rfl | rfl | rfl | rfl | rfl | rfl | rfl | rfl
  · show _ ≤ n - n % 1 ∧ n - n % 1 = n / 1 * 1; omega
  · show _ ≤ n - n % 2 ∧ n - n % 2 = n / 2 * 2; omega
  · show _ ≤ n - n % 4 ∧ n - n % 4 = n / 4 * 4; omega
  · show _ ≤ n - n % 8 ∧ n - n % 8 = n / 8 * 8; omega
  · show _ ≤ n - n % 16 ∧ n - n % 16 = n / 16 * 16; omega
  · show _ ≤ n - n % 32 ∧ n - n % 32 = n / 32 * 32; omega
  · show _ ≤ n - n % 64 ∧ n - n % 64 = n / 64 * 64; omega
  · show _ ≤ n - n % 128 ∧ n - n % 128 = n / 128 * 128; omega
  · show _ ≤ n - n % 256 ∧ n - n % 256 = n / 256 * 256; omega
theorem tmod2_odd {x : Int} : x.tmod 2 ≠ 0 ↔ x % 2 = 1 := by
  rw [Int.tmod_eq_emod]
  split
  · omega
  · rename_i q
    have hs : Int.natAbs 2 = 2 := rfl
    constructor
    · intro h
      by_cases z : x % 2 = 1
      · exact z
      · exfalso
        have z0 : x % 2 = 0 := by omega
        exact q (Or.inr (Int.dvd_of_emod_eq_zero z0))
    · intro h; omega
set_option maxRecDepth 100000 in
set_option maxHeartbeats 4000000 in
theorem ct_X8_rounded {E : Ev} {M : Mm} {N : Nn} {n k : Int} (k0 : 0 ≤ k) (k1 : k ≤ 8) : Ct E yX8_rounded cX8_rounded 10 ((some .long)) (rmH 2) [vl n, vi k] M N (ql (fun r M1 N1 => r = rndS n k ∧ M = M1 ∧ N = N1)) := by
  refine ct_of (own := RX8) (L0 := [vl n, vn, vi k, vn, vn, vn, vn, vn, vn, vn]) rfl (by decide +kernel) rfl rfl ?_
  refine go_rg (fun _ hL0 _ => ?_)
  have hr : R64 n := hL0.head
  have hp := p2_bd k0 k1
  have hm : 0 ≤ n % p2 k ∧ n % p2 k < p2 k := ⟨Int.emod_nonneg _ (by omega), Int.emod_lt_of_pos _ (by omega)⟩
  obtain ⟨lo, mu⟩ := rnd_lo hr k0 k1
  have hr2 := hr.2
  refine go_iload_n dX8_rounded_0 rfl ?_
  refine go_if_ne (tgt := 6) dX8_rounded_1 rfl (fun h1 => ?_) (fun h1 => ?_)
  · refine go_lconst (x := 1) dX8_rounded_6 rfl ?_
    refine go_iload_n dX8_rounded_7 rfl ?_
    refine go_lshl dX8_rounded_8 ?_
    rw [lshl_p2 k0 k1]
    refine go_lst3 dX8_rounded_9 rfl rfl ?_
    refine go_lload_n dX8_rounded_10 rfl ?_
    refine go_lload_n dX8_rounded_11 rfl ?_
    refine v8_322 dX8_rounded_12 rfl ⟨rfl, rfl⟩ ⟨rfl, rfl⟩ (ct_J9_floorDiv_f86c9 (by omega)) (fun r1 M1 N1 hr1 hq1 => ?_)
    obtain ⟨z1, rfl, rfl⟩ := hq1
    subst z1
    refine go_lst5 dX8_rounded_15 rfl rfl ?_
    refine go_lload_n dX8_rounded_17 rfl ?_
    refine go_lload dX8_rounded_18 rfl ?_
    refine go_lload_n dX8_rounded_20 rfl ?_
    refine go_lmul dX8_rounded_21 ?_
    refine go_lsub dX8_rounded_22 ?_
    rw [w64_sub', ← mu, show n - (n - n % p2 k) = n % p2 k by omega, w64_id ⟨by omega, by omega⟩]
    refine go_nml (fun ov eov => ?_)
    rw [← eov] at hm
    have odd := tmod2_odd (x := n / p2 k)
    refine go_lst7 dX8_rounded_23 rfl rfl ?_
    refine c8_255 dX8_rounded_25 ?_
    refine go_lload dX8_rounded_28 rfl ?_
    refine go_lmulc dX8_rounded_30 ⟨by omega, by omega⟩ ?_
    refine go_lload_n dX8_rounded_31 rfl ?_
    refine go_lcmp_gt (tgt := 58) dX8_rounded_32 dX8_rounded_33 rfl (fun h32 => ?_) (fun h32 => ?_)
    · refine go_iconst dX8_rounded_58 (R32_lit rfl) ?_
      refine go_goto (tgt := 63) dX8_rounded_59 rfl ?_
      refine go_ist9 dX8_rounded_63 rfl rfl ?_
      refine go_iload dX8_rounded_65 rfl ?_
      refine go_if_eq (tgt := 77) dX8_rounded_67 rfl (fun h67 => ?_) (fun h67 => ?_)
      · refine go_lload dX8_rounded_77 rfl ?_
        refine go_nml (fun u eu => ?_)
        refine go_lload_n dX8_rounded_79 rfl ?_
        refine go_lmul dX8_rounded_80 ?_
        refine go_retl dX8_rounded_81 ?_
        refine ⟨?_, rfl, rfl⟩
        unfold rndS
        first
        | (rw [if_pos (by omega), eu, w64_mul, show (n / p2 k + 1) * p2 k = n - n % p2 k + p2 k by rw [Int.add_mul, Int.one_mul]; omega]; done)
        | (rw [if_neg (by omega), eu, ← mu, w64_id ⟨lo, by omega⟩]; done)
        | (exfalso; omega)
      · refine go_lload dX8_rounded_70 rfl ?_
        refine go_lconst (x := 1) dX8_rounded_72 rfl ?_
        refine go_ladd dX8_rounded_73 ?_
        refine go_goto (tgt := 79) dX8_rounded_74 rfl ?_
        refine go_nml (fun u eu => ?_)
        refine go_lload_n dX8_rounded_79 rfl ?_
        refine go_lmul dX8_rounded_80 ?_
        refine go_retl dX8_rounded_81 ?_
        refine ⟨?_, rfl, rfl⟩
        unfold rndS
        first
        | (rw [if_pos (by omega), eu, w64_mul, show (n / p2 k + 1) * p2 k = n - n % p2 k + p2 k by rw [Int.add_mul, Int.one_mul]; omega]; done)
        | (rw [if_neg (by omega), eu, ← mu, w64_id ⟨lo, by omega⟩]; done)
        | (exfalso; omega)
    · refine c8_255 dX8_rounded_36 ?_
      refine go_lload dX8_rounded_39 rfl ?_
      refine go_lmulc dX8_rounded_41 ⟨by omega, by omega⟩ ?_
      refine go_lload_n dX8_rounded_42 rfl ?_
      refine go_lcmp_ne (tgt := 62) dX8_rounded_43 dX8_rounded_44 rfl (fun h43 => ?_) (fun h43 => ?_)
      · refine go_iconst dX8_rounded_62 (R32_lit rfl) ?_
        refine go_ist9 dX8_rounded_63 rfl rfl ?_
        refine go_iload dX8_rounded_65 rfl ?_
        refine go_if_eq (tgt := 77) dX8_rounded_67 rfl (fun h67 => ?_) (fun h67 => ?_)
        · refine go_lload dX8_rounded_77 rfl ?_
          refine go_nml (fun u eu => ?_)
          refine go_lload_n dX8_rounded_79 rfl ?_
          refine go_lmul dX8_rounded_80 ?_
          refine go_retl dX8_rounded_81 ?_
          refine ⟨?_, rfl, rfl⟩
          unfold rndS
          first
          | (rw [if_pos (by omega), eu, w64_mul, show (n / p2 k + 1) * p2 k = n - n % p2 k + p2 k by rw [Int.add_mul, Int.one_mul]; omega]; done)
          | (rw [if_neg (by omega), eu, ← mu, w64_id ⟨lo, by omega⟩]; done)
          | (exfalso; omega)
        · refine go_lload dX8_rounded_70 rfl ?_
          refine go_lconst (x := 1) dX8_rounded_72 rfl ?_
          refine go_ladd dX8_rounded_73 ?_
          refine go_goto (tgt := 79) dX8_rounded_74 rfl ?_
          refine go_nml (fun u eu => ?_)
          refine go_lload_n dX8_rounded_79 rfl ?_
          refine go_lmul dX8_rounded_80 ?_
          refine go_retl dX8_rounded_81 ?_
          refine ⟨?_, rfl, rfl⟩
          unfold rndS
          first
          | (rw [if_pos (by omega), eu, w64_mul, show (n / p2 k + 1) * p2 k = n - n % p2 k + p2 k by rw [Int.add_mul, Int.one_mul]; omega]; done)
          | (rw [if_neg (by omega), eu, ← mu, w64_id ⟨lo, by omega⟩]; done)
          | (exfalso; omega)
      · refine go_lload dX8_rounded_47 rfl ?_
        refine c8_255 dX8_rounded_49 ?_
        refine go_lrem dX8_rounded_52 (by decide) ?_
        refine go_lconst (x := 0) dX8_rounded_53 rfl ?_
        refine go_lcmp_eq (tgt := 62) dX8_rounded_54 dX8_rounded_55 rfl (fun h54 => ?_) (fun h54 => ?_)
        · refine go_iconst dX8_rounded_62 (R32_lit rfl) ?_
          refine go_ist9 dX8_rounded_63 rfl rfl ?_
          refine go_iload dX8_rounded_65 rfl ?_
          refine go_if_eq (tgt := 77) dX8_rounded_67 rfl (fun h67 => ?_) (fun h67 => ?_)
          · refine go_lload dX8_rounded_77 rfl ?_
            refine go_nml (fun u eu => ?_)
            refine go_lload_n dX8_rounded_79 rfl ?_
            refine go_lmul dX8_rounded_80 ?_
            refine go_retl dX8_rounded_81 ?_
            refine ⟨?_, rfl, rfl⟩
            unfold rndS
            first
            | (rw [if_pos (by omega), eu, w64_mul, show (n / p2 k + 1) * p2 k = n - n % p2 k + p2 k by rw [Int.add_mul, Int.one_mul]; omega]; done)
            | (rw [if_neg (by omega), eu, ← mu, w64_id ⟨lo, by omega⟩]; done)
            | (exfalso; omega)
          · refine go_lload dX8_rounded_70 rfl ?_
            refine go_lconst (x := 1) dX8_rounded_72 rfl ?_
            refine go_ladd dX8_rounded_73 ?_
            refine go_goto (tgt := 79) dX8_rounded_74 rfl ?_
            refine go_nml (fun u eu => ?_)
            refine go_lload_n dX8_rounded_79 rfl ?_
            refine go_lmul dX8_rounded_80 ?_
            refine go_retl dX8_rounded_81 ?_
            refine ⟨?_, rfl, rfl⟩
            unfold rndS
            first
            | (rw [if_pos (by omega), eu, w64_mul, show (n / p2 k + 1) * p2 k = n - n % p2 k + p2 k by rw [Int.add_mul, Int.one_mul]; omega]; done)
            | (rw [if_neg (by omega), eu, ← mu, w64_id ⟨lo, by omega⟩]; done)
            | (exfalso; omega)
        · refine go_iconst dX8_rounded_58 (R32_lit rfl) ?_
          refine go_goto (tgt := 63) dX8_rounded_59 rfl ?_
          refine go_ist9 dX8_rounded_63 rfl rfl ?_
          refine go_iload dX8_rounded_65 rfl ?_
          refine go_if_eq (tgt := 77) dX8_rounded_67 rfl (fun h67 => ?_) (fun h67 => ?_)
          · refine go_lload dX8_rounded_77 rfl ?_
            refine go_nml (fun u eu => ?_)
            refine go_lload_n dX8_rounded_79 rfl ?_
            refine go_lmul dX8_rounded_80 ?_
            refine go_retl dX8_rounded_81 ?_
            refine ⟨?_, rfl, rfl⟩
            unfold rndS
            first
            | (rw [if_pos (by omega), eu, w64_mul, show (n / p2 k + 1) * p2 k = n - n % p2 k + p2 k by rw [Int.add_mul, Int.one_mul]; omega]; done)
            | (rw [if_neg (by omega), eu, ← mu, w64_id ⟨lo, by omega⟩]; done)
            | (exfalso; omega)
          · refine go_lload dX8_rounded_70 rfl ?_
            refine go_lconst (x := 1) dX8_rounded_72 rfl ?_
            refine go_ladd dX8_rounded_73 ?_
            refine go_goto (tgt := 79) dX8_rounded_74 rfl ?_
            refine go_nml (fun u eu => ?_)
            refine go_lload_n dX8_rounded_79 rfl ?_
            refine go_lmul dX8_rounded_80 ?_
            refine go_retl dX8_rounded_81 ?_
            refine ⟨?_, rfl, rfl⟩
            unfold rndS
            first
            | (rw [if_pos (by omega), eu, w64_mul, show (n / p2 k + 1) * p2 k = n - n % p2 k + p2 k by rw [Int.add_mul, Int.one_mul]; omega]; done)
            | (rw [if_neg (by omega), eu, ← mu, w64_id ⟨lo, by omega⟩]; done)
            | (exfalso; omega)
  · refine go_lload_n dX8_rounded_4 rfl ?_
    refine go_retl dX8_rounded_5 ?_
    refine ⟨?_, rfl, rfl⟩
    subst h1
    unfold rndS
    rw [show p2 0 = 1 from rfl, if_neg (by omega)]
    omega
set_option maxRecDepth 100000 in
set_option maxHeartbeats 4000000 in
theorem ct_X8_told {E : Ev} {M : Mm} {N : Nn} {S : Pg} {n v k : Int} {a : Nat} (hP : PR 0 n S M) (v0 : 0 ≤ v) (v1 : v < n) (n5 : n ≤ 15) (hs : S 0 v ≠ -2) (w : WFr S v) (k0 : 0 ≤ k) (k1 : k < opn S v) (ha : shp (30, 0, a) = (22, 15)) : Ct E yX8_told cX8_told 5 ((some .long)) (rmH 1) [vr (29, 0, 0), vr (30, 0, a), vi v, vi k] M N (ql (fun r M1 N1 => r = opE S (M (30, 0, a)) v k ∧ M = M1 ∧ N = N1)) := by
  refine ct_of (own := RX8) (L0 := [vr (29, 0, 0), vr (30, 0, a), vi v, vi k, vn]) rfl (by decide +kernel) rfl rfl ?_
  obtain ⟨p1, p2⟩ := (hP v v0 v1).2.2.2 hs k k0 k1
  rw [Int.zero_add] at p1 p2
  have o4 := opn_le S v
  have ww := (w.2 hs).2.2.2.2 k k0 k1
  unfold WFo at ww
  refine go_aload_n dX8_told_0 rfl rfl ?_
  refine g8_31 dX8_told_1 ?_
  refine go_iconst dX8_told_4 (R32_lit rfl) ?_
  refine go_iload_n dX8_told_5 rfl ?_
  refine go_imulc dX8_told_6 ⟨by omega, by omega⟩ ?_
  refine go_iload_n dX8_told_7 rfl ?_
  refine go_iaddc dX8_told_8 ⟨by omega, by omega⟩ ?_
  refine go_iald dX8_told_9 rfl (by omega) (by omega) ?_
  rw [p1]
  refine go_ist4 dX8_told_10 rfl rfl ?_
  refine go_iload dX8_told_12 rfl ?_
  refine go_bipush dX8_told_14 ⟨by decide, by decide⟩ ?_
  refine go_icmp_ne (tgt := 33) dX8_told_16 rfl (fun h16 => ?_) (fun h16 => ?_)
  · refine go_aload_n dX8_told_33 rfl rfl ?_
    refine go_iload dX8_told_34 rfl ?_
    refine go_lald dX8_told_36 ha (by omega) (by omega) ?_
    refine go_retl dX8_told_37 ?_
    refine ⟨?_, rfl, rfl⟩
    unfold opE
    first
    | (rw [if_pos (by omega)]; done)
    | (rw [if_neg (by omega)]; done)
  · refine go_aload_n dX8_told_19 rfl rfl ?_
    refine g8_34 dX8_told_20 ?_
    refine go_iconst dX8_told_23 (R32_lit rfl) ?_
    refine go_iload_n dX8_told_24 rfl ?_
    refine go_imulc dX8_told_25 ⟨by omega, by omega⟩ ?_
    refine go_iload_n dX8_told_26 rfl ?_
    refine go_iaddc dX8_told_27 ⟨by omega, by omega⟩ ?_
    refine go_iald dX8_told_28 rfl (by omega) (by omega) ?_
    rw [(p2 (by omega)).2]
    refine go_i2l dX8_told_29 ?_
    refine go_goto (tgt := 37) dX8_told_30 rfl ?_
    refine go_retl dX8_told_37 ?_
    refine ⟨?_, rfl, rfl⟩
    unfold opE
    first
    | (rw [if_pos (by omega)]; done)
    | (rw [if_neg (by omega)]; done)
set_option maxRecDepth 100000 in
set_option maxHeartbeats 4000000 in
theorem ct_X8_reckoned {E : Ev} {M : Mm} {N : Nn} {S : Pg} {n v : Int} {a : Nat} (hP : PR 0 n S M) (v0 : 0 ≤ v) (v1 : v < n) (n5 : n ≤ 15) (hs : S 0 v ≠ -2) (w : WFr S v) (ha : shp (30, 0, a) = (22, 15)) : Ct E yX8_reckoned cX8_reckoned 3 ((some .long)) (rmH 2) [vr (29, 0, 0), vr (30, 0, a), vi v] M N (ql (fun r M1 N1 => r = unS S (M (30, 0, a)) v ∧ M = M1 ∧ N = N1)) := by
  refine ct_of (own := RX8) (L0 := [vr (29, 0, 0), vr (30, 0, a), vi v]) rfl (by decide +kernel) rfl rfl ?_
  have sr := (hP v v0 v1).1
  rw [Int.zero_add] at sr
  have og := opn_ge S v
  have g := w.2 hs
  refine go_aload_n dX8_reckoned_0 rfl rfl ?_
  refine g8_19 dX8_reckoned_1 ?_
  refine go_iload_n dX8_reckoned_4 rfl ?_
  refine go_iald dX8_reckoned_5 rfl (by omega) (by omega) ?_
  rw [sr]
  by_cases c0 : S 0 v = 0
  · refine go_tableIn (tgt := 32) dX8_reckoned_6 (by omega) (by omega) (by rw [c0]; rfl) rfl ?_
    refine go_aload_n dX8_reckoned_32 rfl rfl ?_
    refine go_aload_n dX8_reckoned_33 rfl rfl ?_
    refine go_iload_n dX8_reckoned_34 rfl ?_
    refine go_iconst dX8_reckoned_35 (R32_lit rfl) ?_
    refine v8_328 dX8_reckoned_36 rfl ⟨rfl, rfl⟩ ⟨rfl, rfl⟩ (ct_X8_told hP v0 v1 n5 hs w (by decide) (by omega) ha) (fun r1 M1 N1 hr1 hq1 => ?_)
    obtain ⟨z1, rfl, rfl⟩ := hq1
    subst z1
    refine go_aload_n dX8_reckoned_39 rfl rfl ?_
    refine go_aload_n dX8_reckoned_40 rfl rfl ?_
    refine go_iload_n dX8_reckoned_41 rfl ?_
    refine go_iconst dX8_reckoned_42 (R32_lit rfl) ?_
    refine v8_328 dX8_reckoned_43 rfl ⟨rfl, rfl⟩ ⟨rfl, rfl⟩ (ct_X8_told hP v0 v1 n5 hs w (by decide) (by omega) ha) (fun r2 M2 N2 hr2 hq2 => ?_)
    obtain ⟨z2, rfl, rfl⟩ := hq2
    subst z2
    refine go_ladd dX8_reckoned_46 ?_
    refine go_retl dX8_reckoned_47 ?_
    refine ⟨?_, rfl, rfl⟩
    unfold unS
    first
    | (rw [if_pos (by omega)]; done)
    | (rw [if_neg (by omega), if_pos (by omega)]; done)
    | (rw [if_neg (by omega), if_neg (by omega), if_pos (by omega)]; done)
    | (rw [if_neg (by omega), if_neg (by omega), if_neg (by omega), if_pos (by omega)]; done)
    | (rw [if_neg (by omega), if_neg (by omega), if_neg (by omega), if_neg (by omega)]; done)
  · by_cases c1 : S 0 v = 1
    · refine go_tableIn (tgt := 48) dX8_reckoned_6 (by omega) (by omega) (by rw [c1]; rfl) rfl ?_
      refine go_aload_n dX8_reckoned_48 rfl rfl ?_
      refine go_aload_n dX8_reckoned_49 rfl rfl ?_
      refine go_iload_n dX8_reckoned_50 rfl ?_
      refine go_iconst dX8_reckoned_51 (R32_lit rfl) ?_
      refine v8_328 dX8_reckoned_52 rfl ⟨rfl, rfl⟩ ⟨rfl, rfl⟩ (ct_X8_told hP v0 v1 n5 hs w (by decide) (by omega) ha) (fun r1 M1 N1 hr1 hq1 => ?_)
      obtain ⟨z1, rfl, rfl⟩ := hq1
      subst z1
      refine go_aload_n dX8_reckoned_55 rfl rfl ?_
      refine go_aload_n dX8_reckoned_56 rfl rfl ?_
      refine go_iload_n dX8_reckoned_57 rfl ?_
      refine go_iconst dX8_reckoned_58 (R32_lit rfl) ?_
      refine v8_328 dX8_reckoned_59 rfl ⟨rfl, rfl⟩ ⟨rfl, rfl⟩ (ct_X8_told hP v0 v1 n5 hs w (by decide) (by omega) ha) (fun r2 M2 N2 hr2 hq2 => ?_)
      obtain ⟨z2, rfl, rfl⟩ := hq2
      subst z2
      refine go_lsub dX8_reckoned_62 ?_
      refine go_retl dX8_reckoned_63 ?_
      refine ⟨?_, rfl, rfl⟩
      unfold unS
      first
      | (rw [if_pos (by omega)]; done)
      | (rw [if_neg (by omega), if_pos (by omega)]; done)
      | (rw [if_neg (by omega), if_neg (by omega), if_pos (by omega)]; done)
      | (rw [if_neg (by omega), if_neg (by omega), if_neg (by omega), if_pos (by omega)]; done)
      | (rw [if_neg (by omega), if_neg (by omega), if_neg (by omega), if_neg (by omega)]; done)
    · by_cases c2 : S 0 v = 2
      · refine go_tableIn (tgt := 64) dX8_reckoned_6 (by omega) (by omega) (by rw [c2]; rfl) rfl ?_
        refine go_aload_n dX8_reckoned_64 rfl rfl ?_
        refine go_aload_n dX8_reckoned_65 rfl rfl ?_
        refine go_iload_n dX8_reckoned_66 rfl ?_
        refine go_iconst dX8_reckoned_67 (R32_lit rfl) ?_
        refine v8_328 dX8_reckoned_68 rfl ⟨rfl, rfl⟩ ⟨rfl, rfl⟩ (ct_X8_told hP v0 v1 n5 hs w (by decide) (by omega) ha) (fun r1 M1 N1 hr1 hq1 => ?_)
        obtain ⟨z1, rfl, rfl⟩ := hq1
        subst z1
        refine go_aload_n dX8_reckoned_71 rfl rfl ?_
        refine go_aload_n dX8_reckoned_72 rfl rfl ?_
        refine go_iload_n dX8_reckoned_73 rfl ?_
        refine go_iconst dX8_reckoned_74 (R32_lit rfl) ?_
        refine v8_328 dX8_reckoned_75 rfl ⟨rfl, rfl⟩ ⟨rfl, rfl⟩ (ct_X8_told hP v0 v1 n5 hs w (by decide) (by omega) ha) (fun r2 M2 N2 hr2 hq2 => ?_)
        obtain ⟨z2, rfl, rfl⟩ := hq2
        subst z2
        refine go_lmul dX8_reckoned_78 ?_
        refine go_retl dX8_reckoned_79 ?_
        refine ⟨?_, rfl, rfl⟩
        unfold unS
        first
        | (rw [if_pos (by omega)]; done)
        | (rw [if_neg (by omega), if_pos (by omega)]; done)
        | (rw [if_neg (by omega), if_neg (by omega), if_pos (by omega)]; done)
        | (rw [if_neg (by omega), if_neg (by omega), if_neg (by omega), if_pos (by omega)]; done)
        | (rw [if_neg (by omega), if_neg (by omega), if_neg (by omega), if_neg (by omega)]; done)
      · refine go_tableOut (tgt := 80) dX8_reckoned_6 (by omega) rfl ?_
        refine go_aload_n dX8_reckoned_80 rfl rfl ?_
        refine go_aload_n dX8_reckoned_81 rfl rfl ?_
        refine go_iload_n dX8_reckoned_82 rfl ?_
        refine go_iconst dX8_reckoned_83 (R32_lit rfl) ?_
        refine v8_328 dX8_reckoned_84 rfl ⟨rfl, rfl⟩ ⟨rfl, rfl⟩ (ct_X8_told hP v0 v1 n5 hs w (by decide) (by omega) ha) (fun r1 M1 N1 hr1 hq1 => ?_)
        obtain ⟨z1, rfl, rfl⟩ := hq1
        subst z1
        refine go_aload_n dX8_reckoned_87 rfl rfl ?_
        refine go_aload_n dX8_reckoned_88 rfl rfl ?_
        refine go_iload_n dX8_reckoned_89 rfl ?_
        refine go_iconst dX8_reckoned_90 (R32_lit rfl) ?_
        refine v8_328 dX8_reckoned_91 rfl ⟨rfl, rfl⟩ ⟨rfl, rfl⟩ (ct_X8_told hP v0 v1 n5 hs w (by decide) (by omega) ha) (fun r2 M2 N2 hr2 hq2 => ?_)
        obtain ⟨z2, rfl, rfl⟩ := hq2
        subst z2
        refine go_lcmp_ge (tgt := 108) dX8_reckoned_94 dX8_reckoned_95 rfl (fun h94 => ?_) (fun h94 => ?_)
        · refine go_aload_n dX8_reckoned_108 rfl rfl ?_
          refine go_aload_n dX8_reckoned_109 rfl rfl ?_
          refine go_iload_n dX8_reckoned_110 rfl ?_
          refine go_iconst dX8_reckoned_111 (R32_lit rfl) ?_
          refine v8_328 dX8_reckoned_112 rfl ⟨rfl, rfl⟩ ⟨rfl, rfl⟩ (ct_X8_told hP v0 v1 n5 hs w (by decide) (by rw [opn_3 (by omega)]; decide) ha) (fun r3 M3 N3 hr3 hq3 => ?_)
          obtain ⟨z3, rfl, rfl⟩ := hq3
          subst z3
          refine go_retl dX8_reckoned_115 ?_
          refine ⟨?_, rfl, rfl⟩
          unfold unS
          first
          | (rw [if_pos (by omega)]; done)
          | (rw [if_neg (by omega), if_pos (by omega)]; done)
          | (rw [if_neg (by omega), if_neg (by omega), if_pos (by omega)]; done)
          | (rw [if_neg (by omega), if_neg (by omega), if_neg (by omega), if_pos (by omega)]; done)
          | (rw [if_neg (by omega), if_neg (by omega), if_neg (by omega), if_neg (by omega)]; done)
        · refine go_aload_n dX8_reckoned_98 rfl rfl ?_
          refine go_aload_n dX8_reckoned_99 rfl rfl ?_
          refine go_iload_n dX8_reckoned_100 rfl ?_
          refine go_iconst dX8_reckoned_101 (R32_lit rfl) ?_
          refine v8_328 dX8_reckoned_102 rfl ⟨rfl, rfl⟩ ⟨rfl, rfl⟩ (ct_X8_told hP v0 v1 n5 hs w (by decide) (by rw [opn_3 (by omega)]; decide) ha) (fun r3 M3 N3 hr3 hq3 => ?_)
          refine go_goto (tgt := 115) dX8_reckoned_105 rfl ?_
          obtain ⟨z3, rfl, rfl⟩ := hq3
          subst z3
          refine go_retl dX8_reckoned_115 ?_
          refine ⟨?_, rfl, rfl⟩
          unfold unS
          first
          | (rw [if_pos (by omega)]; done)
          | (rw [if_neg (by omega), if_pos (by omega)]; done)
          | (rw [if_neg (by omega), if_neg (by omega), if_pos (by omega)]; done)
          | (rw [if_neg (by omega), if_neg (by omega), if_neg (by omega), if_pos (by omega)]; done)
          | (rw [if_neg (by omega), if_neg (by omega), if_neg (by omega), if_neg (by omega)]; done)
theorem opE_tab {S : Pg} {a b : Int → Int} {v k : Int} (w : WFo S v (4 * v + k)) (h : ∀ u, 0 ≤ u → u < v → a u = b u) : opE S a v k = opE S b v k := opE_congr (fun q => h _ q (w.1 q))
theorem unS_tab {S : Pg} {a b : Int → Int} {v : Int} (w : WFr S v) (hs : S 0 v ≠ -2) (h : ∀ u, 0 ≤ u → u < v → a u = b u) : unS S a v = unS S b v := unS_congr ⟨(w.2 hs).1, (w.2 hs).2.1⟩ (fun k k0 k1 q => h _ q (((w.2 hs).2.2.2.2 k k0 k1).1 q))
set_option maxRecDepth 100000 in
set_option maxHeartbeats 4000000 in
theorem lp_X8_reckons {E : Ev} {M : Mm} {N : Nn} {S : Pg} (hQ : QR S M) (hw : ∀ v, 0 ≤ v → v < S 11 0 → WFr S v) : ∀ (n : Nat) (v : Int) (M2 : Mm), (v + n = S 11 0) → (0 ≤ v) → (∀ u, 0 ≤ u → u < v → M2 (30, 0, 30) u = tbE S (M (30, 0, 32)) v.toNat u ∧ M2 (30, 0, 31) u = tbC S (M (30, 0, 32)) v.toNat u) → (Kr [] [30, 31] M M2) → Go E RX8 cX8_reckons 2 (none) (rmH 3) 0 0 (zM E (qv (fun M1 N1 => (∀ w, 0 ≤ w → w < S 11 0 → M1 (30, 0, 30) w = tbE S (M (30, 0, 32)) (S 11 0).toNat w ∧ M1 (30, 0, 31) w = tbC S (M (30, 0, 32)) (S 11 0).toNat w) ∧ Kr [] [30, 31] M M1 ∧ N = N1))) 2 [vr (29, 0, 0), vi v] [] M2 N := by
  intro n
  induction n using Nat.strongRecOn with
  | ind n ih =>
  intro v M2 hn v0 hu hf
  have P2 : PR 0 (S 11 0) S M2 := hQ.2.2.2.2.k (hf.a 7 (by decide)) (hf.a 8 (by decide)) (hf.a 9 (by decide)) (hf.a 10 (by decide)) (hf.a 11 (by decide)) (hf.a 12 (by decide))
  have c6 : M2 (29, 0, 0) 6 = S 11 0 := by rw [hf.s 6 (by decide)]; exact hQ.1
  have c5 := hQ.2.2.1
  have a32 : M2 (30, 0, 32) = M (30, 0, 32) := hf.a 32 (by decide)
  refine go_iload_n dX8_reckons_2 rfl ?_
  refine go_aload_n dX8_reckons_3 rfl rfl ?_
  refine g8_259 dX8_reckons_4 ?_
  rw [c6]
  refine go_icmp_ge (tgt := 96) dX8_reckons_7 rfl (fun h7 => ?_) (fun h7 => ?_)
  · refine go_retv dX8_reckons_96 ?_
    exact ⟨fun u u0 u1 => by rw [show S 11 0 = v by omega]; exact hu u u0 (by omega), hf, rfl⟩
  · have h7 : v < S 11 0 := by omega
    obtain ⟨q1, q2, q3, q4⟩ := P2 v v0 h7
    rw [Int.zero_add] at q1 q2
    refine go_aload_n dX8_reckons_10 rfl rfl ?_
    refine g8_19 dX8_reckons_11 ?_
    refine go_iload_n dX8_reckons_14 rfl ?_
    refine go_iald dX8_reckons_15 rfl (by omega) (by omega) ?_
    rw [q1]
    refine v8_248 dX8_reckons_16 rfl ⟨rfl, rfl⟩ ⟨rfl, rfl⟩ ct_X8_isInput (fun r1 M1 N1 hr1 hq1 => ?_)
    obtain ⟨z1, rfl, rfl⟩ := hq1
    have z1 := bit_iff z1
    refine go_if_eq (tgt := 51) dX8_reckons_19 rfl (fun h19 => ?_) (fun h19 => ?_)
    · have hns : S 0 v ≠ -2 := by omega
      have gg := (hw v v0 h7).2 hns
      refine go_aload_n dX8_reckons_51 rfl rfl ?_
      refine g8_56 dX8_reckons_52 ?_
      refine go_iload_n dX8_reckons_55 rfl ?_
      refine go_aload_n dX8_reckons_56 rfl rfl ?_
      refine go_aload_n dX8_reckons_57 rfl rfl ?_
      refine g8_56 dX8_reckons_58 ?_
      refine go_iload_n dX8_reckons_61 rfl ?_
      refine v8_332 dX8_reckons_62 rfl ⟨rfl, rfl⟩ ⟨rfl, rfl⟩ (ct_X8_reckoned (S := S) (n := S 11 0) P2 v0 h7 c5 hns (hw v v0 h7) rfl) (fun r2 M3 N3 hr2 hq2 => ?_)
      obtain ⟨y1, rfl, rfl⟩ := hq2
      rw [unS_tab (hw v v0 h7) hns (fun u u0 u1 => (hu u u0 u1).1)] at y1
      refine go_last dX8_reckons_65 rfl (by omega) (by omega) ?_
      refine go_nmM (fun Mx eMx => ?_)
      have P3 : PR 0 (S 11 0) S Mx := by rw [eMx]; exact P2.k (wr_nf (nm_ne3 (by decide))) (wr_nf (nm_ne3 (by decide))) (wr_nf (nm_ne3 (by decide))) (wr_nf (nm_ne3 (by decide))) (wr_nf (nm_ne3 (by decide))) (wr_nf (nm_ne3 (by decide)))
      have m31 : Mx (30, 0, 31) = M2 (30, 0, 31) := by rw [eMx, wr_nf (nm_ne3 (by decide))]
      have m8 : Mx (30, 0, 8) v = S 4 v := by rw [eMx, wr_nf (nm_ne3 (by decide))]; exact q2
      refine go_aload_n dX8_reckons_66 rfl rfl ?_
      refine g8_59 dX8_reckons_67 ?_
      refine go_iload_n dX8_reckons_70 rfl ?_
      refine go_aload_n dX8_reckons_71 rfl rfl ?_
      refine go_aload_n dX8_reckons_72 rfl rfl ?_
      refine g8_59 dX8_reckons_73 ?_
      refine go_iload_n dX8_reckons_76 rfl ?_
      refine v8_332 dX8_reckons_77 rfl ⟨rfl, rfl⟩ ⟨rfl, rfl⟩ (ct_X8_reckoned (S := S) (n := S 11 0) P3 v0 h7 c5 hns (hw v v0 h7) rfl) (fun r3 M4 N4 hr3 hq3 => ?_)
      obtain ⟨y2, rfl, rfl⟩ := hq3
      rw [m31, unS_tab (hw v v0 h7) hns (fun u u0 u1 => (hu u u0 u1).2)] at y2
      subst y2
      refine go_aload_n dX8_reckons_80 rfl rfl ?_
      refine g8_22 dX8_reckons_81 ?_
      refine go_iload_n dX8_reckons_84 rfl ?_
      refine go_iald dX8_reckons_85 rfl (by omega) (by omega) ?_
      rw [m8]
      refine v8_336 dX8_reckons_86 rfl ⟨rfl, rfl⟩ ⟨rfl, rfl⟩ (ct_X8_rounded gg.2.2.1 gg.2.2.2.1) (fun r4 M5 N5 hr4 hq4 => ?_)
      obtain ⟨y2, rfl, rfl⟩ := hq4
      refine go_last dX8_reckons_89 rfl (by omega) (by omega) ?_
      first | (subst eMx) | skip
      refine go_iinc1c dX8_reckons_90 rfl rfl ⟨by omega, by omega⟩ ?_
      refine go_goto (tgt := 2) dX8_reckons_93 rfl ?_
      refine ih (n - 1) (by omega) (v + 1) _ (by omega) (by omega) (fun u u0 u1 => ?_) ((hf.wa (by decide)).wa (by decide))
      rw [wr_nf (nm_ne3 (show 30 ≠ 31 by decide)), upI_wr, upI_wr, wr_nf (nm_ne3 (show 31 ≠ 30 by decide)), tbE_s S _ v0, tbC_s S _ v0]
      unfold upI
      by_cases z : u = v
      · rw [if_pos z, if_pos z, if_pos z, if_pos z]
        first
        | exact ⟨by rw [if_pos hin], by rw [if_pos hin]⟩
        | exact ⟨by rw [if_neg hns, y1], by rw [if_neg hns, y2]⟩
      · rw [if_neg z, if_neg z, if_neg z, if_neg z]; exact hu u u0 (by omega)
    · have hin : S 0 v = -2 := by omega
      refine go_aload_n dX8_reckons_22 rfl rfl ?_
      refine g8_56 dX8_reckons_23 ?_
      refine go_iload_n dX8_reckons_26 rfl ?_
      refine go_aload_n dX8_reckons_27 rfl rfl ?_
      refine g8_62 dX8_reckons_28 ?_
      refine go_iload_n dX8_reckons_31 rfl ?_
      refine go_iald dX8_reckons_32 rfl (by omega) (by omega) ?_
      rw [a32]
      refine go_i2l dX8_reckons_33 ?_
      refine go_last dX8_reckons_34 rfl (by omega) (by omega) ?_
      refine go_aload_n dX8_reckons_35 rfl rfl ?_
      refine g8_59 dX8_reckons_36 ?_
      refine go_iload_n dX8_reckons_39 rfl ?_
      refine go_aload_n dX8_reckons_40 rfl rfl ?_
      refine g8_62 dX8_reckons_41 ?_
      refine go_iload_n dX8_reckons_44 rfl ?_
      refine go_iald dX8_reckons_45 rfl (by omega) (by omega) ?_
      rw [wr_nf (nm_ne3 (by decide)), a32]
      refine go_i2l dX8_reckons_46 ?_
      refine go_last dX8_reckons_47 rfl (by omega) (by omega) ?_
      refine go_goto (tgt := 90) dX8_reckons_48 rfl ?_
      first | (subst eMx) | skip
      refine go_iinc1c dX8_reckons_90 rfl rfl ⟨by omega, by omega⟩ ?_
      refine go_goto (tgt := 2) dX8_reckons_93 rfl ?_
      refine ih (n - 1) (by omega) (v + 1) _ (by omega) (by omega) (fun u u0 u1 => ?_) ((hf.wa (by decide)).wa (by decide))
      rw [wr_nf (nm_ne3 (show 30 ≠ 31 by decide)), upI_wr, upI_wr, wr_nf (nm_ne3 (show 31 ≠ 30 by decide)), tbE_s S _ v0, tbC_s S _ v0]
      unfold upI
      by_cases z : u = v
      · rw [if_pos z, if_pos z, if_pos z, if_pos z]
        first
        | exact ⟨by rw [if_pos hin], by rw [if_pos hin]⟩
        | exact ⟨by rw [if_neg hns, y1], by rw [if_neg hns, y2]⟩
      · rw [if_neg z, if_neg z, if_neg z, if_neg z]; exact hu u u0 (by omega)
set_option maxRecDepth 100000 in
set_option maxHeartbeats 4000000 in
theorem ct_X8_reckons {E : Ev} {M : Mm} {N : Nn} {S : Pg} (hQ : QR S M) (hw : ∀ v, 0 ≤ v → v < S 11 0 → WFr S v) : Ct E yX8_reckons cX8_reckons 2 (none) (rmH 3) [vr (29, 0, 0)] M N (qv (fun M1 N1 => (∀ w, 0 ≤ w → w < S 11 0 → M1 (30, 0, 30) w = tbE S (M (30, 0, 32)) (S 11 0).toNat w ∧ M1 (30, 0, 31) w = tbC S (M (30, 0, 32)) (S 11 0).toNat w) ∧ Kr [] [30, 31] M M1 ∧ N = N1)) := by
  refine ct_of (own := RX8) (L0 := [vr (29, 0, 0), vn]) rfl (by decide +kernel) rfl rfl ?_
  refine go_iconst dX8_reckons_0 (R32_lit rfl) ?_
  refine go_ist1 dX8_reckons_1 rfl rfl ?_
  have c0 := hQ.2.1
  exact lp_X8_reckons hQ hw (S 11 0).toNat 0 M (by omega) (by omega) (fun u u0 u1 => absurd u1 (by omega)) Kr.rf
