/-- the moves from a point -/
def cmR (S : Pg) (a : Int) : Nat → (Int → Int) → (Int → Int)
  | 0, pt => pt
  | n + 1, pt => if (tyV S a (erS S pt a) pt (S 11 0).toNat 0).1 = 1 then cmR S a n (tyV S a (erS S pt a) pt (S 11 0).toNat 0).2 else pt
theorem cmR_s {S : Pg} {a : Int} {pt : Int → Int} {n : Nat} (h : 0 < n) : cmR S a n pt = if (tyV S a (erS S pt a) pt (S 11 0).toNat 0).1 = 1 then cmR S a (n - 1) (tyV S a (erS S pt a) pt (S 11 0).toNat 0).2 else pt := by
  cases n with
  | zero => exact absurd h (by decide)
  | succ m => rfl
def cpV (c : Int) (pt w : Int → Int) : Int → Int := fun j => if 0 ≤ j ∧ j < c then pt j else w j
theorem cpV_s {c : Int} {pt w : Int → Int} (h : 0 ≤ c) : cpV (c + 1) pt w = upI (cpV c pt w) c (pt c) := by
  funext j
  unfold cpV upI
  by_cases z : j = c
  · rw [if_pos ⟨by omega, by omega⟩, if_pos z, z]
  · rw [if_neg z]
    show _ = if 0 ≤ j ∧ j < c then pt j else w j
    by_cases y : 0 ≤ j ∧ j < c
    · rw [if_pos ⟨by omega, by omega⟩, if_pos y]
    · rw [if_neg (by omega), if_neg y]
theorem cpV_0 {pt w : Int → Int} : cpV 0 pt w = w := by
  funext j
  unfold cpV
  rw [if_neg (by omega)]
/-- one start more -/
def rkP (S : Pg) (a : Int) (s : Sk) : Int → Int := cmR S a 40 (dqS S s.1 s.2.1 (S 11 0).toNat).1
def rkN (S : Pg) (a : Int) (s : Sk) : Sk := (rkP S a s, (dqS S s.1 s.2.1 (S 11 0).toNat).2, if s.2.2.1 < erS S (rkP S a s) a then erS S (rkP S a s) a else s.2.2.1, if s.2.2.1 < erS S (rkP S a s) a then cpV (S 11 0) (rkP S a s) s.2.2.2 else s.2.2.2)
def rkS (S : Pg) (a : Int) (s : Sk) : Nat → Sk
  | 0 => s
  | n + 1 => rkN S a (rkS S a s n)
theorem rkS_s {S : Pg} {a k : Int} {s : Sk} (h : 0 ≤ k) : rkS S a s (k + 1).toNat = rkN S a (rkS S a s k.toNat) := by
  rw [show (k + 1).toNat = k.toNat + 1 by omega]; rfl
/-- what stands in the model of a search -/
def SkR (M : Mm) (s : Sk) : Prop := M (30, 0, 32) = s.1 ∧ M (29, 0, 0) 48 = s.2.1 ∧ M (29, 0, 0) 50 = s.2.2.1 ∧ M (30, 0, 49) = s.2.2.2
theorem rkS_bd {S : Pg} {a : Int} {s : Sk} (h0 : 0 ≤ s.2.1) (h1 : s.2.1 ≤ 65536) : ∀ n : Nat, 0 ≤ (rkS S a s n).2.1 ∧ (rkS S a s n).2.1 ≤ 65536
  | 0 => ⟨h0, h1⟩
  | n + 1 => by
    have ih := rkS_bd (S := S) (a := a) h0 h1 n
    exact dqS_bd S _ ih.1 ih.2 _
set_option maxRecDepth 100000 in
set_option maxHeartbeats 4000000 in
theorem la_moves {E : Ev} {M : Mm} {N : Nn} {S : Pg} {a m s k : Int} {pt : Int → Int} {x6 x7 x8 : Vv} {Z : Zt} (hQ : QR S M) (hW : WF S) (a0 : 0 ≤ a) (a1 : a < S 11 0) (hX : ∀ (i : Int) M3, M3 (30, 0, 32) = pt → Kr [] [30, 31, 32] M M3 → Go E RX8 cX8_climbsAll 9 (none) (rmH 8) 0 0 Z 49 [vr (29, 0, 0), vi a, vi m, vi s, vi k, vi i, x6, x7, x8] [] M3 N) : ∀ (n : Nat) (i : Int) (M2 : Mm), (i + n = 40) → (0 ≤ i) → (cmR S a n (M2 (30, 0, 32)) = pt) → (PtI S (M2 (30, 0, 32))) → (Kr [] [30, 31, 32] M M2) → Go E RX8 cX8_climbsAll 9 (none) (rmH 8) 0 0 Z 28 [vr (29, 0, 0), vi a, vi m, vi s, vi k, vi i, x6, x7, x8] [] M2 N := by
  intro n
  induction n using Nat.strongRecOn with
  | ind n ih =>
  intro i M2 hn i0 hC hP hf
  refine go_iload dX8_climbsAll_28 rfl ?_
  refine go_bipush dX8_climbsAll_30 ⟨by decide, by decide⟩ ?_
  refine go_icmp_ge (tgt := 49) dX8_climbsAll_32 rfl (fun h32 => ?_) (fun h32 => ?_)
  · first
    | (have nz : n = 0 := by omega
       rw [nz] at hC
       exact hX _ _ hC hf)
    | (rw [if_neg (by omega)] at cs
       exact hX _ _ (by rw [y2, ti.2.2 (by omega), ← cs]; exact hC) (hf.tr f1))
  · have cs := cmR_s (S := S) (a := a) (pt := M2 (30, 0, 32)) (n := n) (by omega)
    refine go_aload_n dX8_climbsAll_35 rfl rfl ?_
    refine go_iload_n dX8_climbsAll_36 rfl ?_
    refine v8_489 dX8_climbsAll_37 rfl ⟨rfl, rfl⟩ ⟨rfl, rfl⟩ (ct_X8_climbsOnce (hQ.k hf (by decide) (by decide) (by decide) (by decide) (by decide) (by decide) (by decide) (by decide)) hW hP a0 a1) (fun r1 M3 N3 hr1 hq1 => ?_)
    obtain ⟨y1, y2, f1, rfl⟩ := hq1
    have ti := tyV_in (a := a) (was := erS S (M2 (30, 0, 32)) a) hP (S 11 0).toNat 0
    refine go_if_eq (tgt := 49) dX8_climbsAll_40 rfl (fun h40 => ?_) (fun h40 => ?_)
    · first
      | (have nz : n = 0 := by omega
         rw [nz] at hC
         exact hX _ _ hC hf)
      | (rw [if_neg (by omega)] at cs
         exact hX _ _ (by rw [y2, ti.2.2 (by omega), ← cs]; exact hC) (hf.tr f1))
    · refine go_iinc5c dX8_climbsAll_43 rfl rfl ⟨by omega, by omega⟩ ?_
      refine go_goto (tgt := 28) dX8_climbsAll_46 rfl ?_
      rw [if_pos (by omega)] at cs
      exact ih (n - 1) (by omega) (i + 1) M3 (by omega) (by omega) (by rw [y2, ← cs]; exact hC) (by rw [y2]; exact ti.1) (hf.tr f1)
set_option maxRecDepth 100000 in
set_option maxHeartbeats 4000000 in
theorem la_copy {E : Ev} {M : Mm} {N : Nn} {S : Pg} {a m s k : Int} {x5 x6 x7 : Vv} {Z : Zt} (hv : adj x7 = x7) (hQ : QR S M) (hX : ∀ M3, M3 (30, 0, 49) = cpV (S 11 0) (M (30, 0, 32)) (M (30, 0, 49)) → Kr [] [49] M M3 → Go E RX8 cX8_climbsAll 9 (none) (rmH 8) 0 0 Z 104 [vr (29, 0, 0), vi a, vi m, vi s, vi k, x5, x6, x7, vi (S 11 0)] [] M3 N) : ∀ (n : Nat) (i : Int) (M2 : Mm), (i + n = S 11 0) → (0 ≤ i) → (M2 (30, 0, 49) = cpV i (M (30, 0, 32)) (M (30, 0, 49))) → (Kr [] [49] M M2) → Go E RX8 cX8_climbsAll 9 (none) (rmH 8) 0 0 Z 75 [vr (29, 0, 0), vi a, vi m, vi s, vi k, x5, x6, x7, vi i] [] M2 N := by
  intro n
  induction n using Nat.strongRecOn with
  | ind n ih =>
  intro i M2 hn i0 hA hf
  have c6 := hQ.1
  have c5 := hQ.2.2.1
  have c0 := hQ.2.1
  refine go_iload dX8_climbsAll_75 rfl ?_
  refine go_aload_n dX8_climbsAll_77 rfl rfl ?_
  refine g8_259 dX8_climbsAll_78 ?_
  rw [hf.s 6 (by decide), c6]
  refine go_icmp_ge (tgt := 104) dX8_climbsAll_81 rfl (fun h81 => ?_) (fun h81 => ?_)
  · rw [show i = S 11 0 by omega] at hA ⊢
    exact hX _ hA hf
  · refine go_aload_n dX8_climbsAll_84 rfl rfl ?_
    refine g8_99 dX8_climbsAll_85 ?_
    refine go_iload dX8_climbsAll_88 rfl ?_
    refine go_aload_n dX8_climbsAll_90 rfl rfl ?_
    refine g8_62 dX8_climbsAll_91 ?_
    refine go_iload dX8_climbsAll_94 rfl ?_
    refine go_iald dX8_climbsAll_96 rfl (by omega) (by omega) ?_
    rw [hf.a 32 (by decide)]
    refine go_iast dX8_climbsAll_97 rfl (by omega) (by omega) ?_
    refine go_iinc8c dX8_climbsAll_98 rfl hv ⟨by omega, by omega⟩ ?_
    refine go_goto (tgt := 75) dX8_climbsAll_101 rfl ?_
    exact ih (n - 1) (by omega) (i + 1) _ (by omega) (by omega) (by rw [upI_wr, hA, ← cpV_s i0]) (hf.wa (by decide))
set_option maxRecDepth 100000 in
set_option maxHeartbeats 4000000 in
theorem la_out {E : Ev} {M : Mm} {N : Nn} {S : Pg} {a m s : Int} {s0 : Sk} (hQ : QR S M) (hW : WF S) (a0 : 0 ≤ a) (a1 : a < S 11 0) (m1 : m ≤ 10) (s1 : 0 ≤ s0.2.1) (s2 : s0.2.1 ≤ 65536) : ∀ (n : Nat) (k : Int) (M2 : Mm) (x5 x6 x7 x8 : Vv), (k + n = m) → (0 ≤ k) → (SkR M2 (rkS S a s0 k.toNat)) → (Kr [48, 50] [30, 31, 32, 49] M M2) → Go E RX8 cX8_climbsAll 9 (none) (rmH 8) 0 0 (zM E (qv (fun M1 N1 => SkR M1 (rkS S a s0 m.toNat) ∧ Kr [48, 50] [30, 31, 32, 49] M M1 ∧ N = N1))) 15 [vr (29, 0, 0), vi a, vi m, vi s, vi k, x5, x6, x7, x8] [] M2 N := by
  intro n
  induction n using Nat.strongRecOn with
  | ind n ih =>
  intro k M2 x5 x6 x7 x8 hn k0 hS hf
  have c6 := hQ.1
  have c5 := hQ.2.2.1
  have c0 := hQ.2.1
  refine go_iload dX8_climbsAll_15 rfl ?_
  refine go_iload_n dX8_climbsAll_17 rfl ?_
  refine go_icmp_ge (tgt := 110) dX8_climbsAll_18 rfl (fun h18 => ?_) (fun h18 => ?_)
  · refine go_retv dX8_climbsAll_110 ?_
    rw [show k = m by omega] at hS
    exact ⟨hS, hf, rfl⟩
  · obtain ⟨t1, t2, t3, t4⟩ := hS
    have rb := rkS_bd (S := S) (a := a) s1 s2 k.toNat
    have es := rkS_s (S := S) (a := a) (s := s0) k0
    refine go_aload_n dX8_climbsAll_21 rfl rfl ?_
    refine v8_486 dX8_climbsAll_22 rfl ⟨rfl, rfl⟩ ⟨rfl, rfl⟩ (ct_X8_drawsPoint (hQ.k hf (by decide) (by decide) (by decide) (by decide) (by decide) (by decide) (by decide) (by decide)) hW (by rw [t2]; exact rb.1) (by rw [t2]; exact rb.2)) (fun M3 N3 hq1 => ?_)
    obtain ⟨d1, d2, fd, rfl⟩ := hq1
    rw [t1, t2] at d1 d2
    have f3 : Kr [48, 50] [30, 31, 32, 49] M M3 := hf.tr (fd.up (by decide) (by decide))
    refine go_iconst dX8_climbsAll_25 (R32_lit rfl) ?_
    refine go_ist5 dX8_climbsAll_26 rfl rfl ?_
    refine la_moves (M := M3) (pt := rkP S a (rkS S a s0 k.toNat)) (hQ.k f3 (by decide) (by decide) (by decide) (by decide) (by decide) (by decide) (by decide) (by decide)) hW a0 a1 (fun i M4 e4 f4 => ?_) 40 0 M3 (by omega) (by omega) (by rw [d1]; rfl) (by rw [d1]; exact fun j j0 j1 jq => dqS_in S _ hW rb.1 rb.2 (S 11 0).toNat (by omega) j j0 (by omega) jq) Kr.rf
    have f4' : Kr [48, 50] [30, 31, 32, 49] M M4 := f3.tr (f4.up (by decide) (by decide))
    have Q4 : QR S M4 := (hQ.k f4' (by decide) (by decide) (by decide) (by decide) (by decide) (by decide) (by decide) (by decide))
    refine go_aload_n dX8_climbsAll_49 rfl rfl ?_
    refine go_iload_n dX8_climbsAll_50 rfl ?_
    refine v8_475 dX8_climbsAll_51 rfl ⟨rfl, rfl⟩ ⟨rfl, rfl⟩ (ct_X8_errorAt Q4 hW a0 a1) (fun r5 M5 N5 hr5 hq5 => ?_)
    obtain ⟨z5, g5, rfl⟩ := hq5
    rw [e4] at z5
    have f5 : Kr [48, 50] [30, 31, 32, 49] M M5 := f4'.tr (g5.up (by decide) (by decide))
    have e32 : M5 (30, 0, 32) = rkP S a (rkS S a s0 k.toNat) := (g5.a 32 (by decide)).trans e4
    have e48 : M5 (29, 0, 0) 48 = (dqS S (rkS S a s0 k.toNat).1 (rkS S a s0 k.toNat).2.1 (S 11 0).toNat).2 := by rw [g5.s 48 (by decide), f4.s 48 (by decide)]; exact d2
    have e50 : M5 (29, 0, 0) 50 = (rkS S a s0 k.toNat).2.2.1 := by rw [g5.s 50 (by decide), f4.s 50 (by decide), fd.s 50 (by decide)]; exact t3
    have e49 : M5 (30, 0, 49) = (rkS S a s0 k.toNat).2.2.2 := by rw [g5.a 49 (by decide), f4.a 49 (by decide), fd.a 49 (by decide)]; exact t4
    refine go_lst6 dX8_climbsAll_54 rfl rfl ?_
    refine go_lload dX8_climbsAll_56 rfl ?_
    refine go_aload_n dX8_climbsAll_58 rfl rfl ?_
    refine g8_482 dX8_climbsAll_59 ?_
    rw [e50]
    refine go_lcmp_le (tgt := 104) dX8_climbsAll_62 dX8_climbsAll_63 rfl (fun h62 => ?_) (fun h62 => ?_)
    · refine go_iinc4c dX8_climbsAll_104 rfl rfl ⟨by omega, by omega⟩ ?_
      refine go_goto (tgt := 15) dX8_climbsAll_107 rfl ?_
      have ge : ¬ (rkS S a s0 k.toNat).2.2.1 < erS S (rkP S a (rkS S a s0 k.toNat)) a := by omega
      refine ih (n - 1) (by omega) (k + 1) _ _ _ _ _ (by omega) (by omega) ?_ f5
      rw [es]
      refine ⟨e32, e48, ?_, ?_⟩
      · rw [e50]; unfold rkN; rw [if_neg ge]
      · rw [e49]; exact (if_neg ge).symm
    · have lt : (rkS S a s0 k.toNat).2.2.1 < erS S (rkP S a (rkS S a s0 k.toNat)) a := by omega
      refine go_aload_n dX8_climbsAll_66 rfl rfl ?_
      refine go_lload dX8_climbsAll_67 rfl ?_
      refine p8_482 dX8_climbsAll_69 ?_
      refine go_iconst dX8_climbsAll_72 (R32_lit rfl) ?_
      refine go_ist8 dX8_climbsAll_73 rfl rfl ?_
      have f6 : Kr [48, 50] [30, 31, 32, 49] M (wr M5 (29, 0, 0) 50 r5) := f5.ws (by decide)
      have e6 : wr M5 (29, 0, 0) 50 r5 (30, 0, 32) = rkP S a (rkS S a s0 k.toNat) := by rw [wr_nf (nm_ne1 (by decide))]; exact e32
      refine la_copy rfl (hQ.k f6 (by decide) (by decide) (by decide) (by decide) (by decide) (by decide) (by decide) (by decide)) (fun M7 e7 f7 => ?_) (S 11 0).toNat 0 _ (by omega) (by omega) cpV_0.symm Kr.rf
      refine go_iinc4c dX8_climbsAll_104 rfl rfl ⟨by omega, by omega⟩ ?_
      refine go_goto (tgt := 15) dX8_climbsAll_107 rfl ?_
      refine ih (n - 1) (by omega) (k + 1) _ _ _ _ _ (by omega) (by omega) ?_ (f6.tr (f7.up (by decide) (by decide)))
      rw [es]
      refine ⟨?_, ?_, ?_, ?_⟩
      · rw [f7.a 32 (by decide)]; exact e6
      · rw [f7.s 48 (by decide), wr_nk (by decide), e48]; rfl
      · rw [f7.s 50 (by decide), wr_eq, z5]; unfold rkN; rw [if_pos lt]
      · rw [e7, e6, wr_nf (nm_ne1 (by decide)), e49]; exact (if_pos lt).symm
set_option maxRecDepth 100000 in
set_option maxHeartbeats 4000000 in
theorem ct_X8_climbsAll {E : Ev} {M : Mm} {N : Nn} {S : Pg} {a m s : Int} (hQ : QR S M) (hW : WF S) (a0 : 0 ≤ a) (a1 : a < S 11 0) (m0 : 0 ≤ m) (m1 : m ≤ 10) (s1 : 0 ≤ s) (s2 : s ≤ 65536) : Ct E yX8_climbsAll cX8_climbsAll 9 (none) (rmH 8) [vr (29, 0, 0), vi a, vi m, vi s] M N (qv (fun M1 N1 => SkR M1 (rkS S a (M (30, 0, 32), s, -1, M (30, 0, 49)) m.toNat) ∧ Kr [48, 50] [30, 31, 32, 49] M M1 ∧ N = N1)) := by
  refine ct_of (own := RX8) (L0 := [vr (29, 0, 0), vi a, vi m, vi s, vn, vn, vn, vn, vn]) rfl (by decide +kernel) rfl rfl ?_
  refine go_aload_n dX8_climbsAll_0 rfl rfl ?_
  refine go_iload_n dX8_climbsAll_1 rfl ?_
  refine p8_468 dX8_climbsAll_2 ?_
  refine go_aload_n dX8_climbsAll_5 rfl rfl ?_
  refine c8_400 dX8_climbsAll_6 ?_
  refine p8_482 dX8_climbsAll_9 ?_
  refine go_nmM (fun Ma eMa => ?_)
  have fa : Kr [48, 50] [30, 31, 32, 49] M Ma := by rw [eMa]; exact (Kr.rf.ws (by decide)).ws (by decide)
  have ha : SkR Ma (rkS S a (M (30, 0, 32), s, -1, M (30, 0, 49)) (0 : Int).toNat) := by
    rw [eMa]
    exact ⟨by rw [wr_nf (nm_ne1 (by decide)), wr_nf (nm_ne1 (by decide))]; rfl, by rw [wr_nk (by decide), wr_eq]; rfl, by rw [wr_eq]; rfl, by rw [wr_nf (nm_ne1 (by decide)), wr_nf (nm_ne1 (by decide))]; rfl⟩
  clear eMa
  refine go_iconst dX8_climbsAll_12 (R32_lit rfl) ?_
  refine go_ist4 dX8_climbsAll_13 rfl rfl ?_
  exact la_out (s0 := (M (30, 0, 32), s, -1, M (30, 0, 49))) hQ hW a0 a1 m1 s1 s2 m.toNat 0 Ma _ _ _ _ (by omega) (by omega) ha fa
theorem u2_cs {a c r : Int} (e : r = if a = 0 then 1 else if c = 0 then 2 else 0) : (a = 0 ∧ r = 1) ∨ (a ≠ 0 ∧ c = 0 ∧ r = 2) ∨ (a ≠ 0 ∧ c ≠ 0 ∧ r = 0) := by
  by_cases h : a = 0
  · rw [if_pos h] at e; exact Or.inl ⟨h, e⟩
  · rw [if_neg h] at e
    by_cases g : c = 0
    · rw [if_pos g] at e; exact Or.inr (Or.inl ⟨h, g, e⟩)
    · rw [if_neg g] at e; exact Or.inr (Or.inr ⟨h, g, e⟩)
theorem rfM_a {M : Mm} {k : Int} {f : Nat} : rfM M k (30, 0, f) = M (30, 0, f) := by
  unfold rfM
  rw [wr_nf (nm_ne1 (by decide)), wr_nf (nm_ne1 (by decide)), wr_nf (nm_ne1 (by decide))]
set_option maxRecDepth 100000 in
set_option maxHeartbeats 4000000 in
theorem ct_X8_climb {E : Ev} {M : Mm} {N : Nn} {S : Pg} {v k s : Int} (hQ : QR S M) (hW : WF S) : Ct E yX8_climb cX8_climb 4 ((some .long)) (rmH 9) [vr (29, 0, 0), vi v, vi k, vi s] M N (ql (fun r M1 N1 => (((0 ≤ v ∧ v < S 11 0) ∧ (1 ≤ k ∧ k ≤ 10 ∧ 0 ≤ s ∧ s ≤ 65536)) ∧ r = (rkS S v (M (30, 0, 32), s, -1, M (30, 0, 49)) k.toNat).2.2.1 ∧ F8 (rfM M 0) M1 ∨ ((0 ≤ v ∧ v < S 11 0) ∧ ¬ (1 ≤ k ∧ k ≤ 10 ∧ 0 ≤ s ∧ s ≤ 65536)) ∧ r = -9223372036854775808 ∧ F8 (rfM M 2) M1 ∨ ¬ (0 ≤ v ∧ v < S 11 0) ∧ r = -9223372036854775808 ∧ F8 (rfM M 1) M1) ∧ N = N1)) := by
  refine ct_of (own := RX8) (L0 := [vr (29, 0, 0), vi v, vi k, vi s]) rfl (by decide +kernel) rfl rfl ?_
  have c6 := hQ.1
  have c5 := hQ.2.2.1
  have c0 := hQ.2.1
  refine go_aload_n dX8_climb_0 rfl rfl ?_
  refine go_aload_n dX8_climb_1 rfl rfl ?_
  refine go_iload_n dX8_climb_2 rfl ?_
  refine v8_285 dX8_climb_3 rfl ⟨rfl, rfl⟩ ⟨rfl, rfl⟩ (ct_X8_isVariable hQ) (fun r1 M1 N1 hr1 hq1 => ?_)
  obtain ⟨z1, rfl, rfl⟩ := hq1
  have z1 := bit_iff z1
  refine go_aload_n dX8_climb_6 rfl rfl ?_
  refine go_iload_n dX8_climb_7 rfl ?_
  refine go_iload_n dX8_climb_8 rfl ?_
  refine v8_496 dX8_climb_9 rfl ⟨rfl, rfl⟩ ⟨rfl, rfl⟩ ct_X8_isClimb (fun r2 M2 N2 hr2 hq2 => ?_)
  obtain ⟨z2, rfl, rfl⟩ := hq2
  have z2 := bit_iff z2
  refine v8_346 dX8_climb_12 rfl ⟨rfl, rfl⟩ ⟨rfl, rfl⟩ ct_X8_unless_ (fun r3 M3 N3 hr3 hq3 => ?_)
  obtain ⟨z3, rfl, rfl⟩ := hq3
  have z3 := u2_cs z3
  refine v8_269 dX8_climb_15 rfl ⟨rfl, rfl⟩ ⟨rfl, rfl⟩ ct_X8_isRefused (fun r4 M4 N4 hr4 hq4 => ?_)
  obtain ⟨z4, rfl, rfl⟩ := hq4
  have z4 := bit_iff z4
  refine go_if_eq (tgt := 25) dX8_climb_18 rfl (fun h18 => ?_) (fun h18 => ?_)
  · have hv : (0 ≤ v ∧ v < S 11 0) := by omega
    have hc : (1 ≤ k ∧ k ≤ 10 ∧ 0 ≤ s ∧ s ≤ 65536) := by omega
    rw [show r3 = 0 by omega]
    refine go_aload_n dX8_climb_25 rfl rfl ?_
    refine go_iload_n dX8_climb_26 rfl ?_
    refine go_iload_n dX8_climb_27 rfl ?_
    refine go_iload_n dX8_climb_28 rfl ?_
    refine v8_499 dX8_climb_29 rfl ⟨rfl, rfl⟩ ⟨rfl, rfl⟩ (ct_X8_climbsAll (rfM_Q hQ) hW hv.1 hv.2 (by omega) (by omega) (by omega) (by omega)) (fun M5 N5 hq5 => ?_)
    obtain ⟨sk, f5, rfl⟩ := hq5
    have F8k := F8.of f5 (by decide) (by decide)
    rw [show rfM M 0 (30, 0, 32) = M (30, 0, 32) from rfM_a, show rfM M 0 (30, 0, 49) = M (30, 0, 49) from rfM_a] at sk
    refine go_aload_n dX8_climb_32 rfl rfl ?_
    refine g8_482 dX8_climb_33 ?_
    rw [sk.2.2.1]
    refine go_retl dX8_climb_36 ?_
    exact ⟨Or.inl ⟨⟨hv, hc⟩, rfl, F8k⟩, rfl⟩
  · refine c8_111 dX8_climb_21 ?_
    refine go_retl dX8_climb_24 ?_
    rcases z3 with ⟨y, e⟩ | ⟨y, g, e⟩ | ⟨y, g, e⟩
    · rw [e]; exact ⟨Or.inr (Or.inr ⟨by omega, rfl, F8.rf⟩), rfl⟩
    · rw [e]; exact ⟨Or.inr (Or.inl ⟨by omega, rfl, F8.rf⟩), rfl⟩
    · omega
set_option maxRecDepth 100000 in
set_option maxHeartbeats 4000000 in
theorem ct_X8_witness {E : Ev} {M : Mm} {N : Nn} {S : Pg} {v k s w : Int} (hQ : QR S M) (hW : WF S) : Ct E yX8_witness cX8_witness 5 ((some .long)) (rmH 9) [vr (29, 0, 0), vi v, vi k, vi s, vi w] M N (ql (fun r M1 N1 => (((0 ≤ v ∧ v < S 11 0) ∧ (1 ≤ k ∧ k ≤ 10 ∧ 0 ≤ s ∧ s ≤ 65536) ∧ (0 ≤ w ∧ w < S 11 0 ∧ S 0 w = -2)) ∧ r = (rkS S v (M (30, 0, 32), s, -1, M (30, 0, 49)) k.toNat).2.2.2 w ∧ F8 (rfM M 0) M1 ∨ ((0 ≤ v ∧ v < S 11 0) ∧ (1 ≤ k ∧ k ≤ 10 ∧ 0 ≤ s ∧ s ≤ 65536) ∧ ¬ (0 ≤ w ∧ w < S 11 0 ∧ S 0 w = -2)) ∧ r = -9223372036854775808 ∧ F8 (rfM M 1) M1 ∨ ((0 ≤ v ∧ v < S 11 0) ∧ ¬ (1 ≤ k ∧ k ≤ 10 ∧ 0 ≤ s ∧ s ≤ 65536)) ∧ r = -9223372036854775808 ∧ F8 (rfM M 2) M1 ∨ ¬ (0 ≤ v ∧ v < S 11 0) ∧ r = -9223372036854775808 ∧ F8 (rfM M 1) M1) ∧ N = N1)) := by
  refine ct_of (own := RX8) (L0 := [vr (29, 0, 0), vi v, vi k, vi s, vi w]) rfl (by decide +kernel) rfl rfl ?_
  have c6 := hQ.1
  have c5 := hQ.2.2.1
  have c0 := hQ.2.1
  refine go_aload_n dX8_witness_0 rfl rfl ?_
  refine go_aload_n dX8_witness_1 rfl rfl ?_
  refine go_iload_n dX8_witness_2 rfl ?_
  refine v8_285 dX8_witness_3 rfl ⟨rfl, rfl⟩ ⟨rfl, rfl⟩ (ct_X8_isVariable hQ) (fun r1 M1 N1 hr1 hq1 => ?_)
  obtain ⟨z1, rfl, rfl⟩ := hq1
  have z1 := bit_iff z1
  refine go_aload_n dX8_witness_6 rfl rfl ?_
  refine go_iload_n dX8_witness_7 rfl ?_
  refine go_iload_n dX8_witness_8 rfl ?_
  refine v8_496 dX8_witness_9 rfl ⟨rfl, rfl⟩ ⟨rfl, rfl⟩ ct_X8_isClimb (fun r2 M2 N2 hr2 hq2 => ?_)
  obtain ⟨z2, rfl, rfl⟩ := hq2
  have z2 := bit_iff z2
  refine v8_346 dX8_witness_12 rfl ⟨rfl, rfl⟩ ⟨rfl, rfl⟩ ct_X8_unless_ (fun r3 M3 N3 hr3 hq3 => ?_)
  obtain ⟨z3, rfl, rfl⟩ := hq3
  have z3 := u2_cs z3
  refine v8_269 dX8_witness_15 rfl ⟨rfl, rfl⟩ ⟨rfl, rfl⟩ ct_X8_isRefused (fun r4 M4 N4 hr4 hq4 => ?_)
  obtain ⟨z4, rfl, rfl⟩ := hq4
  have z4 := bit_iff z4
  refine go_if_eq (tgt := 25) dX8_witness_18 rfl (fun h18 => ?_) (fun h18 => ?_)
  · have hv : (0 ≤ v ∧ v < S 11 0) := by omega
    have hc : (1 ≤ k ∧ k ≤ 10 ∧ 0 ≤ s ∧ s ≤ 65536) := by omega
    rw [show r3 = 0 by omega]
    refine go_aload_n dX8_witness_25 rfl rfl ?_
    refine go_iload dX8_witness_26 rfl ?_
    refine v8_343 dX8_witness_28 rfl ⟨rfl, rfl⟩ ⟨rfl, rfl⟩ (ct_X8_isInputAt (rfM_Q hQ)) (fun r6 M6 N6 hr6 hq6 => ?_)
    obtain ⟨z6, rfl, rfl⟩ := hq6
    have z6 := bit_iff z6
    refine go_if_ne (tgt := 40) dX8_witness_31 rfl (fun h31 => ?_) (fun h31 => ?_)
    · have hi : (0 ≤ w ∧ w < S 11 0 ∧ S 0 w = -2) := by omega
      refine go_aload_n dX8_witness_40 rfl rfl ?_
      refine go_iload_n dX8_witness_41 rfl ?_
      refine go_iload_n dX8_witness_42 rfl ?_
      refine go_iload_n dX8_witness_43 rfl ?_
      refine v8_499 dX8_witness_44 rfl ⟨rfl, rfl⟩ ⟨rfl, rfl⟩ (ct_X8_climbsAll (rfM_Q hQ) hW hv.1 hv.2 (by omega) (by omega) (by omega) (by omega)) (fun M5 N5 hq5 => ?_)
      obtain ⟨sk, f5, rfl⟩ := hq5
      have F8k := F8.of f5 (by decide) (by decide)
      rw [show rfM M 0 (30, 0, 32) = M (30, 0, 32) from rfM_a, show rfM M 0 (30, 0, 49) = M (30, 0, 49) from rfM_a] at sk
      refine go_aload_n dX8_witness_47 rfl rfl ?_
      refine g8_99 dX8_witness_48 ?_
      refine go_iload dX8_witness_51 rfl ?_
      refine go_iald dX8_witness_53 rfl (by omega) (by omega) ?_
      rw [sk.2.2.2]
      refine go_i2l dX8_witness_54 ?_
      refine go_retl dX8_witness_55 ?_
      exact ⟨Or.inl ⟨⟨hv, hc, hi⟩, rfl, F8k⟩, rfl⟩
    · refine go_aload_n dX8_witness_34 rfl rfl ?_
      refine go_iconst dX8_witness_35 (R32_lit rfl) ?_
      refine v8_432 dX8_witness_36 rfl ⟨rfl, rfl⟩ ⟨rfl, rfl⟩ ct_X8_nothing (fun r7 M7 N7 hr7 hq7 => ?_)
      obtain ⟨rfl, rfl, rfl⟩ := hq7
      refine go_retl dX8_witness_39 ?_
      exact ⟨Or.inr (Or.inl ⟨⟨hv, hc, by omega⟩, rfl, F8.rf.no⟩), rfl⟩
  · refine c8_111 dX8_witness_21 ?_
    refine go_retl dX8_witness_24 ?_
    rcases z3 with ⟨y, e⟩ | ⟨y, g, e⟩ | ⟨y, g, e⟩
    · rw [e]; exact ⟨Or.inr (Or.inr (Or.inr ⟨by omega, rfl, F8.rf⟩)), rfl⟩
    · rw [e]; exact ⟨Or.inr (Or.inr (Or.inl ⟨by omega, rfl, F8.rf⟩)), rfl⟩
    · omega
