/-- the next point, the last input first -/
def nxF (S : Pg) : Nat → (Int → Int) → Int × (Int → Int)
  | 0, pt => (0, pt)
  | k + 1, pt => if S 0 k = -2 then (if pt k < S 3 k then (1, upI pt k (pt k + 1)) else nxF S k (upI pt k (S 2 k))) else nxF S k pt
theorem nxF_s {S : Pg} {pt : Int → Int} {n : Nat} {k : Int} (h : 0 < n) (e : k + 1 = n) : nxF S n pt = if S 0 k = -2 then (if pt k < S 3 k then (1, upI pt k (pt k + 1)) else nxF S (n - 1) (upI pt k (S 2 k))) else nxF S (n - 1) pt := by
  cases n with
  | zero => exact absurd h (by decide)
  | succ m =>
    rw [show k = (m : Int) by omega]; rfl
/-- the place of a point in that order -/
def rnk (S : Pg) (pt : Int → Int) : Nat → Int
  | 0 => 0
  | v + 1 => if S 0 v = -2 then rnk S pt v * (S 3 v - S 2 v + 1) + (pt v - S 2 v) else rnk S pt v
theorem rnk_bd {S : Pg} (hW : WF S) {pt : Int → Int} (h : PtI S pt) : ∀ v : Nat, (v : Int) ≤ S 11 0 → 0 ≤ rnk S pt v ∧ rnk S pt v ≤ ptV S v - 1
  | 0, _ => ⟨Int.le_refl 0, by show (0 : Int) ≤ 1 - 1; decide⟩
  | v + 1, hv => by
    have ih := rnk_bd hW h v (by omega)
    have es := ptV_s hW (v := v) (by omega)
    rw [es]
    show 0 ≤ (if S 0 v = -2 then rnk S pt v * (S 3 v - S 2 v + 1) + (pt v - S 2 v) else rnk S pt v) ∧ (if S 0 v = -2 then rnk S pt v * (S 3 v - S 2 v + 1) + (pt v - S 2 v) else rnk S pt v) ≤ _
    by_cases q : S 0 v = -2
    · rw [if_pos q, if_pos q]
      have p := h v (by omega) (by omega) q
      have a := Int.mul_nonneg ih.1 (show 0 ≤ S 3 v - S 2 v + 1 by omega)
      have c := Int.mul_le_mul_of_nonneg_right ih.2 (show 0 ≤ S 3 v - S 2 v + 1 by omega)
      rw [Int.sub_mul, Int.one_mul] at c
      omega
    · rw [if_neg q, if_neg q]; exact ih
theorem rnk_cg {S : Pg} {pt qt : Int → Int} : ∀ v : Nat, (∀ k : Int, 0 ≤ k → k < v → S 0 k = -2 → pt k = qt k) → rnk S pt v = rnk S qt v
  | 0, _ => rfl
  | v + 1, h => by
    have ih := rnk_cg v (fun k k0 k1 q => h k k0 (by omega) q)
    show (if S 0 v = -2 then rnk S pt v * (S 3 v - S 2 v + 1) + (pt v - S 2 v) else rnk S pt v) = (if S 0 v = -2 then rnk S qt v * (S 3 v - S 2 v + 1) + (qt v - S 2 v) else rnk S qt v)
    by_cases q : S 0 v = -2
    · rw [if_pos q, if_pos q, ih, h v (by omega) (by omega) q]
    · rw [if_neg q, if_neg q, ih]
theorem dm_eq {r r' w d d' : Int} (w0 : 0 < w) (d0 : 0 ≤ d) (d1 : d < w) (e0 : 0 ≤ d') (e1 : d' < w) (h : r * w + d = r' * w + d') : r = r' := by
  by_cases z : r < r'
  · have := Int.mul_le_mul_of_nonneg_right (show r + 1 ≤ r' by omega) (Int.le_of_lt w0)
    rw [Int.add_mul, Int.one_mul] at this
    omega
  · by_cases y : r' < r
    · have := Int.mul_le_mul_of_nonneg_right (show r' + 1 ≤ r by omega) (Int.le_of_lt w0)
      rw [Int.add_mul, Int.one_mul] at this
      omega
    · omega
theorem rnk_inj {S : Pg} {pt qt : Int → Int} (h : PtI S pt) (g : PtI S qt) : ∀ v : Nat, (v : Int) ≤ S 11 0 → rnk S pt v = rnk S qt v → ∀ k : Int, 0 ≤ k → k < v → S 0 k = -2 → pt k = qt k
  | 0, _, _, k, k0, k1, _ => absurd k1 (by omega)
  | v + 1, hv, e, k, k0, k1, kq => by
    have e : (if S 0 v = -2 then rnk S pt v * (S 3 v - S 2 v + 1) + (pt v - S 2 v) else rnk S pt v) = (if S 0 v = -2 then rnk S qt v * (S 3 v - S 2 v + 1) + (qt v - S 2 v) else rnk S qt v) := e
    by_cases q : S 0 v = -2
    · rw [if_pos q, if_pos q] at e
      have p := h v (by omega) (by omega) q
      have p' := g v (by omega) (by omega) q
      have er := dm_eq (by omega) (by omega) (by omega) (by omega) (by omega) e
      rw [er] at e
      by_cases z : k = v
      · rw [z]; omega
      · exact rnk_inj h g v (by omega) er k k0 (by omega) kq
    · rw [if_neg q, if_neg q] at e
      by_cases z : k = v
      · rw [z] at kq; exact absurd kq q
      · exact rnk_inj h g v (by omega) e k k0 (by omega) kq
theorem PtI.up {S : Pg} {pt : Int → Int} {k x : Int} (h : PtI S pt) (h0 : S 2 k ≤ x) (h1 : x ≤ S 3 k) : PtI S (upI pt k x) := fun j j0 j1 q => by
  unfold upI
  by_cases z : j = k
  · rw [if_pos z, z]; exact ⟨h0, h1⟩
  · rw [if_neg z]; exact h j j0 j1 q
theorem upI_ne {pt : Int → Int} {k x j : Int} (h : j ≠ k) : upI pt k x j = pt j := if_neg h
theorem nxF_rk {S : Pg} (hW : WF S) : ∀ (n : Nat) (pt : Int → Int), PtI S pt → (n : Int) ≤ S 11 0 → ((nxF S n pt).1 = 1 ∧ rnk S (nxF S n pt).2 n = rnk S pt n + 1 ∨ (nxF S n pt).1 = 0 ∧ rnk S pt n = ptV S n - 1) ∧ PtI S (nxF S n pt).2 ∧ ∀ j : Int, n ≤ j → (nxF S n pt).2 j = pt j
  | 0, pt, h, _ => ⟨Or.inr ⟨rfl, by show (0 : Int) = 1 - 1; decide⟩, h, fun _ _ => rfl⟩
  | v + 1, pt, h, hv => by
    have en := nxF_s (S := S) (pt := pt) (n := v + 1) (k := v) (by omega) (by omega)
    rw [show v + 1 - 1 = v by omega] at en
    have rs : ∀ p, rnk S p (v + 1) = if S 0 v = -2 then rnk S p v * (S 3 v - S 2 v + 1) + (p v - S 2 v) else rnk S p v := fun _ => rfl
    have es := ptV_s hW (v := v) (by omega)
    by_cases q : S 0 v = -2
    · have p := h v (by omega) (by omega) q
      rw [if_pos q] at en es
      by_cases l : pt v < S 3 v
      · rw [if_pos l] at en
        rw [en, rs, rs, if_pos q, if_pos q]
        refine ⟨Or.inl ⟨rfl, ?_⟩, h.up (by omega) (by omega), fun j hj => upI_ne (by omega)⟩
        show rnk S (upI pt v (pt v + 1)) v * _ + (upI pt v (pt v + 1) v - _) = _
        rw [rnk_cg (qt := pt) v (fun k k0 k1 _ => upI_ne (by omega)), upI_eq]
        omega
      · rw [if_neg l] at en
        obtain ⟨i1, i2, i3⟩ := nxF_rk hW v (upI pt v (S 2 v)) (h.up (by omega) (by omega)) (by omega)
        rw [en, rs, rs, if_pos q, if_pos q, es]
        rw [rnk_cg (pt := upI pt v (S 2 v)) (qt := pt) v (fun k k0 k1 _ => upI_ne (by omega))] at i1
        refine ⟨?_, i2, fun j hj => by rw [i3 j (by omega), upI_ne (by omega)]⟩
        rcases i1 with ⟨a, c⟩ | ⟨a, c⟩
        · refine Or.inl ⟨a, ?_⟩
          rw [c, i3 v (by omega), upI_eq, Int.add_mul, Int.one_mul]
          omega
        · refine Or.inr ⟨a, ?_⟩
          rw [c, Int.sub_mul, Int.one_mul]
          omega
    · rw [if_neg q] at en es
      obtain ⟨i1, i2, i3⟩ := nxF_rk hW v pt h (by omega)
      rw [en, rs, rs, if_neg q, if_neg q, es]
      exact ⟨i1, i2, fun j hj => i3 j (by omega)⟩
theorem rnk_0 {S : Pg} {pt : Int → Int} : ∀ v : Nat, (∀ k : Int, 0 ≤ k → k < v → S 0 k = -2 → pt k = S 2 k) → rnk S pt v = 0
  | 0, _ => rfl
  | v + 1, h => by
    have ih := rnk_0 v (fun k k0 k1 q => h k k0 (by omega) q)
    show (if S 0 v = -2 then rnk S pt v * (S 3 v - S 2 v + 1) + (pt v - S 2 v) else rnk S pt v) = 0
    by_cases q : S 0 v = -2
    · rw [if_pos q, ih, h v (by omega) (by omega) q, Int.zero_mul]; omega
    · rw [if_neg q]; exact ih
theorem erS_cg {S : Pg} {a : Int} {pt qt : Int → Int} (a0 : 0 ≤ a) (h : ∀ k : Int, 0 ≤ k → k < a + 1 → S 0 k = -2 → pt k = qt k) : erS S pt a = erS S qt a := by
  have := tb_cg (S := S) (a := pt) (b := qt) (a + 1).toNat (fun v v0 v1 q => h v v0 (by omega) q)
  unfold erS
  rw [this.1, this.2]
/-- the greatest error so far -/
def MXp (S : Pg) (a m R : Int) : Prop := (∀ pt, PtI S pt → rnk S pt (S 11 0).toNat ≤ R → erS S pt a ≤ m) ∧ ∃ pt, PtI S pt ∧ m = erS S pt a
def MX (S : Pg) (a m : Int) : Prop := (∀ pt, PtI S pt → erS S pt a ≤ m) ∧ ∃ pt, PtI S pt ∧ m = erS S pt a
theorem MXp.nx {S : Pg} {a m R m' : Int} {pt : Int → Int} (h : MXp S a m R) (c0 : 0 ≤ S 11 0) (a0 : 0 ≤ a) (a1 : a < S 11 0) (hp : PtI S pt) (e : rnk S pt (S 11 0).toNat = R + 1) (hm : m' = if m < erS S pt a then erS S pt a else m) : MXp S a m' (R + 1) := by
  have hm1 : m ≤ m' ∧ erS S pt a ≤ m' ∧ (m' = m ∨ m' = erS S pt a) := by
    rw [hm]
    by_cases z : m < erS S pt a
    · rw [if_pos z]; omega
    · rw [if_neg z]; omega
  refine ⟨fun qt hq l => ?_, ?_⟩
  · by_cases z : rnk S qt (S 11 0).toNat = R + 1
    · have := rnk_inj hq hp (S 11 0).toNat (by omega) (z.trans e.symm)
      rw [erS_cg a0 (fun k k0 k1 q => this k k0 (by omega) q)]; exact hm1.2.1
    · have := h.1 qt hq (by omega); omega
  · rcases hm1.2.2 with z | z
    · obtain ⟨qt, h1, h2⟩ := h.2; exact ⟨qt, h1, z.trans h2⟩
    · exact ⟨pt, hp, z⟩
set_option maxRecDepth 100000 in
set_option maxHeartbeats 4000000 in
theorem lp_X8_nextPoint {E : Ev} {M : Mm} {N : Nn} {S : Pg} (hQ : QR S M) (hW : WF S) : ∀ (n : Nat) (k : Int) (M2 : Mm), (k + 1 = n) → (k < S 11 0) → (nxF S n (M2 (30, 0, 32)) = (nxF S (S 11 0).toNat (M (30, 0, 32)))) → (PtI S (M2 (30, 0, 32))) → (Kr [] [32] M M2) → Go E RX8 cX8_nextPoint 2 ((some .boolean)) (rmH 2) 0 0 (zM E (qi (fun r M1 N1 => r = (nxF S (S 11 0).toNat (M (30, 0, 32))).1 ∧ M1 (30, 0, 32) = (nxF S (S 11 0).toNat (M (30, 0, 32))).2 ∧ Kr [] [32] M M1 ∧ N = N1))) 7 [vr (29, 0, 0), vi k] [] M2 N := by
  intro n
  induction n using Nat.strongRecOn with
  | ind n ih =>
  intro k M2 hn hb hE hT hf
  have c6 := hQ.1
  have c5 := hQ.2.2.1
  have c0 := hQ.2.1
  refine go_iload_n dX8_nextPoint_7 rfl ?_
  refine go_if_lt (tgt := 68) dX8_nextPoint_8 rfl (fun h8 => ?_) (fun h8 => ?_)
  · refine go_iconst dX8_nextPoint_68 (R32_lit rfl) ?_
    refine go_retz dX8_nextPoint_69 (by first | exact Or.inl rfl | exact Or.inr rfl | omega) ?_
    rw [show n = 0 by omega] at hE
    have hE : ((0 : Int), M2 (30, 0, 32)) = (nxF S (S 11 0).toNat (M (30, 0, 32))) := hE
    exact ⟨by rw [← hE], by rw [← hE], hf, rfl⟩
  · have k1 : k < S 11 0 := by omega
    have k0 : 0 ≤ k := by omega
    have ns := nxF_s (S := S) (pt := M2 (30, 0, 32)) (n := n) (k := k) (by omega) hn
    have pr := (hQ.2.2.2.2 k k0 k1).2.2.1
    rw [Int.zero_add] at pr
    refine go_aload_n dX8_nextPoint_11 rfl rfl ?_
    refine g8_19 dX8_nextPoint_12 ?_
    refine go_iload_n dX8_nextPoint_15 rfl ?_
    refine go_iald dX8_nextPoint_16 rfl (by omega) (by omega) ?_
    rw [hf.a 7 (by decide), hQ.srt k0 k1]
    refine v8_248 dX8_nextPoint_17 rfl ⟨rfl, rfl⟩ ⟨rfl, rfl⟩ ct_X8_isInput (fun r1 M1 N1 hr1 hq1 => ?_)
    obtain ⟨z1, rfl, rfl⟩ := hq1
    have z1 := bit_iff z1
    refine go_if_eq (tgt := 62) dX8_nextPoint_20 rfl (fun h20 => ?_) (fun h20 => ?_)
    · refine go_iinc1c dX8_nextPoint_62 rfl rfl ⟨by omega, by omega⟩ ?_
      refine go_goto (tgt := 7) dX8_nextPoint_65 rfl ?_
      first
      | (have hnn : ¬ S 0 k = -2 := by omega
         rw [if_neg hnn] at ns
         exact ih (n - 1) (by omega) (k - 1) M2 (by omega) (by omega) (by rw [← ns]; exact hE) hT hf)
      | (rw [if_neg (by omega)] at ns
         exact ih (n - 1) (by omega) (k - 1) _ (by omega) (by omega) (by rw [upI_wr, ← ns]; exact hE) (by rw [upI_wr]; exact hT.up (by omega) (by omega)) (hf.wa (by decide)))
    · have hin : S 0 k = -2 := by omega
      rw [if_pos hin] at ns
      obtain ⟨p1, p2⟩ := pr hin
      have pt := hT k k0 k1 hin
      obtain ⟨w1, w2, w3⟩ := (hW.2.2.2.2.2.2.1 k k0 k1).1.1 hin
      refine go_aload_n dX8_nextPoint_23 rfl rfl ?_
      refine g8_62 dX8_nextPoint_24 ?_
      refine go_iload_n dX8_nextPoint_27 rfl ?_
      refine go_iald dX8_nextPoint_28 rfl (by omega) (by omega) ?_
      refine go_aload_n dX8_nextPoint_29 rfl rfl ?_
      refine g8_28 dX8_nextPoint_30 ?_
      refine go_iload_n dX8_nextPoint_33 rfl ?_
      refine go_iald dX8_nextPoint_34 rfl (by omega) (by omega) ?_
      rw [hf.a 10 (by decide), p2]
      refine go_icmp_ge (tgt := 50) dX8_nextPoint_35 rfl (fun h35 => ?_) (fun h35 => ?_)
      · refine go_aload_n dX8_nextPoint_50 rfl rfl ?_
        refine g8_62 dX8_nextPoint_51 ?_
        refine go_iload_n dX8_nextPoint_54 rfl ?_
        refine go_aload_n dX8_nextPoint_55 rfl rfl ?_
        refine g8_25 dX8_nextPoint_56 ?_
        refine go_iload_n dX8_nextPoint_59 rfl ?_
        refine go_iald dX8_nextPoint_60 rfl (by omega) (by omega) ?_
        rw [hf.a 9 (by decide), p1]
        refine go_iast dX8_nextPoint_61 rfl (by omega) (by omega) ?_
        refine go_iinc1c dX8_nextPoint_62 rfl rfl ⟨by omega, by omega⟩ ?_
        refine go_goto (tgt := 7) dX8_nextPoint_65 rfl ?_
        first
        | (have hnn : ¬ S 0 k = -2 := by omega
           rw [if_neg hnn] at ns
           exact ih (n - 1) (by omega) (k - 1) M2 (by omega) (by omega) (by rw [← ns]; exact hE) hT hf)
        | (rw [if_neg (by omega)] at ns
           exact ih (n - 1) (by omega) (k - 1) _ (by omega) (by omega) (by rw [upI_wr, ← ns]; exact hE) (by rw [upI_wr]; exact hT.up (by omega) (by omega)) (hf.wa (by decide)))
      · refine go_aload_n dX8_nextPoint_38 rfl rfl ?_
        refine g8_62 dX8_nextPoint_39 ?_
        refine go_iload_n dX8_nextPoint_42 rfl ?_
        refine go_dup2_ir dX8_nextPoint_43 ?_
        refine go_iald dX8_nextPoint_44 rfl (by omega) (by omega) ?_
        refine go_iconst dX8_nextPoint_45 (R32_lit rfl) ?_
        refine go_iaddc dX8_nextPoint_46 ⟨by omega, by omega⟩ ?_
        refine go_iast dX8_nextPoint_47 rfl (by omega) (by omega) ?_
        refine go_iconst dX8_nextPoint_48 (R32_lit rfl) ?_
        refine go_retz dX8_nextPoint_49 (by first | exact Or.inl rfl | exact Or.inr rfl | omega) ?_
        rw [if_pos (by omega)] at ns
        rw [ns] at hE
        exact ⟨by rw [← hE], by rw [← hE, upI_wr], hf.wa (by decide), rfl⟩
set_option maxRecDepth 100000 in
set_option maxHeartbeats 4000000 in
theorem ct_X8_nextPoint {E : Ev} {M : Mm} {N : Nn} {S : Pg} (hQ : QR S M) (hW : WF S) (hP : PtI S (M (30, 0, 32))) : Ct E yX8_nextPoint cX8_nextPoint 2 ((some .boolean)) (rmH 2) [vr (29, 0, 0)] M N (qi (fun r M1 N1 => r = (nxF S (S 11 0).toNat (M (30, 0, 32))).1 ∧ M1 (30, 0, 32) = (nxF S (S 11 0).toNat (M (30, 0, 32))).2 ∧ Kr [] [32] M M1 ∧ N = N1)) := by
  refine ct_of (own := RX8) (L0 := [vr (29, 0, 0), vn]) rfl (by decide +kernel) rfl rfl ?_
  have c6 := hQ.1
  have c5 := hQ.2.2.1
  have c0 := hQ.2.1
  refine go_aload_n dX8_nextPoint_0 rfl rfl ?_
  refine g8_259 dX8_nextPoint_1 ?_
  rw [c6]
  refine go_iconst dX8_nextPoint_4 (R32_lit rfl) ?_
  refine go_isubc dX8_nextPoint_5 ⟨by omega, by omega⟩ ?_
  refine go_ist1 dX8_nextPoint_6 rfl rfl ?_
  exact lp_X8_nextPoint hQ hW (S 11 0).toNat _ M (by omega) (by omega) rfl hP Kr.rf
