/-! the greatest error of all points: the class moves its first input first -/
/-- points within ranges, by the row of inputs -/
def PtJ (S : Pg) (pt : Int → Int) : Prop := ∀ i, 0 ≤ i → i < S 12 0 → S 2 (S 10 i) ≤ pt (S 10 i) ∧ pt (S 10 i) ≤ S 3 (S 10 i)
theorem PtJ_I {S : Pg} (hW : WF S) {pt : Int → Int} : PtJ S pt ↔ PtI S pt := by
  constructor
  · intro h k k0 k1 q
    obtain ⟨i1, i2, i3⟩ := in_at hW k0 k1 q
    have g := h _ i1 i2
    rw [i3] at g
    exact g
  · intro h i i0 i1
    have k := hW.2.2.2.2.2.2.2.1 i i0 i1
    exact h _ k.1 k.2.1 k.2.2
def rki (S : Pg) (pt : Int → Int) : Nat → Int
  | 0 => 0
  | i + 1 => rki S pt i + (pt (S 10 i) - S 2 (S 10 i)) * ptI S i
theorem ptI_1 {S : Pg} (hW : WF S) (k : Nat) (hk : (k : Int) ≤ S 12 0) : 1 ≤ ptI S k := (ptI_bd hW.iw k hk).1
theorem rki_bd {S : Pg} (hW : WF S) {pt : Int → Int} (h : PtJ S pt) : ∀ n : Nat, (n : Int) ≤ S 12 0 → 0 ≤ rki S pt n ∧ rki S pt n ≤ ptI S n - 1
  | 0, _ => ⟨Int.le_refl _, by show (0 : Int) ≤ 1 - 1; decide⟩
  | n + 1, hn => by
    have ih := rki_bd hW h n (by omega)
    have p := ptI_1 hW n (by omega)
    have g := h n (by omega) (by omega)
    show 0 ≤ rki S pt n + (pt (S 10 n) - S 2 (S 10 n)) * ptI S n ∧ rki S pt n + (pt (S 10 n) - S 2 (S 10 n)) * ptI S n ≤ ptI S n * (S 3 (S 10 n) - S 2 (S 10 n) + 1) - 1
    have a := Int.mul_nonneg (show 0 ≤ pt (S 10 n) - S 2 (S 10 n) by omega) (show 0 ≤ ptI S n by omega)
    have b := Int.mul_le_mul_of_nonneg_right (show pt (S 10 n) - S 2 (S 10 n) ≤ S 3 (S 10 n) - S 2 (S 10 n) by omega) (show 0 ≤ ptI S n by omega)
    have e : ptI S n * (S 3 (S 10 n) - S 2 (S 10 n) + 1) = (S 3 (S 10 n) - S 2 (S 10 n)) * ptI S n + ptI S n := by rw [Int.mul_add, Int.mul_one, Int.mul_comm]
    omega
theorem rki_inj {S : Pg} (hW : WF S) {pt qt : Int → Int} (h : PtJ S pt) (g : PtJ S qt) : ∀ n : Nat, (n : Int) ≤ S 12 0 → rki S pt n = rki S qt n → ∀ i : Int, 0 ≤ i → i < n → pt (S 10 i) = qt (S 10 i)
  | 0, _, _, i, i0, i1 => absurd i1 (by omega)
  | n + 1, hn, e, i, i0, i1 => by
    have e : rki S pt n + (pt (S 10 n) - S 2 (S 10 n)) * ptI S n = rki S qt n + (qt (S 10 n) - S 2 (S 10 n)) * ptI S n := e
    have p := ptI_1 hW n (by omega)
    have b1 := rki_bd hW h n (by omega)
    have b2 := rki_bd hW g n (by omega)
    have er := dm_eq (r := pt (S 10 n) - S 2 (S 10 n)) (r' := qt (S 10 n) - S 2 (S 10 n)) (w := ptI S n) (d := rki S pt n) (d' := rki S qt n) (by omega) (by omega) (by omega) (by omega) (by omega) (by omega)
    by_cases z : i = n
    · rw [z]; omega
    · rw [er] at e
      exact rki_inj hW h g n (by omega) (by omega) i i0 (by omega)
theorem rki_up {S : Pg} (hW : WF S) {pt : Int → Int} {i x : Int} (i0 : 0 ≤ i) (i1 : i < S 12 0) : ∀ n : Nat, (n : Int) ≤ S 12 0 → rki S (upI pt (S 10 i) x) n = rki S pt n + (if i < n then (x - pt (S 10 i)) * ptI S i.toNat else 0)
  | 0, _ => by rw [if_neg (by omega)]; rfl
  | n + 1, hn => by
    have ih := rki_up (pt := pt) (x := x) hW i0 i1 n (by omega)
    show rki S (upI pt (S 10 i) x) n + (upI pt (S 10 i) x (S 10 n) - S 2 (S 10 n)) * ptI S n = rki S pt n + (pt (S 10 n) - S 2 (S 10 n)) * ptI S n + (if i < ((n + 1 : Nat) : Int) then (x - pt (S 10 i)) * ptI S i.toNat else 0)
    rw [ih]
    by_cases z : i = n
    · rw [if_neg (by omega), if_pos (by omega), z, upI_eq, show ((n : Int)).toNat = n by omega]
      have e : (x - S 2 (S 10 n)) * ptI S n = (pt (S 10 n) - S 2 (S 10 n)) * ptI S n + (x - pt (S 10 n)) * ptI S n := by
        rw [← Int.add_mul, show pt (S 10 n) - S 2 (S 10 n) + (x - pt (S 10 n)) = x - S 2 (S 10 n) by omega]
      omega
    · rw [upI_ne (fun w => z (in_inj hW i0 i1 (by omega) (by omega) w.symm))]
      by_cases t : i < n
      · rw [if_pos t, if_pos (by omega)]; omega
      · rw [if_neg t, if_neg (by omega)]; omega
theorem PtJ_up {S : Pg} {pt : Int → Int} {i x : Int} (h : PtJ S pt) (h2 : S 2 (S 10 i) ≤ x) (h3 : x ≤ S 3 (S 10 i)) : PtJ S (upI pt (S 10 i) x) := fun j j0 j1 => by
  unfold upI
  split
  · rename_i z; rw [z]; exact ⟨h2, h3⟩
  · exact h j j0 j1
/-- the next point -/
theorem goF_rk {S : Pg} (hW : WF S) : ∀ (k : Nat) (i : Int) (pt : Int → Int), 0 ≤ i → i + k = S 12 0 → PtJ S pt → PtJ S (goF S k i pt).2 ∧ ((goF S k i pt).1 = 1 → rki S (goF S k i pt).2 (S 12 0).toNat = rki S pt (S 12 0).toNat + ptI S i.toNat) ∧ ((goF S k i pt).1 = 0 → rki S pt (S 12 0).toNat = rki S pt i.toNat + ptI S (S 12 0).toNat - ptI S i.toNat)
  | 0, i, pt, i0, hi, hp => by
    rw [show i = S 12 0 by omega]
    exact ⟨hp, fun h => absurd (show (0 : Int) = 1 from h) (by decide), fun _ => by omega⟩
  | k + 1, i, pt, i0, hi, hp => by
    have p := ptI_1 hW i.toNat (by omega)
    have g := hp i i0 (by omega)
    have eP : ptI S (i + 1).toNat = ptI S i.toNat * (S 3 (S 10 i) - S 2 (S 10 i) + 1) := by
      rw [show (i + 1).toNat = i.toNat + 1 by omega]
      show ptI S i.toNat * (S 3 (S 10 (i.toNat : Int)) - S 2 (S 10 (i.toNat : Int)) + 1) = _
      rw [Int.toNat_of_nonneg i0]
    have eR : rki S pt (i + 1).toNat = rki S pt i.toNat + (pt (S 10 i) - S 2 (S 10 i)) * ptI S i.toNat := by
      rw [show (i + 1).toNat = i.toNat + 1 by omega]
      show rki S pt i.toNat + (pt (S 10 (i.toNat : Int)) - S 2 (S 10 (i.toNat : Int))) * ptI S i.toNat = _
      rw [Int.toNat_of_nonneg i0]
    have eG : goF S (k + 1) i pt = if pt (S 10 i) < S 3 (S 10 i) then (1, upI pt (S 10 i) (pt (S 10 i) + 1)) else goF S k (i + 1) (upI pt (S 10 i) (S 2 (S 10 i))) := rfl
    rw [eG]
    by_cases c : pt (S 10 i) < S 3 (S 10 i)
    · rw [if_pos c]
      refine ⟨PtJ_up hp (by omega) (by omega), fun _ => ?_, fun h => absurd (show (1 : Int) = 0 from h) (by decide)⟩
      show rki S (upI pt (S 10 i) (pt (S 10 i) + 1)) (S 12 0).toNat = _
      rw [rki_up hW i0 (by omega) _ (by omega), if_pos (by omega), show pt (S 10 i) + 1 - pt (S 10 i) = 1 by omega, Int.one_mul]
    · rw [if_neg c]
      have ih := goF_rk hW k (i + 1) (upI pt (S 10 i) (S 2 (S 10 i))) (by omega) (by omega) (PtJ_up hp (Int.le_refl _) (by omega))
      have r1 := rki_up (pt := pt) (x := S 2 (S 10 i)) hW i0 (by omega) (S 12 0).toNat (by omega)
      have r2 := rki_up (pt := pt) (x := S 2 (S 10 i)) hW i0 (by omega) (i + 1).toNat (by omega)
      rw [if_pos (by omega)] at r1 r2
      have e3 : pt (S 10 i) = S 3 (S 10 i) := by omega
      rw [e3] at r1 r2 eR
      have e4 : (S 2 (S 10 i) - S 3 (S 10 i)) * ptI S i.toNat + ptI S (i + 1).toNat = ptI S i.toNat := by
        rw [eP, Int.mul_comm (ptI S i.toNat), ← Int.add_mul, show S 2 (S 10 i) - S 3 (S 10 i) + (S 3 (S 10 i) - S 2 (S 10 i) + 1) = 1 by omega, Int.one_mul]
      have e5 : (S 2 (S 10 i) - S 3 (S 10 i)) * ptI S i.toNat + (S 3 (S 10 i) - S 2 (S 10 i)) * ptI S i.toNat = 0 := by
        rw [← Int.add_mul, show S 2 (S 10 i) - S 3 (S 10 i) + (S 3 (S 10 i) - S 2 (S 10 i)) = 0 by omega, Int.zero_mul]
      refine ⟨ih.1, fun h => ?_, fun h => ?_⟩
      · have := ih.2.1 h
        omega
      · have := ih.2.2 h
        omega
/-- the greatest up to a rank, in the class's order -/
def MXq (S : Pg) (a m R : Int) : Prop := (∀ pt, PtJ S pt → rki S pt (S 12 0).toNat ≤ R → erS S pt a ≤ m) ∧ ∃ pt, PtJ S pt ∧ m = erS S pt a
theorem er_row {S : Pg} (hW : WF S) {a : Int} {pt qt : Int → Int} (a0 : 0 ≤ a) (a1 : a < S 11 0) (h : ∀ i, 0 ≤ i → i < S 12 0 → pt (S 10 i) = qt (S 10 i)) : erS S pt a = erS S qt a := erS_cg a0 (fun k k0 k1 q => by
  obtain ⟨i1, i2, i3⟩ := in_at hW k0 (by omega) q
  have g := h _ i1 i2
  rw [i3] at g
  exact g)
theorem MXq_all {S : Pg} (hW : WF S) {a m R : Int} (h : MXq S a m R) (hR : ptI S (S 12 0).toNat - 1 ≤ R) : MX S a m := by
  have n0 := hW.2.2.1
  refine ⟨fun pt hp => ?_, ?_⟩
  · have hj := (PtJ_I hW).mpr hp
    have b := rki_bd hW hj (S 12 0).toNat (by omega)
    exact h.1 pt hj (by omega)
  · obtain ⟨pt, hp, e⟩ := h.2
    exact ⟨pt, (PtJ_I hW).mp hp, e⟩
theorem ga_MX {S : Pg} (hW : WF S) {a : Int} (a0 : 0 ≤ a) (a1 : a < S 11 0) : ∀ (k : Nat) (pt : Int → Int) (m R : Int), PtJ S pt → rki S pt (S 12 0).toNat = R → MXq S a m R → ptI S (S 12 0).toNat - 1 ≤ R + k → MX S a (gaS S a k pt m)
  | 0, pt, m, R, hp, hR, hm, hk => MXq_all hW hm (by omega)
  | k + 1, pt, m, R, hp, hR, hm, hk => by
    have n0 := hW.2.2.1
    have g := goF_rk hW (S 12 0).toNat 0 pt (by omega) (by omega) hp
    have b := goF_b S (S 12 0).toNat 0 pt
    have p0 : ptI S (0 : Int).toNat = 1 := rfl
    have r0 : rki S pt (0 : Int).toNat = 0 := rfl
    have eG : gaS S a (k + 1) pt m = if (goF S (S 12 0).toNat 0 pt).1 = 0 then m else gaS S a k (goF S (S 12 0).toNat 0 pt).2 (max m (erS S (goF S (S 12 0).toNat 0 pt).2 a)) := rfl
    rw [eG]
    by_cases c : (goF S (S 12 0).toNat 0 pt).1 = 0
    · rw [if_pos c]
      have := g.2.2 c
      exact MXq_all hW hm (by omega)
    · rw [if_neg c]
      have e1 := g.2.1 (by omega)
      refine ga_MX hW a0 a1 k _ _ (R + 1) g.1 (by omega) ⟨fun qt hq hr => ?_, ?_⟩ (by omega)
      · by_cases z : rki S qt (S 12 0).toNat ≤ R
        · have := hm.1 qt hq z
          omega
        · have e := er_row hW a0 a1 (fun i i0 i1 => rki_inj hW hq g.1 (S 12 0).toNat (by omega) (by omega) i i0 (by omega))
          rw [e]
          omega
      · by_cases z : m ≤ erS S (goF S (S 12 0).toNat 0 pt).2 a
        · exact ⟨_, g.1, by omega⟩
        · obtain ⟨qt, hq, e⟩ := hm.2
          exact ⟨qt, hq, by omega⟩
theorem frS_at {S : Pg} (hW : WF S) {pt : Int → Int} : ∀ n : Nat, (n : Int) ≤ S 12 0 → ∀ i : Int, 0 ≤ i → i < n → frS S pt n (S 10 i) = S 2 (S 10 i)
  | 0, _, i, i0, i1 => absurd i1 (by omega)
  | n + 1, hn, i, i0, i1 => by
    show upI (frS S pt n) (S 10 n) (S 2 (S 10 n)) (S 10 i) = _
    by_cases z : i = n
    · rw [z, upI_eq]
    · rw [upI_ne (fun w => z (in_inj hW i0 (by omega) (by omega) (by omega) w))]
      exact frS_at hW n (by omega) i i0 (by omega)
theorem ga_all {S : Pg} (hW : WF S) {a : Int} {pt : Int → Int} (a0 : 0 ≤ a) (a1 : a < S 11 0) (h : ptI S (S 12 0).toNat ≤ 2000) : MX S a (gaS S a 2000 (frS S pt (S 12 0).toNat) (erS S (frS S pt (S 12 0).toNat) a)) := by
  have n0 := hW.2.2.1
  have f := frS_at (pt := pt) hW (S 12 0).toNat (by omega)
  have hp : PtJ S (frS S pt (S 12 0).toNat) := fun i i0 i1 => by
    have k := hW.2.2.2.2.2.2.2.1 i i0 i1
    have w := (hW.2.2.2.2.2.2.1 _ k.1 k.2.1).1.1 k.2.2
    rw [f i i0 (by omega)]
    omega
  have z : ∀ n : Nat, (n : Int) ≤ S 12 0 → rki S (frS S pt (S 12 0).toNat) n = 0 := by
    intro n
    induction n with
    | zero => intro _; rfl
    | succ n ih =>
      intro hn
      show rki S (frS S pt (S 12 0).toNat) n + (frS S pt (S 12 0).toNat (S 10 n) - S 2 (S 10 n)) * ptI S n = 0
      rw [ih (by omega), f n (by omega) (by omega), Int.sub_self, Int.zero_mul]; rfl
  refine ga_MX hW a0 a1 2000 _ _ 0 hp (z _ (by omega)) ⟨fun qt hq hr => ?_, _, hp, rfl⟩ (by omega)
  have b := rki_bd hW hq (S 12 0).toNat (by omega)
  have e := er_row hW a0 a1 (fun i i0 i1 => rki_inj hW hq hp (S 12 0).toNat (by omega) (by rw [z _ (by omega)]; omega) i i0 (by omega))
  rw [e]
  exact Int.le_refl _
theorem MX_eq {S : Pg} {a m m' : Int} (h : MX S a m) (g : MX S a m') : m = m' := by
  obtain ⟨h1, pt, hp, e1⟩ := h
  obtain ⟨g1, qt, hq, e2⟩ := g
  have a1 := h1 qt hq
  have a2 := g1 pt hp
  omega
