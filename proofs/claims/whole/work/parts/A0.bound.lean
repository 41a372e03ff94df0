/-! bounds: forms stay far below the wrap -/
def ab (x : Int) : Int := (x.natAbs : Int)
theorem ab_nn (x : Int) : 0 ≤ ab x := by unfold ab; omega
theorem ab_add (x y : Int) : ab (x + y) ≤ ab x + ab y := by unfold ab; omega
theorem ab_mul (x y : Int) : ab (x * y) = ab x * ab y := by
  unfold ab
  rw [Int.natAbs_mul]
  exact Int.natCast_mul _ _
theorem ab_w64 (x : Int) : ab (w64 x) ≤ ab x := by unfold ab w64; omega
theorem w64_sm {x : Int} (h : ab x ≤ 4611686018427387904) : w64 x = x := w64_id (by unfold ab at h; unfold R64; omega)
theorem ab_absw (x : Int) : ab (absw x) ≤ ab x := by
  unfold absw
  split
  · have := ab_w64 (-x)
    unfold ab at *
    omega
  · exact Int.le_refl _
theorem absw_ab {x : Int} (h : ab x ≤ 4611686018427387904) : absw x = ab x := by
  unfold absw
  split
  · rw [w64_sm (by unfold ab at *; omega)]
    unfold ab
    omega
  · unfold ab
    omega
theorem sumZ_le {g h : Int → Int} : ∀ n : Nat, (∀ i : Nat, i < n → g i ≤ h i) → sumZ g n ≤ sumZ h n
  | 0, _ => Int.le_refl _
  | n + 1, k => by
    have ih := sumZ_le n (fun i hi => k i (by omega))
    have := k n (by omega)
    show sumZ g n + g n ≤ sumZ h n + h n
    omega
theorem sumZ_nn {g : Int → Int} : ∀ n : Nat, (∀ i : Nat, i < n → 0 ≤ g i) → 0 ≤ sumZ g n
  | 0, _ => Int.le_refl _
  | n + 1, k => by
    have ih := sumZ_nn n (fun i hi => k i (by omega))
    have := k n (by omega)
    show 0 ≤ sumZ g n + g n
    omega
theorem sumZ_ad (g h : Int → Int) : ∀ n : Nat, sumZ (fun i => g i + h i) n = sumZ g n + sumZ h n
  | 0 => rfl
  | n + 1 => by
    have ih := sumZ_ad g h n
    show sumZ (fun i => g i + h i) n + (g n + h n) = sumZ g n + g n + (sumZ h n + h n)
    omega
theorem sumZ_ml (c : Int) (g : Int → Int) : ∀ n : Nat, sumZ (fun i => c * g i) n = c * sumZ g n
  | 0 => by show (0 : Int) = c * 0; rw [Int.mul_zero]
  | n + 1 => by
    have ih := sumZ_ml c g n
    show sumZ (fun i => c * g i) n + c * g n = c * (sumZ g n + g n)
    rw [ih, Int.mul_add]
theorem sumZ_mem {g : Int → Int} : ∀ n : Nat, (∀ i : Nat, i < n → 0 ≤ g i) → ∀ i : Nat, i < n → g i ≤ sumZ g n
  | 0, _, i, h => absurd h (by omega)
  | n + 1, k, i, h => by
    have k0 := sumZ_nn n (fun i hi => k i (by omega))
    have kn := k n (by omega)
    show g i ≤ sumZ g n + g n
    by_cases z : i = n
    · rw [z]; omega
    · have ih := sumZ_mem n (fun i hi => k i (by omega)) i (by omega)
      omega
theorem sumZ_at {c k : Int} (h : 0 ≤ c) : ∀ n : Nat, sumZ (fun i => if i = k then c else 0) n ≤ c ∧ ((n : Int) ≤ k → sumZ (fun i => if i = k then c else 0) n = 0)
  | 0 => ⟨h, fun _ => rfl⟩
  | n + 1 => by
    have ih := sumZ_at (c := c) (k := k) h n
    show sumZ (fun i => if i = k then c else 0) n + (if (n : Int) = k then c else 0) ≤ c ∧ (((n + 1 : Nat) : Int) ≤ k → sumZ (fun i => if i = k then c else 0) n + (if (n : Int) = k then c else 0) = 0)
    by_cases z : (n : Int) = k
    · rw [if_pos z, ih.2 (by omega)]
      exact ⟨by omega, fun q => by omega⟩
    · rw [if_neg z]
      exact ⟨by omega, fun q => by rw [ih.2 (by omega)]; rfl⟩
theorem ab_sum (g : Int → Int) : ∀ n : Nat, ab (sumZ g n) ≤ sumZ (fun i => ab (g i)) n
  | 0 => Int.le_refl _
  | n + 1 => by
    have ih := ab_sum g n
    have := ab_add (sumZ g n) (g n)
    show ab (sumZ g n + g n) ≤ sumZ (fun i => ab (g i)) n + ab (g n)
    omega
def rad (a : FV) : Int := sumZ (fun i => ab (a.2 i)) 63
def nrm (a : FV) : Int := ab a.1 + rad a
theorem rad_nn (a : FV) : 0 ≤ rad a := sumZ_nn _ (fun _ _ => ab_nn _)
theorem nrm_nn (a : FV) : 0 ≤ nrm a := by have := rad_nn a; have := ab_nn a.1; unfold nrm; omega
theorem fra_le (a : FV) : ab (fra a) ≤ rad a := by
  unfold fra rad
  refine Int.le_trans (ab_w64 _) (Int.le_trans (ab_sum _ _) (sumZ_le _ (fun i _ => ab_absw _)))
theorem fra_eq {a : FV} (h : rad a ≤ 4611686018427387904) : fra a = rad a := by
  have e : sumZ (fun i => absw (a.2 i)) 63 = rad a := sumZ_congr _ (fun i hi => absw_ab (Int.le_trans (sumZ_mem (g := fun i => ab (a.2 i)) 63 (fun _ _ => ab_nn _) i hi) h))
  unfold fra
  rw [e]
  have := rad_nn a
  exact w64_sm (by unfold ab; omega)
theorem flo_le (a : FV) : ab (flo a) ≤ nrm a := by
  have h1 := ab_w64 (a.1 - fra a)
  have h2 := fra_le a
  unfold flo nrm
  unfold ab at *
  omega
theorem fhi_le (a : FV) : ab (fhi a) ≤ nrm a := by
  have h1 := ab_w64 (a.1 + fra a)
  have h2 := fra_le a
  unfold fhi nrm
  unfold ab at *
  omega
theorem fl_eq {a : FV} (h : nrm a ≤ 4611686018427387904) : flo a = a.1 - rad a ∧ fhi a = a.1 + rad a := by
  have h0 := rad_nn a
  have h1 := ab_nn a.1
  unfold nrm at h
  unfold flo fhi
  rw [fra_eq (by omega)]
  exact ⟨w64_sm (by unfold ab at *; omega), w64_sm (by unfold ab at *; omega)⟩
theorem nrm_num (x : Int) : nrm (fnum x) = ab x := by
  unfold nrm rad
  have e : sumZ (fun i => ab ((fnum x).2 i)) 63 = sumZ (fun i => if i = -1 then 0 else 0) 63 := sumZ_congr _ (fun i _ => by show ab 0 = if _ then _ else _; split <;> rfl)
  have := (sumZ_at (c := 0) (k := -1) (Int.le_refl _) 63).1
  have z : 0 ≤ sumZ (fun i : Int => if i = -1 then (0 : Int) else 0) 63 := sumZ_nn _ (fun i _ => by split <;> exact Int.le_refl _)
  rw [e]
  show ab x + _ = _
  omega
theorem nrm_fz : nrm fz = 0 := nrm_num 0
theorem nrm_fad (a b : FV) {t : Int} (ht : t = 1 ∨ t = -1) : nrm (fad a t b) ≤ nrm a + nrm b := by
  have k : ∀ x y : Int, ab (w64 (x + t * y)) ≤ ab x + ab y := fun x y => by
    have := ab_w64 (x + t * y)
    rcases ht with rfl | rfl
    · unfold ab at *; omega
    · unfold ab at *; omega
  have k1 := k a.1 b.1
  have k2 : sumZ (fun i => ab (w64 (a.2 i + t * b.2 i))) 63 ≤ rad a + rad b := by
    unfold rad
    rw [← sumZ_ad]
    exact sumZ_le _ (fun i _ => k _ _)
  show ab (w64 (a.1 + t * b.1)) + sumZ (fun i => ab (w64 (a.2 i + t * b.2 i))) 63 ≤ ab a.1 + rad a + (ab b.1 + rad b)
  omega
theorem nrm_bfo (ν : Nu) (a : FV) (c : Int) : nrm (bfo ν a c) ≤ nrm a + ab c := by
  have hc := ab_nn c
  unfold bfo
  split
  · omega
  · have k2 : sumZ (fun i => ab (if i = ν.1 then w64 (a.2 i + c) else a.2 i)) 63 ≤ rad a + ab c := by
      have h1 := (sumZ_at (c := ab c) (k := ν.1) hc 63).1
      have h2 : sumZ (fun i => ab (if i = ν.1 then w64 (a.2 i + c) else a.2 i)) 63 ≤ sumZ (fun i => ab (a.2 i) + (if i = ν.1 then ab c else 0)) 63 := by
        refine sumZ_le _ (fun i _ => ?_)
        show ab (if (i : Int) = ν.1 then w64 (a.2 i + c) else a.2 i) ≤ ab (a.2 i) + (if (i : Int) = ν.1 then ab c else 0)
        split
        · exact Int.le_trans (ab_w64 _) (ab_add _ _)
        · omega
      rw [sumZ_ad] at h2
      unfold rad
      omega
    show ab a.1 + sumZ (fun i => ab (if i = ν.1 then w64 (a.2 i + c) else a.2 i)) 63 ≤ ab a.1 + rad a + ab c
    omega
theorem nrm_fma (x a b : FV) : nrm (fma x a b) ≤ nrm x + (ab a.1 * ab b.1 + ab a.1 * rad b + ab b.1 * rad a) := by
  have k1 : ab (w64 (x.1 + a.1 * b.1)) ≤ ab x.1 + ab a.1 * ab b.1 := by
    rw [← ab_mul]
    exact Int.le_trans (ab_w64 _) (ab_add _ _)
  have k2 : sumZ (fun i => ab (w64 (x.2 i + (a.1 * b.2 i + b.1 * a.2 i)))) 63 ≤ rad x + (ab a.1 * rad b + ab b.1 * rad a) := by
    unfold rad
    rw [← sumZ_ml, ← sumZ_ml, ← sumZ_ad, ← sumZ_ad]
    refine sumZ_le _ (fun i _ => ?_)
    show ab (w64 (x.2 i + (a.1 * b.2 i + b.1 * a.2 i))) ≤ ab (x.2 i) + (ab a.1 * ab (b.2 i) + ab b.1 * ab (a.2 i))
    rw [← ab_mul, ← ab_mul]
    have h1 := ab_w64 (x.2 i + (a.1 * b.2 i + b.1 * a.2 i))
    have h2 := ab_add (x.2 i) (a.1 * b.2 i + b.1 * a.2 i)
    have h3 := ab_add (a.1 * b.2 i) (b.1 * a.2 i)
    omega
  show ab (w64 (x.1 + a.1 * b.1)) + sumZ (fun i => ab (w64 (x.2 i + (a.1 * b.2 i + b.1 * a.2 i)))) 63 ≤ ab x.1 + rad x + (ab a.1 * ab b.1 + ab a.1 * rad b + ab b.1 * rad a)
  omega
theorem nrm_br (a b : FV) : ab (w64 (fra a * fra b)) ≤ rad a * rad b := by
  refine Int.le_trans (ab_w64 _) ?_
  rw [ab_mul]
  exact Int.mul_le_mul (fra_le a) (fra_le b) (ab_nn _) (rad_nn a)
/-- P of two, brought to a third -/
theorem nrm_pr (ν : Nu) (x a b : FV) : nrm (bfo ν (fma x a b) (w64 (fra a * fra b))) ≤ nrm x + nrm a * nrm b := by
  have h1 := nrm_bfo ν (fma x a b) (w64 (fra a * fra b))
  have h2 := nrm_fma x a b
  have h3 := nrm_br a b
  have e : nrm a * nrm b = ab a.1 * ab b.1 + ab a.1 * rad b + ab b.1 * rad a + rad a * rad b := by
    unfold nrm
    rw [Int.add_mul, Int.mul_add, Int.mul_add, Int.mul_comm (rad a) (ab b.1)]
    omega
  omega
theorem sq_ge {x : Int} (h : 0 ≤ x) : x ≤ x * x := by
  by_cases z : x = 0
  · rw [z]; decide
  · have := Int.mul_le_mul_of_nonneg_left (show (1 : Int) ≤ x by omega) h
    rw [Int.mul_one] at this
    exact this
theorem sq_le {x : Int} (h : 0 ≤ x) (h1 : x ≤ 1000000) : x * x ≤ 1000000000000 := Int.mul_self_le_mul_self h h1
theorem sq_sum {a b p : Int} (ha : 0 ≤ a) (hb : 0 ≤ b) (hp : 1 ≤ p) : a * a + b * b + p ≤ (a + b + p) * (a + b + p) := by
  have h1 := Int.mul_nonneg ha hb
  have h2 := Int.mul_nonneg ha (show 0 ≤ p by omega)
  have h3 := Int.mul_nonneg hb (show 0 ≤ p by omega)
  have h4 := sq_ge (show 0 ≤ p by omega)
  have e : (a + b + p) * (a + b + p) = a * a + b * b + p * p + 2 * (a * b) + 2 * (a * p) + 2 * (b * p) := by
    rw [Int.add_mul, Int.add_mul, Int.mul_add, Int.mul_add, Int.mul_add, Int.mul_add, Int.mul_add, Int.mul_add, Int.mul_comm b a, Int.mul_comm p a, Int.mul_comm p b]
    omega
  omega
theorem sq_one {a p : Int} (ha : 0 ≤ a) (hp : 1 ≤ p) : a * a + p ≤ (a + p) * (a + p) := by
  have := sq_sum ha (Int.le_refl 0) hp
  rw [Int.add_zero, Int.mul_zero, Int.add_zero] at this
  exact this
theorem sq_pick {a b p : Int} (ha : 0 ≤ a) (hb : 0 ≤ b) (hp : 1 ≤ p) : 4 * (a * a) + 4 * (b * b) + p ≤ (2 * (a + b) + p) * (2 * (a + b) + p) := by
  have h := sq_sum (a := 2 * a) (b := 2 * b) (p := p) (by omega) (by omega) hp
  have e1 : 2 * a * (2 * a) = 4 * (a * a) := by rw [Int.mul_assoc, Int.mul_left_comm a 2 a]; omega
  have e2 : 2 * b * (2 * b) = 4 * (b * b) := by rw [Int.mul_assoc, Int.mul_left_comm b 2 b]; omega
  rw [e1, e2] at h
  rw [show 2 * (a + b) + p = 2 * a + 2 * b + p by omega]
  exact h
theorem jn_lo {K : Int} : ∀ (t : List FV) (x : Int), (∀ g ∈ t, -K ≤ flo g) → -K ≤ x → -K ≤ t.foldl (fun x g => min x (flo g)) x ∧ t.foldl (fun x g => min x (flo g)) x ≤ x
  | [], x, _, h => ⟨h, Int.le_refl _⟩
  | g :: t, x, hg, h => by
    have h1 := hg g List.mem_cons_self
    have ih := jn_lo (K := K) t (min x (flo g)) (fun y hy => hg y (List.mem_cons_of_mem _ hy)) (by omega)
    show -K ≤ t.foldl (fun x g => min x (flo g)) (min x (flo g)) ∧ t.foldl (fun x g => min x (flo g)) (min x (flo g)) ≤ x
    omega
theorem jn_hi {K : Int} : ∀ (t : List FV) (x : Int), (∀ g ∈ t, fhi g ≤ K) → x ≤ K → t.foldl (fun x g => max x (fhi g)) x ≤ K ∧ x ≤ t.foldl (fun x g => max x (fhi g)) x
  | [], x, _, h => ⟨h, Int.le_refl _⟩
  | g :: t, x, hg, h => by
    have h1 := hg g List.mem_cons_self
    have ih := jn_hi (K := K) t (max x (fhi g)) (fun y hy => hg y (List.mem_cons_of_mem _ hy)) (by omega)
    show t.foldl (fun x g => max x (fhi g)) (max x (fhi g)) ≤ K ∧ x ≤ t.foldl (fun x g => max x (fhi g)) (max x (fhi g))
    omega
/-- J of some -/
theorem jn_bd {ν : Nu} {gs : List FV} {K : Int} (k0 : 0 ≤ K) (k1 : K ≤ 1000000000000000) (h : ∀ g ∈ gs, nrm g ≤ K) : nrm (jnF ν gs) ≤ 2 * K := by
  match gs, h with
  | [], _ => show nrm (fnum 0) ≤ 2 * K; rw [nrm_num]; show (0 : Int) ≤ 2 * K; omega
  | [a], h => have := h a List.mem_cons_self; show nrm a ≤ 2 * K; omega
  | a :: b :: t, h =>
    have l : ∀ g ∈ a :: b :: t, -K ≤ flo g ∧ fhi g ≤ K := fun g hg => by
      have h1 := flo_le g
      have h2 := fhi_le g
      have h3 := h g hg
      unfold ab at h1 h2
      omega
    have ha := l a List.mem_cons_self
    have hl := jn_lo (K := K) (b :: t) (flo a) (fun g hg => (l g (List.mem_cons_of_mem _ hg)).1) ha.1
    have hh := jn_hi (K := K) (b :: t) (fhi a) (fun g hg => (l g (List.mem_cons_of_mem _ hg)).2) ha.2
    have hla : flo a ≤ fhi a := by
      have := fl_eq (a := a) (by have := h a List.mem_cons_self; omega)
      have := rad_nn a
      omega
    show nrm (bfo ν (fnum (w64 (jlo (a :: b :: t) + jhi (a :: b :: t)) / 2)) (w64 (jhi (a :: b :: t) - w64 (jlo (a :: b :: t) + jhi (a :: b :: t)) / 2))) ≤ 2 * K
    have e1 : jlo (a :: b :: t) = (b :: t).foldl (fun x g => min x (flo g)) (flo a) := rfl
    have e2 : jhi (a :: b :: t) = (b :: t).foldl (fun x g => max x (fhi g)) (fhi a) := rfl
    rw [e1, e2]
    generalize (b :: t).foldl (fun x g => min x (flo g)) (flo a) = lo at *
    generalize (b :: t).foldl (fun x g => max x (fhi g)) (fhi a) = hi at *
    rw [w64_sm (x := lo + hi) (by unfold ab; omega), w64_sm (x := hi - (lo + hi) / 2) (by unfold ab; omega)]
    refine Int.le_trans (nrm_bfo _ _ _) ?_
    rw [nrm_num]
    unfold ab
    omega
/-- weights that hold for a program -/
def WtO (S : Pg) (Wt : Int → Int) : Prop := S 11 0 ≤ 15 ∧ (∀ v, 0 ≤ v → v < S 11 0 → 0 ≤ Wt v ∧ Wt v ≤ 1000000 ∧ (S 0 v = -2 → -(Wt v) ≤ S 2 v ∧ S 2 v ≤ S 3 v ∧ S 3 v ≤ Wt v) ∧ (S 0 v ≠ -2 → 0 ≤ S 0 v ∧ S 0 v ≤ 3 ∧ 0 ≤ S 4 v ∧ S 4 v ≤ 8 ∧ (∀ k, 0 ≤ k → k < opn S v → WFo S v (4 * v + k)) ∧ rwS S Wt v + p2 (S 4 v) ≤ Wt v)) ∧ ∀ i, 0 ≤ i → i < S 12 0 → 0 ≤ S 10 i ∧ S 10 i < S 11 0 ∧ S 0 (S 10 i) = -2
/-- forms are bounded by weights -/
def Fb (S : Pg) (Wt : Int → Int) (φ : Nat → FV) : Prop := ∀ w, 0 ≤ w → w < S 11 0 → nrm (φ w.toNat) + nrm (φ (15 + w.toNat)) ≤ Wt w * Wt w
theorem Fb_op {S : Pg} {Wt : Int → Int} {φ : Nat → FV} {v k : Int} (h : WtO S Wt) (hb : Fb S Wt φ) (v0 : 0 ≤ v) (v1 : v < S 11 0) (hs : S 0 v ≠ -2) (k0 : 0 ≤ k) (k1 : k < opn S v) : nrm (vA S φ v k) + nrm (dA S φ v k) ≤ opW S Wt (4 * v + k) * opW S Wt (4 * v + k) ∧ 0 ≤ opW S Wt (4 * v + k) ∧ opW S Wt (4 * v + k) ≤ 1000000 := by
  obtain ⟨-, -, -, -, o5, -⟩ := (h.2.1 v v0 v1).2.2.2 hs
  have o := o5 k k0 k1
  unfold vA dA opW
  by_cases q : 0 ≤ S 8 (4 * v + k)
  · have q2 := o.1 q
    rw [if_pos q, if_pos q, if_pos q]
    have w := h.2.1 _ q (by omega)
    exact ⟨hb _ q (by omega), w.1, w.2.1⟩
  · have q2 := o.2 (by omega)
    rw [if_neg q, if_neg q, if_neg q, nrm_num, nrm_fz, Int.add_zero]
    have e : max (S 9 (4 * v + k)) (-(S 9 (4 * v + k))) = ab (S 9 (4 * v + k)) := by unfold ab; omega
    rw [e]
    refine ⟨sq_ge (ab_nn _), ab_nn _, ?_⟩
    unfold ab
    omega
theorem p2_half {g : Int} (h0 : 0 ≤ g) (h1 : g ≤ 8) : 0 ≤ p2 (g - 1) ∧ p2 (g - 1) ≤ p2 g ∧ 1 ≤ p2 g := by
  have h : g = 0 ∨ g = 1 ∨ g = 2 ∨ g = 3 ∨ g = 4 ∨ g = 5 ∨ g = 6 ∨ g = 7 ∨ g = 8 := by omega
  rcases h with rfl | rfl | rfl | rfl | rfl | rfl | rfl | rfl | rfl <;> decide +kernel
theorem rnC_bd {S : Pg} {fi : Int → Int} {v : Int} (h0 : 0 ≤ S 4 v) (h1 : S 4 v ≤ 8) : ab (rnC S fi v) ≤ p2 (S 4 v) := by
  have := p2_half h0 h1
  unfold rnC ab
  split <;> omega
theorem sel_mm {α : Type} {x : Int} {a g : α} (h : g ∈ sel x a) : g = a := by
  unfold sel at h
  split at h
  · cases h
  · exact List.mem_singleton.mp h
theorem pkV_mem {T A B g : FV} (h : g ∈ pkV T A B) : g = A ∨ g = B := by
  unfold pkV at h
  rcases List.mem_append.mp h with h | h
  · exact Or.inl (sel_mm h)
  · exact Or.inr (sel_mm h)
theorem pkD_mem {T U A B DA DB g : FV} (h : g ∈ pkD T U A B DA DB) : g = DA ∨ g = DB ∨ g = fad (fad B 1 DB) (-1) A ∨ g = fad (fad A 1 DA) (-1) B := by
  unfold pkD at h
  rcases List.mem_append.mp h with h | h
  · rcases List.mem_append.mp h with h | h
    · rcases List.mem_append.mp h with h | h
      · exact Or.inl (sel_mm h)
      · exact Or.inr (Or.inl (sel_mm h))
    · exact Or.inr (Or.inr (Or.inl (sel_mm h)))
  · exact Or.inr (Or.inr (Or.inr (sel_mm h)))
/-- a step's forms are bounded by its weight -/
theorem Fb_st {S : Pg} {Wt fi : Int → Int} {φ : Nat → FV} {ν ν' : Nu} {v : Int} (h : WtO S Wt) (hb : Fb S Wt φ) (v0 : 0 ≤ v) (v1 : v < S 11 0) (hs : S 0 v ≠ -2) : nrm (stV S φ ν v) + nrm (bfo ν' (stD S φ ν v) (rnC S fi v)) ≤ Wt v * Wt v := by
  obtain ⟨s0, s3, g0, g8, -, hw⟩ := (h.2.1 v v0 v1).2.2.2 hs
  have hP := (p2_half g0 g8).2.2
  have o2 := opn_ge S v
  have b0 := Fb_op h hb v0 v1 hs (k := 0) (by decide) (by omega)
  have b1 := Fb_op h hb v0 v1 hs (k := 1) (by decide) (by omega)
  rw [Int.add_zero] at b0
  have hr := rnC_bd (fi := fi) g0 g8
  have hbf := nrm_bfo ν' (stD S φ ν v) (rnC S fi v)
  have n0 := nrm_nn (vA S φ v 0)
  have n1 := nrm_nn (vA S φ v 1)
  have d0 := nrm_nn (dA S φ v 0)
  have d1 := nrm_nn (dA S φ v 1)
  have key : nrm (stV S φ ν v) + nrm (stD S φ ν v) + p2 (S 4 v) ≤ (rwS S Wt v + p2 (S 4 v)) * (rwS S Wt v + p2 (S 4 v)) ∧ 0 ≤ rwS S Wt v := by
    unfold stV stD rwS
    by_cases q3 : S 0 v = 3
    · rw [if_pos q3, if_pos q3, if_pos q3]
      have b2 := Fb_op h hb v0 v1 hs (k := 2) (by decide) (by rw [opn_3 q3]; decide)
      have b3 := Fb_op h hb v0 v1 hs (k := 3) (by decide) (by rw [opn_3 q3]; decide)
      have l2 := sq_le b2.2.1 b2.2.2
      have l3 := sq_le b3.2.1 b3.2.2
      have n2 := nrm_nn (vA S φ v 2)
      have n3 := nrm_nn (vA S φ v 3)
      have d2 := nrm_nn (dA S φ v 2)
      have d3 := nrm_nn (dA S φ v 3)
      have jV := jn_bd (ν := ν) (gs := pkV (tsT S φ v) (vA S φ v 2) (vA S φ v 3)) (K := nrm (vA S φ v 2) + nrm (vA S φ v 3)) (by omega) (by omega) (fun g hg => by
        rcases pkV_mem hg with rfl | rfl <;> omega)
      have jD := jn_bd (ν := jnN ν (pkV (tsT S φ v) (vA S φ v 2) (vA S φ v 3)) v) (gs := pkD (tsT S φ v) (tsU S φ v) (vA S φ v 2) (vA S φ v 3) (dA S φ v 2) (dA S φ v 3)) (K := nrm (vA S φ v 2) + nrm (vA S φ v 3) + nrm (dA S φ v 2) + nrm (dA S φ v 3)) (by omega) (by omega) (fun g hg => by
        have f1 := nrm_fad (vA S φ v 3) (dA S φ v 3) (Or.inl rfl)
        have f2 := nrm_fad (fad (vA S φ v 3) 1 (dA S φ v 3)) (vA S φ v 2) (Or.inr rfl)
        have f3 := nrm_fad (vA S φ v 2) (dA S φ v 2) (Or.inl rfl)
        have f4 := nrm_fad (fad (vA S φ v 2) 1 (dA S φ v 2)) (vA S φ v 3) (Or.inr rfl)
        rcases pkD_mem hg with rfl | rfl | rfl | rfl <;> omega)
      have sq := sq_pick b2.2.1 b3.2.1 hP
      exact ⟨by omega, by omega⟩
    · rw [if_neg q3, if_neg q3, if_neg q3]
      by_cases q2 : S 0 v = 2
      · rw [if_pos q2, if_pos q2, if_pos q2]
        have p1 : nrm (prV ν (vA S φ v 0) (vA S φ v 1)) ≤ nrm (fnum 0) + nrm (vA S φ v 0) * nrm (vA S φ v 1) := nrm_pr _ _ _ _
        have p2' : nrm (prD1 ν (vA S φ v 0) (vA S φ v 1) (dA S φ v 1) v) ≤ nrm (fnum 0) + nrm (vA S φ v 0) * nrm (dA S φ v 1) := nrm_pr _ _ _ _
        have p3 : nrm (prD2 ν (vA S φ v 0) (vA S φ v 1) (dA S φ v 0) (dA S φ v 1) v) ≤ nrm (prD1 ν (vA S φ v 0) (vA S φ v 1) (dA S φ v 1) v) + nrm (dA S φ v 0) * nrm (vA S φ v 1) := nrm_pr _ _ _ _
        have p4 : nrm (prD3 ν (vA S φ v 0) (vA S φ v 1) (dA S φ v 0) (dA S φ v 1) v) ≤ nrm (prD2 ν (vA S φ v 0) (vA S φ v 1) (dA S φ v 0) (dA S φ v 1) v) + nrm (dA S φ v 0) * nrm (dA S φ v 1) := nrm_pr _ _ _ _
        have z0 : nrm (fnum 0) = 0 := nrm_num 0
        have m : (nrm (vA S φ v 0) + nrm (dA S φ v 0)) * (nrm (vA S φ v 1) + nrm (dA S φ v 1)) ≤ (opW S Wt (4 * v) * opW S Wt (4 * v)) * (opW S Wt (4 * v + 1) * opW S Wt (4 * v + 1)) := Int.mul_le_mul b0.1 b1.1 (by omega) (Int.mul_nonneg b0.2.1 b0.2.1)
        have e1 : (nrm (vA S φ v 0) + nrm (dA S φ v 0)) * (nrm (vA S φ v 1) + nrm (dA S φ v 1)) = nrm (vA S φ v 0) * nrm (vA S φ v 1) + nrm (vA S φ v 0) * nrm (dA S φ v 1) + (nrm (dA S φ v 0) * nrm (vA S φ v 1) + nrm (dA S φ v 0) * nrm (dA S φ v 1)) := by rw [Int.add_mul, Int.mul_add, Int.mul_add]
        have e2 : (opW S Wt (4 * v) * opW S Wt (4 * v)) * (opW S Wt (4 * v + 1) * opW S Wt (4 * v + 1)) = (opW S Wt (4 * v) * opW S Wt (4 * v + 1)) * (opW S Wt (4 * v) * opW S Wt (4 * v + 1)) := by
          rw [Int.mul_assoc, Int.mul_assoc, Int.mul_left_comm (opW S Wt (4 * v)) (opW S Wt (4 * v + 1)) (opW S Wt (4 * v + 1))]
        have nn := Int.mul_nonneg b0.2.1 b1.2.1
        have sq := sq_one nn hP
        exact ⟨by omega, nn⟩
      · rw [if_neg q2, if_neg q2, if_neg q2]
        have ht : sgn S v = 1 ∨ sgn S v = -1 := by unfold sgn; split; exact Or.inl rfl; exact Or.inr rfl
        have f1 := nrm_fad (vA S φ v 0) (vA S φ v 1) ht
        have f2 := nrm_fad (dA S φ v 0) (dA S φ v 1) ht
        have sq := sq_sum b0.2.1 b1.2.1 hP
        exact ⟨by omega, by omega⟩
  have hm := Int.mul_self_le_mul_self (show 0 ≤ rwS S Wt v + p2 (S 4 v) by omega) hw
  omega
theorem vu_at {φ : Nat → FV} {k j : Nat} {a : FV} : va_up φ k a j = if j = k then a else φ j := rfl
theorem Fb_up {S : Pg} {Wt : Int → Int} {φ : Nat → FV} {v : Int} {A D : FV} (n15 : S 11 0 ≤ 15) (hb : Fb S Wt φ) (v0 : 0 ≤ v) (v1 : v < S 11 0) (h : nrm A + nrm D ≤ Wt v * Wt v) : Fb S Wt (va_up (va_up φ v.toNat A) (15 + v.toNat) D) := by
  intro w w0 w1
  rw [vu_at, vu_at, vu_at, vu_at]
  by_cases z : w = v
  · rw [z] at w1 ⊢
    rw [if_neg (by omega), if_pos rfl, if_pos rfl]; exact h
  · by_cases y : w.toNat = 15 + v.toNat
    · exact absurd y (by omega)
    · rw [if_neg y, if_neg (by omega), if_neg (by omega)]
      rw [if_neg (by omega)]; exact hb w w0 w1
