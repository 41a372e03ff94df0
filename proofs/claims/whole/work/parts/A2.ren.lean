/-! noises renamed: what is reckoned of some variables, and of all -/
abbrev Rny : Type := (Int → Int) × Nu × Nu
def Rho (r : Rny) : Prop := 0 ≤ r.2.1.1 ∧ 0 ≤ r.2.2.1 ∧ r.2.2.1 ≤ 63 ∧ (∀ i, 0 ≤ i → i < r.2.1.1 → 0 ≤ r.1 i ∧ r.1 i < r.2.2.1 ∧ r.2.2.2.1 (r.1 i) = r.2.1.2.1 i) ∧ ∀ i j, 0 ≤ i → i < j → j < r.2.1.1 → r.1 i < r.1 j
/-- one form, and what it is under the other names; its noises come from inputs or steps up to v -/
def Fq (S : Pg) (v : Int) (r : Rny) (a b : FV) : Prop := b.1 = a.1 ∧ (∀ i, 0 ≤ i → i < r.2.1.1 → b.2 (r.1 i) = a.2 i) ∧ (∀ j, (∀ i, 0 ≤ i → i < r.2.1.1 → r.1 i ≠ j) → b.2 j = 0) ∧ (∀ i, ¬ (0 ≤ i ∧ i < r.2.1.1) → a.2 i = 0) ∧ ∀ i, 0 ≤ i → i < r.2.1.1 → a.2 i ≠ 0 → S 0 (r.2.1.2.1 i) = -2 ∨ r.2.1.2.1 i ≤ v
/-- a noise brought on both sides -/
def rb (r : Rny) (c v b : Int) : Rny := (if c = 0 then r.1 else fun i => if i = r.2.1.1 then r.2.2.1 else r.1 i, bnu r.2.1 c v b, bnu r.2.2 c v b)
theorem rb_0 {r : Rny} {c v b : Int} (h : c = 0) : rb r c v b = r := by
  unfold rb bnu
  rw [if_pos h, if_pos h, if_pos h]
theorem rb_1 {r : Rny} {c v b : Int} (h : c ≠ 0) : rb r c v b = (fun i => if i = r.2.1.1 then r.2.2.1 else r.1 i, nw r.2.1 v b, nw r.2.2 v b) := by
  unfold rb bnu
  rw [if_neg h, if_neg h, if_neg h]
theorem rb_R {r : Rny} {c v b : Int} (h : Rho r) (k : r.2.2.1 + 1 ≤ 63) : Rho (rb r c v b) := by
  by_cases z : c = 0
  · rw [rb_0 z]; exact h
  · rw [rb_1 z]
    obtain ⟨h1, h2, h3, h4, h5⟩ := h
    refine ⟨by show 0 ≤ r.2.1.1 + 1; omega, by show 0 ≤ r.2.2.1 + 1; omega, k, fun i i0 i1 => ?_, fun i j i0 i1 j1 => ?_⟩
    · have i1 : i < r.2.1.1 + 1 := i1
      show 0 ≤ (if i = r.2.1.1 then r.2.2.1 else r.1 i) ∧ (if i = r.2.1.1 then r.2.2.1 else r.1 i) < r.2.2.1 + 1 ∧ (if (if i = r.2.1.1 then r.2.2.1 else r.1 i) = r.2.2.1 then v else r.2.2.2.1 (if i = r.2.1.1 then r.2.2.1 else r.1 i)) = if i = r.2.1.1 then v else r.2.1.2.1 i
      by_cases y : i = r.2.1.1
      · rw [if_pos y, if_pos y, if_pos rfl]
        exact ⟨by omega, by omega, rfl⟩
      · have g := h4 i i0 (by omega)
        rw [if_neg y, if_neg y, if_neg (by omega)]
        exact ⟨g.1, by omega, g.2.2⟩
    · have j1 : j < r.2.1.1 + 1 := j1
      show (if i = r.2.1.1 then r.2.2.1 else r.1 i) < (if j = r.2.1.1 then r.2.2.1 else r.1 j)
      have g := h4 i i0 (by omega)
      rw [if_neg (show ¬ i = r.2.1.1 by omega)]
      by_cases y : j = r.2.1.1
      · rw [if_pos y]; omega
      · rw [if_neg y]; exact h5 i j i0 i1 (by omega)
theorem Fq.off {S : Pg} {v : Int} {r : Rny} {a b : FV} (h : Fq S v r a b) (hR : Rho r) : b.2 r.2.2.1 = 0 := h.2.2.1 _ (fun i i0 i1 e => by have := (hR.2.2.2.1 i i0 i1).2.1; omega)
theorem rb_F {S : Pg} {r : Rny} {c u v b0 : Int} {a b : FV} (hR : Rho r) (h : Fq S u r a b) : Fq S u (rb r c v b0) a b := by
  by_cases z : c = 0
  · rw [rb_0 z]; exact h
  · have ho := h.off hR
    rw [rb_1 z]
    obtain ⟨h1, h2, h3, h4, h5⟩ := h
    refine ⟨h1, fun i i0 i1 => ?_, fun j hj => ?_, fun i hi => ?_, fun i i0 i1 hn => ?_⟩
    · have i1 : i < r.2.1.1 + 1 := i1
      show b.2 (if i = r.2.1.1 then r.2.2.1 else r.1 i) = a.2 i
      by_cases y : i = r.2.1.1
      · rw [if_pos y, ho, h4 i (by omega)]
      · rw [if_neg y]; exact h2 i i0 (by omega)
    · refine h3 j (fun i i0 i1 => ?_)
      have g : (if i = r.2.1.1 then r.2.2.1 else r.1 i) ≠ j := hj i i0 (by show i < r.2.1.1 + 1; omega)
      rw [if_neg (by omega)] at g
      exact g
    · have hi : ¬ (0 ≤ i ∧ i < r.2.1.1 + 1) := hi
      exact h4 i (by omega)
    · have i1 : i < r.2.1.1 + 1 := i1
      show S 0 (if i = r.2.1.1 then v else r.2.1.2.1 i) = -2 ∨ (if i = r.2.1.1 then v else r.2.1.2.1 i) ≤ u
      by_cases y : i = r.2.1.1
      · exact absurd (h4 i (by omega)) hn
      · rw [if_neg y]; exact h5 i i0 (by omega) hn
theorem rb_N {S : Pg} {r : Rny} {c v b0 : Int} {a b : FV} (hR : Rho r) (h : Fq S v r a b) : Fq S v (rb r c v b0) (bfo r.2.1 a c) (bfo r.2.2 b c) := by
  by_cases z : c = 0
  · rw [rb_0 z]
    unfold bfo
    rw [if_pos z, if_pos z]; exact h
  · have ho := h.off hR
    rw [rb_1 z]
    unfold bfo
    rw [if_neg z, if_neg z]
    obtain ⟨h1, h2, h3, h4, h5⟩ := h
    refine ⟨h1, fun i i0 i1 => ?_, fun j hj => ?_, fun i hi => ?_, fun i i0 i1 hn => ?_⟩
    · have i1 : i < r.2.1.1 + 1 := i1
      show (if (if i = r.2.1.1 then r.2.2.1 else r.1 i) = r.2.2.1 then w64 (b.2 (if i = r.2.1.1 then r.2.2.1 else r.1 i) + c) else b.2 (if i = r.2.1.1 then r.2.2.1 else r.1 i)) = if i = r.2.1.1 then w64 (a.2 i + c) else a.2 i
      by_cases y : i = r.2.1.1
      · rw [if_pos y, if_pos y, if_pos rfl, ho, h4 i (by omega)]
      · have g := (hR.2.2.2.1 i i0 (by omega)).2.1
        rw [if_neg y, if_neg y, if_neg (by omega)]; exact h2 i i0 (by omega)
    · have g0 : (if r.2.1.1 = r.2.1.1 then r.2.2.1 else r.1 r.2.1.1) ≠ j := hj r.2.1.1 hR.1 (by show _ < r.2.1.1 + 1; omega)
      rw [if_pos rfl] at g0
      show (if j = r.2.2.1 then w64 (b.2 j + c) else b.2 j) = 0
      rw [if_neg (fun q => g0 q.symm)]
      refine h3 j (fun i i0 i1 => ?_)
      have g : (if i = r.2.1.1 then r.2.2.1 else r.1 i) ≠ j := hj i i0 (by show i < r.2.1.1 + 1; omega)
      rw [if_neg (by omega)] at g
      exact g
    · have hi : ¬ (0 ≤ i ∧ i < r.2.1.1 + 1) := hi
      have := hR.1
      show (if i = r.2.1.1 then w64 (a.2 i + c) else a.2 i) = 0
      rw [if_neg (by omega)]
      exact h4 i (by omega)
    · have i1 : i < r.2.1.1 + 1 := i1
      have hn : (if i = r.2.1.1 then w64 (a.2 i + c) else a.2 i) ≠ 0 := hn
      show S 0 (if i = r.2.1.1 then v else r.2.1.2.1 i) = -2 ∨ (if i = r.2.1.1 then v else r.2.1.2.1 i) ≤ v
      by_cases y : i = r.2.1.1
      · rw [if_pos y]; exact Or.inr (Int.le_refl _)
      · rw [if_neg y] at hn ⊢
        exact h5 i i0 (by omega) hn
theorem Fq.ad {S : Pg} {v t : Int} {r : Rny} {a b a' b' : FV} (h : Fq S v r a b) (g : Fq S v r a' b') : Fq S v r (fad a t a') (fad b t b') := by
  obtain ⟨h1, h2, h3, h4, h5⟩ := h
  obtain ⟨g1, g2, g3, g4, g5⟩ := g
  refine ⟨?_, fun i i0 i1 => ?_, fun j hj => ?_, fun i hi => ?_, fun i i0 i1 hn => ?_⟩
  · show w64 (b.1 + t * b'.1) = w64 (a.1 + t * a'.1); rw [h1, g1]
  · show w64 (b.2 (r.1 i) + t * b'.2 (r.1 i)) = w64 (a.2 i + t * a'.2 i); rw [h2 i i0 i1, g2 i i0 i1]
  · show w64 (b.2 j + t * b'.2 j) = 0; rw [h3 j hj, g3 j hj, Int.mul_zero, Int.add_zero, w64_0]
  · show w64 (a.2 i + t * a'.2 i) = 0; rw [h4 i hi, g4 i hi, Int.mul_zero, Int.add_zero, w64_0]
  · have hn : w64 (a.2 i + t * a'.2 i) ≠ 0 := hn
    by_cases z : a.2 i = 0
    · by_cases y : a'.2 i = 0
      · rw [z, y, Int.mul_zero, Int.add_zero, w64_0] at hn
        exact absurd rfl hn
      · exact g5 i i0 i1 y
    · exact h5 i i0 i1 z
theorem Fq.ma {S : Pg} {v : Int} {r : Rny} {x a b x' a' b' : FV} (f : Fq S v r x x') (h : Fq S v r a a') (g : Fq S v r b b') : Fq S v r (fma x a b) (fma x' a' b') := by
  obtain ⟨f1, f2, f3, f4, f5⟩ := f
  obtain ⟨h1, h2, h3, h4, h5⟩ := h
  obtain ⟨g1, g2, g3, g4, g5⟩ := g
  refine ⟨?_, fun i i0 i1 => ?_, fun j hj => ?_, fun i hi => ?_, fun i i0 i1 hn => ?_⟩
  · show w64 (x'.1 + a'.1 * b'.1) = w64 (x.1 + a.1 * b.1); rw [f1, h1, g1]
  · show w64 (x'.2 (r.1 i) + (a'.1 * b'.2 (r.1 i) + b'.1 * a'.2 (r.1 i))) = w64 (x.2 i + (a.1 * b.2 i + b.1 * a.2 i)); rw [f2 i i0 i1, h2 i i0 i1, g2 i i0 i1, h1, g1]
  · show w64 (x'.2 j + (a'.1 * b'.2 j + b'.1 * a'.2 j)) = 0; rw [f3 j hj, h3 j hj, g3 j hj, Int.mul_zero, Int.mul_zero, Int.add_zero, Int.add_zero, w64_0]
  · show w64 (x.2 i + (a.1 * b.2 i + b.1 * a.2 i)) = 0; rw [f4 i hi, h4 i hi, g4 i hi, Int.mul_zero, Int.mul_zero, Int.add_zero, Int.add_zero, w64_0]
  · have hn : w64 (x.2 i + (a.1 * b.2 i + b.1 * a.2 i)) ≠ 0 := hn
    by_cases z : a.2 i = 0
    · by_cases y : b.2 i = 0
      · by_cases w : x.2 i = 0
        · rw [z, y, w, Int.mul_zero, Int.mul_zero, Int.add_zero, Int.add_zero, w64_0] at hn
          exact absurd rfl hn
        · exact f5 i i0 i1 w
      · exact g5 i i0 i1 y
    · exact h5 i i0 i1 z
theorem Fq.num {S : Pg} {v x : Int} {r : Rny} : Fq S v r (fnum x) (fnum x) := ⟨rfl, fun _ _ _ => rfl, fun _ _ => rfl, fun _ _ => rfl, fun _ _ _ h => absurd rfl h⟩
theorem Fq.up {S : Pg} {u v : Int} {r : Rny} {a b : FV} (h : Fq S u r a b) (k : u ≤ v) : Fq S v r a b := by
  obtain ⟨h1, h2, h3, h4, h5⟩ := h
  refine ⟨h1, h2, h3, h4, fun i i0 i1 hn => ?_⟩
  rcases h5 i i0 i1 hn with z | z
  · exact Or.inl z
  · exact Or.inr (by omega)
/-- a sum under other names -/
theorem sum_ren {g g' : Int → Int} {ρ : Int → Int} : ∀ m n : Nat, (∀ i : Int, 0 ≤ i → i < n → 0 ≤ ρ i ∧ ρ i < m ∧ g' (ρ i) = g i) → (∀ i j : Int, 0 ≤ i → i < j → j < n → ρ i < ρ j) → (∀ j : Int, (∀ i : Int, 0 ≤ i → i < n → ρ i ≠ j) → g' j = 0) → sumZ g' m = sumZ g n
  | 0, n, h, _, _ => by
    cases n with
    | zero => rfl
    | succ n => have := h 0 (by omega) (by omega); omega
  | m + 1, n, h, hm, ho => by
    show sumZ g' m + g' m = sumZ g n
    cases n with
    | zero =>
      rw [ho m (fun i i0 i1 => absurd i1 (by omega)), sum_ren (g := g) (ρ := ρ) m 0 (fun i i0 i1 => absurd i1 (by omega)) (fun i j _ _ j1 => absurd j1 (by omega)) ho]
      rfl
    | succ n =>
      have hn := h n (by omega) (by omega)
      by_cases z : ρ n = m
      · show sumZ g' m + g' m = sumZ g n + g n
        rw [← z, hn.2.2]
        have e : sumZ (fun j => if j = (m : Int) then 0 else g' j) m = sumZ g n := sum_ren (ρ := ρ) m n (fun i i0 i1 => by
          have a := h i i0 (by omega)
          have b := hm i n i0 (by omega) (by omega)
          refine ⟨a.1, by omega, ?_⟩
          show (if ρ i = (m : Int) then 0 else g' (ρ i)) = g i
          rw [if_neg (by omega)]; exact a.2.2) (fun i j i0 i1 j1 => hm i j i0 i1 (by omega)) (fun j hj => by
          show (if j = (m : Int) then 0 else g' j) = 0
          split
          · rfl
          · rename_i y
            refine ho j (fun i i0 i1 => ?_)
            by_cases x : i = n
            · rw [x, z]; exact fun q => y q.symm
            · exact hj i i0 (by omega))
        have e2 : sumZ (fun j => if j = (m : Int) then 0 else g' j) m = sumZ g' m := sumZ_congr m (fun i hi => by show (if (i : Int) = (m : Int) then 0 else g' i) = g' i; rw [if_neg (by omega)])
        rw [← e, e2]
      · have z2 : ρ n < m := by omega
        have bd : ∀ i : Int, 0 ≤ i → i < ((n + 1 : Nat) : Int) → ρ i < m := fun i i0 i1 => by
          by_cases x : i = n
          · rw [x]; exact z2
          · have := hm i n i0 (by omega) (by omega)
            omega
        rw [ho m (fun i i0 i1 => by have := bd i i0 i1; omega), Int.add_zero]
        exact sum_ren m (n + 1) (fun i i0 i1 => ⟨(h i i0 i1).1, bd i i0 i1, (h i i0 i1).2.2⟩) hm ho
theorem Fq.rd {S : Pg} {v : Int} {r : Rny} {a b : FV} (h : Fq S v r a b) (hR : Rho r) (hn : r.2.1.1 ≤ 63) : fra b = fra a := by
  obtain ⟨h1, h2, h3, h4, h5⟩ := h
  obtain ⟨r1, r2, r3, r4, r5⟩ := hR
  unfold fra
  refine congrArg w64 ?_
  rw [sumZ_tail r.2.1.1.toNat 63 (g := fun i => absw (a.2 i)) (by omega) (fun i hi _ => by show absw (a.2 i) = 0; rw [h4 i (by omega)]; rfl)]
  exact sum_ren (ρ := r.1) 63 r.2.1.1.toNat (fun i i0 i1 => ⟨(r4 i i0 (by omega)).1, by have := (r4 i i0 (by omega)).2.1; omega, by show absw _ = absw _; rw [h2 i i0 (by omega)]⟩) (fun i j i0 i1 j1 => r5 i j i0 i1 (by omega)) (fun j hj => by show absw (b.2 j) = 0; rw [h3 j (fun i i0 i1 => hj i i0 (by omega))]; rfl)
theorem Fq.lh {S : Pg} {v : Int} {r : Rny} {a b : FV} (h : Fq S v r a b) (hR : Rho r) (hn : r.2.1.1 ≤ 63) : flo b = flo a ∧ fhi b = fhi a := by
  unfold flo fhi
  rw [h.rd hR hn, h.1]
  exact ⟨rfl, rfl⟩
/-- the part of a step -/
theorem Fq.pt {S : Pg} {v : Int} {r : Rny} {a b : FV} (h : Fq S v r a b) (hR : Rho r) (st : Int) : ptS b r.2.2 st = ptS a r.2.1 st := by
  obtain ⟨h1, h2, h3, h4, h5⟩ := h
  obtain ⟨r1, r2, r3, r4, r5⟩ := hR
  unfold ptS
  refine congrArg w64 ?_
  refine sum_ren (ρ := r.1) _ _ (fun i i0 i1 => ?_) (fun i j i0 i1 j1 => r5 i j i0 i1 (by omega)) (fun j hj => ?_)
  · have g := r4 i i0 (by omega)
    refine ⟨g.1, by omega, ?_⟩
    unfold ptG
    rw [g.2.2, h2 i i0 (by omega)]
  · unfold ptG
    rw [h3 j (fun i i0 i1 => hj i i0 (by omega))]
    split <;> rfl
/-- later steps have no part -/
theorem Fq.pt0 {S : Pg} {v : Int} {r : Rny} {a b : FV} (h : Fq S v r a b) {st : Int} (hs : S 0 st ≠ -2) (hv : v < st) : ptS a r.2.1 st = 0 := by
  unfold ptS
  have e : sumZ (ptG a r.2.1 st) r.2.1.1.toNat = sumZ (fun _ => 0) r.2.1.1.toNat := sumZ_congr _ (fun i hi => by
    unfold ptG
    split
    · rename_i q
      by_cases z : a.2 i = 0
      · rw [z]; rfl
      · rcases h.2.2.2.2 i (by omega) (by omega) z with y | y
        · rw [q] at y; exact absurd y hs
        · rw [q] at y; omega
    · rfl)
  have z : ∀ n : Nat, sumZ (fun _ => 0) n = 0 := fun n => by
    induction n with
    | zero => rfl
    | succ n ih => show sumZ (fun _ => 0) n + 0 = 0; rw [ih]; rfl
  rw [e, z]; rfl
theorem bl_eq {S : Pg} {a b : FV} {ν ν' : Nu} (h : ∀ st, ptS b ν' st = ptS a ν st) : ∀ n : Nat, blS S b ν' n = blS S a ν n
  | 0 => rfl
  | n + 1 => by
    show (if S 0 n ≠ -2 ∧ (blS S b ν' n).2 < ptS b ν' n then ((n : Int), ptS b ν' n) else blS S b ν' n) = if S 0 n ≠ -2 ∧ (blS S a ν n).2 < ptS a ν n then ((n : Int), ptS a ν n) else blS S a ν n
    rw [bl_eq h n, h n]
theorem bl_nn {S : Pg} {a : FV} {ν : Nu} : ∀ n : Nat, 0 ≤ (blS S a ν n).2
  | 0 => Int.le_refl _
  | n + 1 => by
    have ih := bl_nn (S := S) (a := a) (ν := ν) n
    show 0 ≤ (if S 0 n ≠ -2 ∧ (blS S a ν n).2 < ptS a ν n then ((n : Int), ptS a ν n) else blS S a ν n).2
    split
    · show 0 ≤ ptS a ν n; omega
    · exact ih
/-- who is to blame is among the first ones -/
theorem bl_cut {S : Pg} {a : FV} {ν : Nu} {v : Int} (h : ∀ st, S 0 st ≠ -2 → v < st → ptS a ν st = 0) (m : Nat) (hm : v < m) : ∀ n : Nat, m ≤ n → blS S a ν n = blS S a ν m
  | 0, hn => by rw [show m = 0 by omega]
  | n + 1, hn => by
    by_cases z : m = n + 1
    · rw [z]
    · have ih := bl_cut h m hm n (by omega)
      have nn := bl_nn (S := S) (a := a) (ν := ν) n
      show (if S 0 n ≠ -2 ∧ (blS S a ν n).2 < ptS a ν n then ((n : Int), ptS a ν n) else blS S a ν n) = _
      rw [if_neg, ih]
      rintro ⟨q1, q2⟩
      rw [h n q1 (by omega)] at q2
      omega
