/-! the forms of a program, by its variables: forms (values 0.., drifts 15..), noises, may bits -/
abbrev FT : Type := (Nat → FV) × Nu × (Int → Int)
def inF (lo hi : Int → Int) (v : Int) (s : FT) : FT := (va_up (va_up s.1 v.toNat (fno (fnum (lo v + (hi v - lo v).tdiv 2)) s.2.1.1 ((hi v - lo v).tdiv 2))) (15 + v.toNat) fz, nw s.2.1 v 0, maU s.2.2 v 0)
/-- the inputs, by a row of them -/
def inI (lo hi ia : Int → Int) (s : FT) : Nat → FT
  | 0 => s
  | i + 1 => inF lo hi (ia i) (inI lo hi ia s i)
def tsT (S : Pg) (φ : Nat → FV) (v : Int) : FV := fad (vA S φ v 0) (-1) (vA S φ v 1)
def tsU (S : Pg) (φ : Nat → FV) (v : Int) : FV := fad (dA S φ v 0) (-1) (dA S φ v 1)
def sgn (S : Pg) (v : Int) : Int := if S 0 v = 0 then 1 else -1
def stV (S : Pg) (φ : Nat → FV) (ν : Nu) (v : Int) : FV :=
  if S 0 v = 3 then jnF ν (pkV (tsT S φ v) (vA S φ v 2) (vA S φ v 3))
  else if S 0 v = 2 then prV ν (vA S φ v 0) (vA S φ v 1)
  else fad (vA S φ v 0) (sgn S v) (vA S φ v 1)
def stD (S : Pg) (φ : Nat → FV) (ν : Nu) (v : Int) : FV :=
  if S 0 v = 3 then jnF (jnN ν (pkV (tsT S φ v) (vA S φ v 2) (vA S φ v 3)) v) (pkD (tsT S φ v) (tsU S φ v) (vA S φ v 2) (vA S φ v 3) (dA S φ v 2) (dA S φ v 3))
  else if S 0 v = 2 then prD3 ν (vA S φ v 0) (vA S φ v 1) (dA S φ v 0) (dA S φ v 1) v
  else fad (dA S φ v 0) (sgn S v) (dA S φ v 1)
def stN (S : Pg) (φ : Nat → FV) (ν : Nu) (v : Int) : Nu :=
  if S 0 v = 3 then jnN (jnN ν (pkV (tsT S φ v) (vA S φ v 2) (vA S φ v 3)) v) (pkD (tsT S φ v) (tsU S φ v) (vA S φ v 2) (vA S φ v 3) (dA S φ v 2) (dA S φ v 3)) v
  else if S 0 v = 2 then prN4 ν (vA S φ v 0) (vA S φ v 1) (dA S φ v 0) (dA S φ v 1) v
  else ν
def stM (S : Pg) (φ : Nat → FV) (v : Int) : Int := if S 0 v = 3 then wyS (tsT S φ v) (tsU S φ v) else 0
/-- what rounding brings -/
def rnC (S : Pg) (fi : Int → Int) (v : Int) : Int := if rfS S fi v < S 4 v then p2 (S 4 v - 1) else 0
def stF (S : Pg) (fi : Int → Int) (v : Int) (s : FT) : FT :=
  (va_up (va_up s.1 v.toNat (stV S s.1 s.2.1 v)) (15 + v.toNat) (bfo (stN S s.1 s.2.1 v) (stD S s.1 s.2.1 v) (rnC S fi v)), bnu (stN S s.1 s.2.1 v) (rnC S fi v) v 3, maU s.2.2 v (stM S s.1 v))
def skF (S : Pg) (fi : Int → Int) (W : Int → Bool) (s : FT) : Nat → FT
  | 0 => s
  | v + 1 => if S 0 v ≠ -2 ∧ W v = true then stF S fi v (skF S fi W s v) else skF S fi W s v
/-- how many steps there are among the first ones -/
def cnS (S : Pg) : Nat → Int
  | 0 => 0
  | v + 1 => if S 0 v ≠ -2 then cnS S v + 1 else cnS S v
theorem cnS_le (S : Pg) (m : Nat) : ∀ n : Nat, m ≤ n → cnS S m ≤ cnS S n
  | 0, h => by rw [show m = 0 by omega]; exact Int.le_refl _
  | n + 1, h => by
    by_cases e : m = n + 1
    · rw [e]; exact Int.le_refl _
    · have ih := cnS_le S m n (by omega)
      show _ ≤ if S 0 n ≠ -2 then cnS S n + 1 else cnS S n
      split <;> omega
/-- forms agree on a variable -/
def Ag (φ φ' : Nat → FV) (w : Nat) : Prop := φ w = φ' w ∧ φ (15 + w) = φ' (15 + w)
/-- .. on a step's operands -/
def Op (S : Pg) (v : Int) (φ φ' : Nat → FV) : Prop := ∀ k, 0 ≤ k → k < opn S v → 0 ≤ S 8 (4 * v + k) → Ag φ φ' (S 8 (4 * v + k)).toNat
theorem vA_op {S : Pg} {v k : Int} {φ φ' : Nat → FV} (h : Op S v φ φ') (k0 : 0 ≤ k) (k1 : k < opn S v) : vA S φ v k = vA S φ' v k ∧ dA S φ v k = dA S φ' v k := by
  unfold vA dA
  split
  · rename_i q; exact h k k0 k1 q
  · exact ⟨rfl, rfl⟩
theorem st_congr {S : Pg} {v : Int} {φ φ' : Nat → FV} {ν : Nu} (h : Op S v φ φ') : stV S φ ν v = stV S φ' ν v ∧ stD S φ ν v = stD S φ' ν v ∧ stN S φ ν v = stN S φ' ν v ∧ stM S φ v = stM S φ' v := by
  have a0 := vA_op h (k := 0) (by decide) (by have := opn_ge S v; omega)
  have a1 := vA_op h (k := 1) (by decide) (by have := opn_ge S v; omega)
  unfold stV stD stN stM tsT tsU
  rw [a0.1, a0.2, a1.1, a1.2]
  by_cases h3 : S 0 v = 3
  · have a2 := vA_op h (k := 2) (by decide) (by rw [opn_3 h3]; decide)
    have a3 := vA_op h (k := 3) (by decide) (by rw [opn_3 h3]; decide)
    rw [a2.1, a2.2, a3.1, a3.2]
    exact ⟨rfl, rfl, rfl, rfl⟩
  · simp only [if_neg h3, and_self]
theorem jnN_le {ν : Nu} {gs : List FV} {v : Int} : ν.1 ≤ (jnN ν gs v).1 ∧ (jnN ν gs v).1 ≤ ν.1 + 1 := by
  unfold jnN
  split
  · omega
  · omega
  · exact bnu_le
theorem stN_le {S : Pg} {φ : Nat → FV} {ν : Nu} {v : Int} : ν.1 ≤ (stN S φ ν v).1 ∧ (stN S φ ν v).1 ≤ ν.1 + 4 := by
  unfold stN
  split
  · have h1 := jnN_le (ν := ν) (gs := pkV (tsT S φ v) (vA S φ v 2) (vA S φ v 3)) (v := v)
    have h2 := jnN_le (ν := jnN ν (pkV (tsT S φ v) (vA S φ v 2) (vA S φ v 3)) v) (gs := pkD (tsT S φ v) (tsU S φ v) (vA S φ v 2) (vA S φ v 3) (dA S φ v 2) (dA S φ v 3)) (v := v)
    omega
  · split
    · unfold prN4
      have h1 := bnu_le (ν := ν) (c := w64 (fra (vA S φ v 0) * fra (vA S φ v 1))) (v := v) (b := 1)
      have h2 := bnu_le (ν := prN1 ν (vA S φ v 0) (vA S φ v 1) v) (c := w64 (fra (vA S φ v 0) * fra (dA S φ v 1))) (v := v) (b := 1)
      have h3 := bnu_le (ν := prN2 ν (vA S φ v 0) (vA S φ v 1) (dA S φ v 1) v) (c := w64 (fra (dA S φ v 0) * fra (vA S φ v 1))) (v := v) (b := 1)
      have h4 := bnu_le (ν := prN3 ν (vA S φ v 0) (vA S φ v 1) (dA S φ v 0) (dA S φ v 1) v) (c := w64 (fra (dA S φ v 0) * fra (dA S φ v 1))) (v := v) (b := 1)
      have e1 : (prN1 ν (vA S φ v 0) (vA S φ v 1) v).1 = (bnu ν (w64 (fra (vA S φ v 0) * fra (vA S φ v 1))) v 1).1 := rfl
      have e2 : (prN2 ν (vA S φ v 0) (vA S φ v 1) (dA S φ v 1) v).1 = (bnu (prN1 ν (vA S φ v 0) (vA S φ v 1) v) (w64 (fra (vA S φ v 0) * fra (dA S φ v 1))) v 1).1 := rfl
      have e3 : (prN3 ν (vA S φ v 0) (vA S φ v 1) (dA S φ v 0) (dA S φ v 1) v).1 = (bnu (prN2 ν (vA S φ v 0) (vA S φ v 1) (dA S φ v 1) v) (w64 (fra (dA S φ v 0) * fra (vA S φ v 1))) v 1).1 := rfl
      omega
    · omega
/-- a program that may be reckoned -/
def RC (S : Pg) : Prop := 0 ≤ S 11 0 ∧ S 11 0 ≤ 15 ∧ 0 ≤ S 12 0 ∧ S 12 0 ≤ 3 ∧ cnS S (S 11 0).toNat ≤ 12 ∧
  (∀ i, 0 ≤ i → i < S 12 0 → 0 ≤ S 10 i ∧ S 10 i < S 11 0 ∧ -1000 ≤ S 2 (S 10 i) ∧ S 2 (S 10 i) ≤ S 3 (S 10 i) ∧ S 3 (S 10 i) ≤ 1000) ∧
  (∀ v, 0 ≤ v → v < S 11 0 → S 0 v = -2 → ∃ i, 0 ≤ i ∧ i < S 12 0 ∧ S 10 i = v) ∧
  (∀ i, 0 ≤ i → i < S 12 0 → S 0 (S 10 i) = -2) ∧
  ∀ v, 0 ≤ v → v < S 11 0 → S 0 v ≠ -2 → OKv S v ∧ 0 ≤ S 4 v ∧ S 4 v ≤ 8 ∧ 0 ≤ S 0 v ∧ S 0 v ≤ 3
/-- what is wanted is closed under operands -/
def Clo (S : Pg) (W : Int → Bool) : Prop := ∀ v, 0 ≤ v → v < S 11 0 → S 0 v ≠ -2 → W v = true → ∀ k, 0 ≤ k → k < opn S v → 0 ≤ S 8 (4 * v + k) → S 0 (S 8 (4 * v + k)) ≠ -2 → W (S 8 (4 * v + k)) = true
