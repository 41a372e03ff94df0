/-! forms: a middle and numbers by noises, with the wrap of longs -/
abbrev FV : Type := Int × (Int → Int)
def fz : FV := (0, fun _ => 0)
def fnum (x : Int) : FV := (x, fun _ => 0)
/-- one and a number times another -/
def fad (a : FV) (t : Int) (b : FV) : FV := (w64 (a.1 + t * b.1), fun i => w64 (a.2 i + t * b.2 i))
/-- .. of the numbers alone -/
def fan (a : FV) (t : Int) (b : FV) : FV := (a.1, fun i => w64 (a.2 i + t * b.2 i))
def fml (a b : FV) : FV := (w64 (a.1 * b.1), fun i => w64 (a.1 * b.2 i + b.1 * a.2 i))
def fno (a : FV) (k c : Int) : FV := (a.1, fun i => if i = k then w64 (a.2 i + c) else a.2 i)
def fra (a : FV) : Int := w64 (sumZ (fun i => absw (a.2 i)) 63)
def flo (a : FV) : Int := w64 (a.1 - fra a)
def fhi (a : FV) : Int := w64 (a.1 + fra a)
/-- the form at a place -/
def FI (M : Mm) (f j : Nat) (a : FV) : Prop := M (15, f, j) 1 = a.1 ∧ 0 ≤ M (15, f, j) 2 ∧ M (15, f, j) 2 ≤ 63 ∧ (∀ i, 0 ≤ i → i < 63 → M (16, f, j) i = a.2 i) ∧ (∀ i, M (15, f, j) 2 ≤ i → a.2 i = 0) ∧ ∀ i, i < 0 → a.2 i = 0
def FO (M : Mm) (f : Nat) (φ : Nat → FV) : Prop := ∀ j, j < 39 → FI M f j (φ j)
/-- nothing but a form has changed -/
def Fo (f j : Nat) (M M1 : Mm) : Prop := ∀ n : Nm, n ≠ (15, f, j) → n ≠ (16, f, j) → M1 n = M n
/-- nothing but forms of one Forms -/
def Fr (f : Nat) (M M1 : Mm) : Prop := ∀ n : Nm, ((n.1 ≠ 15 ∧ n.1 ≠ 16) ∨ n.2.1 ≠ f) → M1 n = M n
theorem Fr.rf {f : Nat} {M : Mm} : Fr f M M := fun _ _ => rfl
theorem Fr.tr {f : Nat} {M M1 M2 : Mm} (h : Fr f M M1) (h2 : Fr f M1 M2) : Fr f M M2 := fun n hn => (h2 n hn).trans (h n hn)
theorem Fo.rf {f j : Nat} {M : Mm} : Fo f j M M := fun _ _ _ => rfl
theorem Fo.tr {f j : Nat} {M M1 M2 : Mm} (h : Fo f j M M1) (h2 : Fo f j M1 M2) : Fo f j M M2 := fun n a b => (h2 n a b).trans (h n a b)
theorem Fo.wr15 {f j : Nat} {M M1 : Mm} {k x : Int} (h : Fo f j M M1) : Fo f j M (wr M1 (15, f, j) k x) := fun n a b => by
  funext i
  rw [wr_nn a, h n a b]
theorem Fo.wr16 {f j : Nat} {M M1 : Mm} {k x : Int} (h : Fo f j M M1) : Fo f j M (wr M1 (16, f, j) k x) := fun n a b => by
  funext i
  rw [wr_nn b, h n a b]
theorem nm_ne1 {a b c a' b' c' : Nat} (h : a ≠ a') : ((a, b, c) : Nm) ≠ (a', b', c') := fun e => h (congrArg Prod.fst e)
theorem nm_ne3 {a b c a' b' c' : Nat} (h : c ≠ c') : ((a, b, c) : Nm) ≠ (a', b', c') := fun e => h (congrArg (fun z => z.2.2) e)
theorem nm_ne2 {a b c a' b' c' : Nat} (h : b ≠ b') : ((a, b, c) : Nm) ≠ (a', b', c') := fun e => h (congrArg (fun z => z.2.1) e)
theorem Fo.toFr {f j : Nat} {M M1 : Mm} (h : Fo f j M M1) : Fr f M M1 := fun n hn => by
  refine h n (fun e => ?_) (fun e => ?_)
  · subst e
    rcases hn with hn | hn
    · exact hn.1 rfl
    · exact hn rfl
  · subst e
    rcases hn with hn | hn
    · exact hn.2 rfl
    · exact hn rfl
theorem Fo.other {f j j' : Nat} {M M1 : Mm} {a : FV} (h : Fo f j M M1) (hj : j' ≠ j) (hI : FI M f j' a) : FI M1 f j' a := by
  unfold FI
  rw [h (15, f, j') (nm_ne3 hj) (nm_ne1 (by decide)), h (16, f, j') (nm_ne1 (by decide)) (nm_ne3 hj)]
  exact hI
theorem FO.upd {f j : Nat} {M M1 : Mm} {φ : Nat → FV} {v : FV} (h : FO M f φ) (hI : FI M1 f j v) (ho : Fo f j M M1) : FO M1 f (va_up φ j v) := by
  intro j' hj'
  unfold va_up
  by_cases e : j' = j
  · rw [if_pos e, e]; exact hI
  · rw [if_neg e]; exact ho.other e (h j' hj')
theorem sumZ_congr {g g' : Int → Int} : ∀ (n : Nat), (∀ i : Nat, i < n → g i = g' i) → sumZ g n = sumZ g' n
  | 0, _ => rfl
  | n + 1, h => by
    show sumZ g n + g n = sumZ g' n + g' n
    rw [sumZ_congr n (fun i hi => h i (by omega)), h n (by omega)]
theorem sumZ_tail {g : Int → Int} (m : Nat) : ∀ (n : Nat), m ≤ n → (∀ i : Nat, m ≤ i → i < n → g i = 0) → sumZ g n = sumZ g m
  | 0, h, _ => by rw [show m = 0 by omega]
  | n + 1, h, hz => by
    by_cases e : m = n + 1
    · rw [e]
    · show sumZ g n + g n = _
      rw [sumZ_tail m n (by omega) (fun i h1 h2 => hz i h1 (by omega)), hz n (by omega) (by omega), Int.add_zero]
theorem absw_0 : absw 0 = 0 := rfl
theorem FI.rad {M : Mm} {f j : Nat} {a : FV} (h : FI M f j a) : w64 (sumZ (fun k => absw (M (16, f, j) k)) (M (15, f, j) 2).toNat) = fra a := by
  obtain ⟨-, h0, h1, h2, h3, -⟩ := h
  unfold fra
  refine congrArg w64 ?_
  rw [sumZ_tail (M (15, f, j) 2).toNat 63 (by omega) (fun i hi _ => by show absw (a.2 i) = 0; rw [h3 i (by omega)]; rfl)]
  exact sumZ_congr _ (fun i hi => by show absw _ = absw _; rw [h2 i (by omega) (by omega)])
