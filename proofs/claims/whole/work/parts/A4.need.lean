/-! needs as bits; what follows from a program that stands -/
theorem i32_z {x : Int32} : x.toInt = 0 ↔ x = 0 := by
  constructor
  · intro h
    exact Int32.toInt_inj.mp (h.trans (by decide))
  · intro h
    rw [h]; decide
theorem i32_ao (a b c : Int32) : (a ||| b) &&& c = (a &&& c) ||| (b &&& c) := by
  apply Int32.toBitVec_inj.mp
  simp only [Int32.toBitVec_and, Int32.toBitVec_or, BitVec.and_or_distrib_right]
theorem wB_iff {x w : Int} : wB x w = true ↔ ((Int32.ofInt x >>> (Int32.ofInt w &&& 31)) &&& 1) ≠ 0 := by
  unfold wB iand ishr
  rw [decide_eq_true_iff, Int32.ofInt_toInt]
  exact not_congr i32_z
theorem wB_or {x y w : Int} : wB (ior x y) w = true ↔ wB x w = true ∨ wB y w = true := by
  rw [wB_iff, wB_iff, wB_iff]
  unfold ior
  rw [Int32.ofInt_toInt, Int32.shiftRight_or, i32_ao]
  constructor
  · intro h
    by_cases z : (Int32.ofInt x >>> (Int32.ofInt w &&& 31)) &&& 1 = 0
    · exact Or.inr (fun q => h (Int32.or_eq_zero_iff.mpr ⟨z, q⟩))
    · exact Or.inl z
  · intro h q
    have q := Int32.or_eq_zero_iff.mp q
    rcases h with h | h
    · exact h q.1
    · exact h q.2
theorem wB_0 {w : Int} : ¬ wB 0 w = true := by
  rw [wB_iff]
  intro h
  apply h
  rw [show Int32.ofInt 0 = 0 from rfl, Int32.zero_shiftRight]
  decide
theorem wB_1f : ∀ v w : Fin 15, wB (ishl 1 (v.val : Int)) (w.val : Int) = decide (w = v) := by decide +kernel
theorem wB_1 {v w : Int} (v0 : 0 ≤ v) (v1 : v < 15) (w0 : 0 ≤ w) (w1 : w < 15) : wB (ishl 1 v) w = true ↔ w = v := by
  have h := wB_1f ⟨v.toNat, by omega⟩ ⟨w.toNat, by omega⟩
  have e1 : ((v.toNat : Nat) : Int) = v := by omega
  have e2 : ((w.toNat : Nat) : Int) = w := by omega
  simp only [e1, e2] at h
  rw [h, decide_eq_true_iff]
  constructor
  · intro q
    have := congrArg Fin.val q
    simp only at this
    omega
  · intro q
    exact Fin.ext (by show w.toNat = v.toNat; rw [q])
theorem ndF_B {S : Pg} {v w : Int} : ∀ k : Nat, wB (ndF S v k) w = true ↔ (wB (ishl 1 v) w = true ∨ ∃ j : Int, 0 ≤ j ∧ j < k ∧ 0 ≤ S 8 (4 * v + j) ∧ wB (S 7 (S 8 (4 * v + j))) w = true)
  | 0 => ⟨fun h => Or.inl h, fun h => h.elim id (fun ⟨j, j0, j1, _⟩ => absurd j1 (by omega))⟩
  | k + 1 => by
    have ih := ndF_B (S := S) (v := v) (w := w) k
    show wB (ior (ndF S v k) (if 0 ≤ S 8 (4 * v + k) then S 7 (S 8 (4 * v + k)) else 0)) w = true ↔ _
    rw [wB_or, ih]
    constructor
    · rintro ((h | ⟨j, j0, j1, h⟩) | h)
      · exact Or.inl h
      · exact Or.inr ⟨j, j0, by omega, h⟩
      · split at h
        · rename_i q; exact Or.inr ⟨k, by omega, by omega, q, h⟩
        · exact absurd h wB_0
    · rintro (h | ⟨j, j0, j1, h1, h2⟩)
      · exact Or.inl (Or.inl h)
      · by_cases z : j = k
        · rw [z] at h1 h2
          rw [if_pos h1]
          exact Or.inr h2
        · exact Or.inl (Or.inr ⟨j, j0, by omega, h1, h2⟩)
/-- the bits of a variable's needs -/
theorem nd_B {S : Pg} (h : WF S) {v w : Int} (v0 : 0 ≤ v) (v1 : v < S 11 0) (w0 : 0 ≤ w) (w1 : w < 15) : wB (S 7 v) w = true ↔ (w = v ∨ (S 0 v ≠ -2 ∧ ∃ j : Int, 0 ≤ j ∧ j < opn S v ∧ 0 ≤ S 8 (4 * v + j) ∧ wB (S 7 (S 8 (4 * v + j))) w = true)) := by
  have h15 := h.2.1
  rw [(h.2.2.2.2.2.2.1 v v0 v1).2.2.2.1]
  unfold ndS
  have o2 := opn_ge S v
  by_cases q : S 0 v = -2
  · rw [if_pos q, wB_1 v0 (by omega) w0 w1]
    exact ⟨fun z => Or.inl z, fun z => z.elim id (fun y => absurd q y.1)⟩
  · rw [if_neg q, ndF_B, wB_1 v0 (by omega) w0 w1]
    constructor
    · rintro (z | ⟨j, j0, j1, z⟩)
      · exact Or.inl z
      · exact Or.inr ⟨q, j, j0, by omega, z⟩
    · rintro (z | ⟨-, j, j0, j1, z⟩)
      · exact Or.inl z
      · exact Or.inr ⟨j, j0, by omega, z⟩
theorem nd_self {S : Pg} (h : WF S) {v : Int} (v0 : 0 ≤ v) (v1 : v < S 11 0) : wB (S 7 v) v = true := (nd_B h v0 v1 v0 (by have := h.2.1; omega)).mpr (Or.inl rfl)
theorem nd_tr {S : Pg} (h : WF S) : ∀ n : Nat, ∀ a v : Int, 0 ≤ a → a < n → a < S 11 0 → 0 ≤ v → v < 15 → wB (S 7 a) v = true → v ≤ a ∧ ∀ w : Int, 0 ≤ w → w < 15 → wB (S 7 v) w = true → wB (S 7 a) w = true := by
  intro n
  induction n with
  | zero => intro a v a0 a1; exact absurd a1 (by omega)
  | succ n ih =>
    intro a v a0 a1 a2 v0 v1 hb
    rcases (nd_B h a0 a2 v0 v1).mp hb with z | ⟨q, j, j0, j1, z1, z2⟩
    · rw [z]
      exact ⟨Int.le_refl _, fun w _ _ hw => hw⟩
    · have lt := (((h.2.2.2.2.2.2.1 a a0 a2).1.2 q).2.2.2.2 j j0 j1).1 z1
      have g := ih (S 8 (4 * a + j)) v z1 (by omega) (by omega) v0 v1 z2
      exact ⟨by omega, fun w w0 w1 hw => (nd_B h a0 a2 w0 w1).mpr (Or.inr ⟨q, j, j0, j1, z1, g.2 w w0 w1 hw⟩)⟩
theorem nd_cl {S : Pg} (h : WF S) {a : Int} (a0 : 0 ≤ a) (a1 : a < S 11 0) : Cl2 S (wB (S 7 a)) := by
  intro v v0 v1 hs hb k k0 k1 q
  have h15 := h.2.1
  have lt := (((h.2.2.2.2.2.2.1 v v0 v1).1.2 hs).2.2.2.2 k k0 k1).1 q
  have g := (nd_tr h (a.toNat + 1) a v a0 (by omega) a1 v0 (by omega) hb).2
  exact g _ q (by omega) ((nd_B h v0 v1 q (by omega)).mpr (Or.inr ⟨hs, k, k0, k1, q, nd_self h q (by omega)⟩))
theorem WF.sk {S : Pg} (h : WF S) {a : Int} (a0 : 0 ≤ a) (a1 : a < S 11 0) : SkH S a := ⟨h.rc, nd_cl h a0 a1, nd_self h a0 a1, a0, a1⟩
theorem cnS_k {S X : Pg} (h : X 0 = S 0) : ∀ n : Nat, cnS X n = cnS S n
  | 0 => rfl
  | n + 1 => by
    show (if X 0 n ≠ -2 then cnS X n + 1 else cnS X n) = if S 0 n ≠ -2 then cnS S n + 1 else cnS S n
    rw [h, cnS_k h n]
theorem RC_rg {S : Pg} (h : WF S) {lo hi : Int → Int} {b : Int} (ho : rgO S lo hi b) : RC (rgS S lo hi b (S 12 0).toNat) := by
  obtain ⟨c1, c2, c3, c4, c5, c6, c7, c8, c9⟩ := h.rc
  have e : ∀ f, f ≠ 2 → f ≠ 3 → rgS S lo hi b (S 12 0).toNat f = S f := rg_XS
  have at_ := rg_at h (lo := lo) (hi := hi) (b := b) (S 12 0).toNat (by omega)
  generalize rgS S lo hi b (S 12 0).toNat = X at *
  have e0 := e 0 (by decide) (by decide)
  have e4 := e 4 (by decide) (by decide)
  have e5 := e 5 (by decide) (by decide)
  have e6 := e 6 (by decide) (by decide)
  have e8 := e 8 (by decide) (by decide)
  have e9 := e 9 (by decide) (by decide)
  have e10 := e 10 (by decide) (by decide)
  have e11 := e 11 (by decide) (by decide)
  have e12 := e 12 (by decide) (by decide)
  have eo : ∀ v, opn X v = opn S v := fun v => by unfold opn; rw [e0]
  unfold RC OKv OK1
  rw [cnS_k e0, e0, e4, e5, e6, e8, e9, e10, e11, e12]
  refine ⟨c1, c2, c3, c4, c5, fun i i0 i1 => ?_, c7, c8, fun v v0 v1 q => ?_⟩
  · have a := at_ i i0 (by omega)
    have g := c6 i i0 i1
    rw [a.1, a.2]
    exact ⟨g.1, g.2.1, ho i i0 i1⟩
  · rw [eo]; exact c9 v v0 v1 q
theorem WF.sp {S : Pg} (h : WF S) : SpH S := ⟨h.rc, fun _ v0 v1 => h.sk v0 v1, fun _ _ _ ho => RC_rg h ho⟩
/-- the bound, the one to blame: of some variables, and of all -/
theorem bd_all {S : Pg} {Wt : Int → Int} {W : Int → Bool} (hc : RC S) (hw : WtO S Wt) (hB : ∀ u, 0 ≤ u → u < S 11 0 → W u = true) {v : Int} (v0 : 0 ≤ v) (v1 : v < S 11 0) (hC : Clo S (wB (S 7 v))) (hv : S 0 v = -2 ∨ wB (S 7 v) v = true) : bdR ((sK S W (S 11 0).toNat).1 (15 + v.toNat)) = bdF S v ∧ 0 ≤ bdF S v ∧ (blS S ((sK S W (S 11 0).toNat).1 (15 + v.toNat)) (sK S W (S 11 0).toNat).2.1 (S 11 0).toNat).1 = blF S v := by
  have n0 := hc.1
  obtain ⟨r, r1, r2, hR, hF⟩ := renK (W' := W) hc hC hB (S 11 0).toNat (by omega)
  have g := (hF v ⟨v0, v1, by
    rcases hv with z | z
    · exact Or.inl z
    · by_cases y : S 0 v = -2
      · exact Or.inl y
      · exact Or.inr ⟨y, z, by omega⟩⟩).2
  have n63 : r.2.1.1 ≤ 63 := by have := Rho_le hR; have := hR.2.2.1; omega
  have hb := Fb_k (W := W) hw hc.2.2.1 (S 11 0).toNat (by omega) v v0 v1
  have w := hw.2.1 v v0 v1
  have wl := sq_le w.1 w.2.1
  have nn := nrm_nn ((sK S W (S 11 0).toNat).1 v.toNat)
  have be := bd_eq (a := (sK S W (S 11 0).toNat).1 (15 + v.toNat)) (by omega)
  have e : bdR ((sK S W (S 11 0).toNat).1 (15 + v.toNat)) = bdF S v := by
    rw [be.1, g.1, g.rd hR n63]; rfl
  refine ⟨e, by rw [← e]; exact be.2, ?_⟩
  unfold blF
  have p := g.pt hR
  have p0 := fun st => g.pt0 (st := st)
  rw [r1, r2] at p
  rw [r1] at p0
  rw [bl_eq p, bl_cut (v := v) p0 (v + 1).toNat (by omega) (S 11 0).toNat (by omega)]
theorem NE_all {S : Pg} {Wt : Int → Int} {W : Int → Bool} (hc : RC S) (hw : WtO S Wt) : ∀ v : Nat, (v : Int) < S 11 0 → NEq S (sK S W v).1 v := fun v hv => NEq_bd hw (Fb_k hw hc.2.2.1 v (by omega)) (by omega) hv
theorem NEq_X {S X : Pg} (h : XS S X) {φ : Nat → FV} {v : Int} (g : NEq X φ v) : NEq S φ v := by
  have e0 : X 0 = S 0 := h 0 (by decide) (by decide)
  have e8 : X 8 = S 8 := h 8 (by decide) (by decide)
  have e9 : X 9 = S 9 := h 9 (by decide) (by decide)
  unfold NEq tsT tsU vA dA at *
  rw [e0, e8, e9] at g
  exact g
theorem WF.bd {S : Pg} (h : WF S) {W : Int → Bool} (hB : ∀ u, 0 ≤ u → u < S 11 0 → W u = true) {a : Int} (a0 : 0 ≤ a) (a1 : a < S 11 0) : BdH S W a := by
  intro lo hi b hr
  have hc := RC_rg h (hr.o h)
  have hx : XS S (rgS S lo hi b (S 12 0).toNat) := rg_XS
  have hw : WtO (rgS S lo hi b (S 12 0).toNat) (S 6) := WtO_X (WF_WtO h) hx (fun v v0 v1 q => by
    obtain ⟨i1, i2, i3⟩ := in_at h v0 v1 q
    have at_ := rg_at h (lo := lo) (hi := hi) (b := b) (S 12 0).toNat (by omega) _ i1 (by omega)
    have g := hr _ i1 i2
    rw [i3] at at_ g
    rw [at_.1, at_.2]
    exact g)
  have e0 := hx 0 (by decide) (by decide)
  have e7 := hx 7 (by decide) (by decide)
  have e8 := hx 8 (by decide) (by decide)
  have e11 := hx 11 (by decide) (by decide)
  have hC : Clo (rgS S lo hi b (S 12 0).toNat) (wB (rgS S lo hi b (S 12 0).toNat 7 a)) := by
    rw [e7]
    exact (nd_cl h a0 a1).clo.k e0 e8 e11
  have g := bd_all (W := W) hc hw (by rw [e11]; exact hB) a0 (by rw [e11]; exact a1) hC (Or.inr (by rw [e7]; exact nd_self h a0 a1))
  have ne := NE_all (W := W) hc hw
  rw [e11] at g ne
  exact ⟨g.1, g.2.1, fun v hv => NEq_X hx (ne v hv)⟩
/-- who is to blame, of all -/
theorem WF.bl {S : Pg} (h : WF S) {W : Int → Bool} (hB : ∀ u, 0 ≤ u → u < S 11 0 → W u = true) {v : Int} (v0 : 0 ≤ v) (v1 : v < S 11 0) : blS S ((sK S W (S 11 0).toNat).1 (15 + v.toNat)) (sK S W (S 11 0).toNat).2.1 (S 11 0).toNat = blS S ((sK S W (S 11 0).toNat).1 (15 + v.toNat)) (sK S W (S 11 0).toNat).2.1 (v + 1).toNat := by
  have hc := h.rc
  have n0 := hc.1
  have hC : Clo S W := fun u u0 u1 hs _ k k0 k1 q _ => hB _ q (by
    have := (((h.2.2.2.2.2.2.1 u u0 u1).1.2 hs).2.2.2.2 k k0 k1).1 q
    omega)
  obtain ⟨r, r1, r2, hR, hF⟩ := renK (W' := W) hc hC hB (S 11 0).toNat (by omega)
  have g := (hF v ⟨v0, v1, by
    by_cases y : S 0 v = -2
    · exact Or.inl y
    · exact Or.inr ⟨y, hB v v0 v1, by omega⟩⟩).2
  have p0 := fun st => g.pt0 (st := st)
  rw [r1] at p0
  exact bl_cut (v := v) p0 (v + 1).toNat (by omega) (S 11 0).toNat (by omega)
