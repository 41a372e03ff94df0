/-! a program that stands, kept by acts -/
theorem RW_of {P : Pg} (h0 : 0 ≤ P 11 0) (h1 : P 11 0 ≤ 15) (hr : ∀ v, 0 ≤ v → v < P 11 0 → WFr P v) : RW P := by
  refine ⟨h0, h1, fun v v0 v1 => ⟨fun q => ?_, fun q => ?_⟩⟩
  · have := (hr v v0 v1).1 q
    omega
  · obtain ⟨g1, g2, g3, g4, g5⟩ := (hr v v0 v1).2 q
    exact ⟨fun k k0 k1 => ⟨(g5 k k0 k1).1, fun z => ((g5 k k0 k1).2 z).2⟩, g3, g4⟩
theorem WFi_k {S P : Pg} (h : WFi S) (e0 : P 0 = S 0) (e10 : P 10 = S 10) (e11 : P 11 = S 11) (e12 : P 12 = S 12) : WFi P := by
  unfold WFi
  rw [e0, e10, e11, e12]
  exact h
theorem WF_of {S P : Pg} (h : WF S) (e0 : P 0 = S 0) (e10 : P 10 = S 10) (e11 : P 11 = S 11) (e12 : P 12 = S 12) (hr : ∀ v, 0 ≤ v → v < S 11 0 → WFr P v) (hw : okW P) : WF (stA P (S 11 0).toNat) := by
  obtain ⟨h1, h2, h3, h4, h5, h6, h7, h8⟩ := h
  have g := WF_sA (S := P) (by rw [e11, e12, cnS_k e0]; exact ⟨h1, h2, h3, h4, h5, h6⟩) (by rw [e11]; exact hr) (WFi_k h8 e0 e10 e11 e12) hw
  rw [e11] at g
  exact g
theorem WF.gd {S : Pg} (h : WF S) {v k : Int} (k0 : 0 ≤ k) (k1 : k ≤ 8) (hw : okW (pst S 4 v k)) : WF (gdA S v k) := WF_of h (pst_ne (by decide)) (pst_ne (by decide)) (pst_ne (by decide)) (pst_ne (by decide)) (gdA_wr h k0 k1) hw
theorem WF.gdW {S : Pg} (h : WF S) {v k : Int} (k0 : 0 ≤ k) (k1 : k ≤ 8) : RW (pst S 4 v k) := by
  have e11 : pst S 4 v k 11 = S 11 := pst_ne (by decide)
  exact RW_of (by rw [e11]; exact h.1) (by rw [e11]; exact h.2.1) (by rw [e11]; exact gdA_wr h k0 k1)
theorem WF.rg {S : Pg} (h : WF S) {v a x : Int} (a0 : -1000 ≤ a) (ax : a ≤ x) (x1 : x ≤ 1000) (hw : okW (pst (pst S 2 v a) 3 v x)) : WF (rgA S v a x) := WF_of h (by rw [pst_ne (by decide), pst_ne (by decide)]) (by rw [pst_ne (by decide), pst_ne (by decide)]) (by rw [pst_ne (by decide), pst_ne (by decide)]) (by rw [pst_ne (by decide), pst_ne (by decide)]) (rgA_wr h a0 ax x1) hw
theorem WF.rgW {S : Pg} (h : WF S) {v a x : Int} (a0 : -1000 ≤ a) (ax : a ≤ x) (x1 : x ≤ 1000) : RW (pst (pst S 2 v a) 3 v x) := by
  have e11 : pst (pst S 2 v a) 3 v x 11 = S 11 := by rw [pst_ne (by decide), pst_ne (by decide)]
  exact RW_of (by rw [e11]; exact h.1) (by rw [e11]; exact h.2.1) (by rw [e11]; exact rgA_wr h a0 ax x1)
theorem opW_mono {S : Pg} {t t' : Int → Int} {v i : Int} (w : WFo S v i) (h : ∀ u, 0 ≤ u → u < v → 0 ≤ t' u ∧ t' u ≤ t u) : 0 ≤ opW S t' i ∧ opW S t' i ≤ opW S t i := by
  unfold opW
  by_cases q : 0 ≤ S 8 i
  · rw [if_pos q, if_pos q]; exact h _ q (w.1 q)
  · rw [if_neg q, if_neg q]; omega
theorem rwS_mono {S : Pg} {t t' : Int → Int} {v : Int} (w : WFr S v) (hs : S 0 v ≠ -2) (h : ∀ u, 0 ≤ u → u < v → 0 ≤ t' u ∧ t' u ≤ t u) : 0 ≤ rwS S t' v ∧ rwS S t' v ≤ rwS S t v := by
  obtain ⟨g1, g2, g3, g4, g5⟩ := w.2 hs
  have o2 := opn_ge S v
  have b0 := opW_mono (g5 0 (by decide) (by omega)) h
  have b1 := opW_mono (g5 1 (by decide) (by omega)) h
  rw [Int.add_zero] at b0
  unfold rwS
  by_cases q3 : S 0 v = 3
  · simp only [if_pos q3]
    have b2 := opW_mono (g5 2 (by decide) (by rw [opn_3 q3]; decide)) h
    have b3 := opW_mono (g5 3 (by decide) (by rw [opn_3 q3]; decide)) h
    omega
  · simp only [if_neg q3]
    by_cases q2 : S 0 v = 2
    · simp only [if_pos q2]
      exact ⟨Int.mul_nonneg b0.1 b1.1, Int.mul_le_mul b0.2 b1.2 b1.1 (by omega)⟩
    · simp only [if_neg q2]
      omega
theorem p2_dec {g : Int} (h0 : 0 < g) (h1 : g ≤ 8) : 0 ≤ p2 (g - 1) ∧ p2 (g - 1) ≤ p2 g := by
  have := p2_half (show 0 ≤ g by omega) h1
  exact ⟨this.1, this.2.1⟩
/-- weights fall with a grid -/
theorem fn_wt {S : Pg} (h : WF S) {s : Int} (hO : fnO S s) : ∀ n : Nat, ∀ v : Int, 0 ≤ v → v < n → v < S 11 0 → 0 ≤ wtT (fnP S s) v ∧ wtT (fnP S s) v ≤ S 6 v := by
  obtain ⟨s0, s1, s2, s3⟩ := hO
  intro n
  induction n with
  | zero => intro v v0 v1; exact absurd v1 (by omega)
  | succ n ih =>
    intro v v0 v1 v2
    have hw := h.2.2.2.2.2.2.1 v v0 v2
    have e6 := hw.2.2.1
    have er : ∀ f, f ≠ 4 → f ≠ 5 → f ≠ 6 → f ≠ 7 → stA (fnP S s) v.toNat f = S f := fun f h4 h5 h6 h7 => by rw [stA_raw h5 h6 h7]; exact pst_ne h4
    have e0 := er 0 (by decide) (by decide) (by decide) (by decide)
    have e2 := er 2 (by decide) (by decide) (by decide) (by decide)
    have e3 := er 3 (by decide) (by decide) (by decide) (by decide)
    have e8 := er 8 (by decide) (by decide) (by decide) (by decide)
    have e9 := er 9 (by decide) (by decide) (by decide) (by decide)
    have e4 : stA (fnP S s) v.toNat 4 v = if v = s then S 4 s - 1 else S 4 v := by
      rw [stA_raw (by decide) (by decide) (by decide)]
      unfold fnP pst
      by_cases z : v = s
      · rw [if_pos ⟨rfl, z⟩, if_pos z]
      · rw [if_neg (fun q => z q.2), if_neg z]
    unfold wtT
    rw [e6]
    unfold wtS
    rw [e0, e2, e3]
    by_cases q : S 0 v = -2
    · rw [if_pos q, if_pos q]; omega
    · rw [if_neg q, if_neg q, e4]
      have ew : ∀ t, rwS (stA (fnP S s) v.toNat) t v = rwS S t v := fun t => by unfold rwS opW; rw [e0, e8, e9]
      rw [ew]
      have m := rwS_mono (t := S 6) (t' := stA (fnP S s) v.toNat 6) hw.1 q (fun u u0 u1 => by
        rw [stA_lo6 v.toNat u u0 (by omega)]
        exact ih u u0 (by omega) (by omega))
      obtain ⟨g1, g2, g3, g4, g5⟩ := hw.1.2 q
      have p := p2_half g3 g4
      by_cases z : v = s
      · rw [if_pos z, show S 4 s = S 4 v by rw [z]]
        omega
      · rw [if_neg z]
        omega
theorem fn_ok {S : Pg} (h : WF S) {s : Int} (hO : fnO S s) : okW (fnP S s) := by
  intro v v0 v1
  have e11 : fnP S s 11 = S 11 := pst_ne (by decide)
  rw [e11] at v1
  have a := (fn_wt h hO (v.toNat + 1) v v0 (by omega) v1).2
  have b := (h.w6 v0 v1).2
  omega
theorem WF.fn {S : Pg} (h : WF S) {s : Int} (hO : fnO S s) : WF (fnA S s) ∧ RW (fnP S s) ∧ fnA S s 11 0 = S 11 0 := by
  obtain ⟨s0, s1, s2, s3⟩ := id hO
  obtain ⟨g1, g2, g3, g4, g5⟩ := (h.2.2.2.2.2.2.1 s s0 s1).1.2 s2
  refine ⟨?_, h.gdW (by omega) (by omega), ?_⟩
  · rw [fnA_gd]
    exact h.gd (by omega) (by omega) (fn_ok h hO)
  · rw [fnA_gd, gdA_raw (by decide) (by decide) (by decide) (by decide)]
/-- what making finer keeps -/
def fnI (C : Int) (S : Pg) : Prop := WF S ∧ S 11 0 = C
theorem fn_H {C v : Int} (v0 : 0 ≤ v) (v1 : v < C) : FnH (fnI C) v := by
  refine ⟨fun S h => ?_, fun S s h hO => ?_⟩
  · have v2 : v < S 11 0 := by rw [h.2]; exact v1
    exact ⟨h.1.rc, (nd_cl h.1 v0 v2).clo, Or.inr (nd_self h.1 v0 v2), v0, v2⟩
  · have g := h.1.fn hO
    exact ⟨g.2.1, fn_ok h.1 hO, g.1, by rw [g.2.2]; exact h.2⟩
theorem fn_R {C v : Int} {W : Int → Bool} (v0 : 0 ≤ v) (v1 : v < C) (hB : ∀ u, 0 ≤ u → u < C → W u = true) : FnR (fnI C) W v := by
  refine ⟨fun S h => ?_, fun S s h hO => ?_⟩
  · have v2 : v < S 11 0 := by rw [h.2]; exact v1
    have hB' : ∀ u, 0 ≤ u → u < S 11 0 → W u = true := by rw [h.2]; exact hB
    have g := bd_all h.1.rc (WF_WtO h.1) hB' v0 v2 (nd_cl h.1 v0 v2).clo (Or.inr (nd_self h.1 v0 v2))
    exact ⟨h.1, v2, hB', NE_all h.1.rc (WF_WtO h.1), g.1, g.2.2⟩
  · have g := h.1.fn hO
    exact ⟨g.1, by rw [g.2.2]; exact h.2⟩
