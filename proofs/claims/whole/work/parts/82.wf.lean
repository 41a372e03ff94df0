/-! a program that stands: its rows and what follows from them -/
def WFo (S : Pg) (v i : Int) : Prop := (0 ≤ S 8 i → S 8 i < v) ∧ (S 8 i < 0 → S 8 i = -2 ∧ -1000 ≤ S 9 i ∧ S 9 i ≤ 1000)
/-- the rows of a variable -/
def WFr (S : Pg) (v : Int) : Prop := (S 0 v = -2 → -1000 ≤ S 2 v ∧ S 2 v ≤ S 3 v ∧ S 3 v ≤ 1000) ∧ (S 0 v ≠ -2 → 0 ≤ S 0 v ∧ S 0 v ≤ 3 ∧ 0 ≤ S 4 v ∧ S 4 v ≤ 8 ∧ ∀ k, 0 ≤ k → k < opn S v → WFo S v (4 * v + k))
/-- it is settled -/
def WFs (S : Pg) (v : Int) : Prop := S 5 v = fiS S v ∧ S 6 v = wtS S v ∧ S 7 v = ndS S v ∧ S 6 v ≤ 1000000
def Cg (c : Int) (S S' : Pg) : Prop := (∀ v, 0 ≤ v → v < c → S' 0 v = S 0 v ∧ S' 2 v = S 2 v ∧ S' 3 v = S 3 v ∧ S' 4 v = S 4 v ∧ S' 5 v = S 5 v ∧ S' 6 v = S 6 v ∧ S' 7 v = S 7 v) ∧ ∀ i, 0 ≤ i → i < 4 * c → S' 8 i = S 8 i ∧ S' 9 i = S 9 i
theorem Cg_opn {c v : Int} {S S' : Pg} (h : Cg c S S') (v0 : 0 ≤ v) (v1 : v < c) : opn S' v = opn S v := by unfold opn; rw [(h.1 v v0 v1).1]
theorem opn_le (S : Pg) (v : Int) : opn S v ≤ 4 := by unfold opn; split <;> omega
theorem WFr.cg {c v : Int} {S S' : Pg} (h : Cg c S S') (v0 : 0 ≤ v) (v1 : v < c) (w : WFr S v) : WFr S' v := by
  obtain ⟨a0, a2, a3, a4, -, -, -⟩ := h.1 v v0 v1
  unfold WFr
  rw [a0, a2, a3, a4, Cg_opn h v0 v1]
  refine ⟨w.1, fun q => ⟨(w.2 q).1, (w.2 q).2.1, (w.2 q).2.2.1, (w.2 q).2.2.2.1, fun k k0 k1 => ?_⟩⟩
  have := opn_le S v
  obtain ⟨b8, b9⟩ := h.2 (4 * v + k) (by omega) (by omega)
  have := (w.2 q).2.2.2.2 k k0 k1
  unfold WFo at *
  rw [b8, b9]
  exact this
theorem opF_cg {c v i : Int} {S S' : Pg} (h : Cg c S S') (v1 : v < c) (i0 : 0 ≤ i) (i1 : i < 4 * c) (w : WFo S v i) : opF S' (S' 5) i = opF S (S 5) i := by
  obtain ⟨b8, b9⟩ := h.2 i i0 i1
  unfold opF
  rw [b8, b9]
  by_cases q : 0 ≤ S 8 i
  · rw [if_pos q, if_pos q]
    have := w.1 q
    exact (h.1 (S 8 i) q (by omega)).2.2.2.2.1
  · rw [if_neg q, if_neg q]
theorem opW_cg {c v i : Int} {S S' : Pg} (h : Cg c S S') (v1 : v < c) (i0 : 0 ≤ i) (i1 : i < 4 * c) (w : WFo S v i) : opW S' (S' 6) i = opW S (S 6) i := by
  obtain ⟨b8, b9⟩ := h.2 i i0 i1
  unfold opW
  rw [b8, b9]
  by_cases q : 0 ≤ S 8 i
  · rw [if_pos q, if_pos q]
    have := w.1 q
    exact (h.1 (S 8 i) q (by omega)).2.2.2.2.2.1
  · rw [if_neg q, if_neg q]
theorem ndF_cg {c v : Int} {S S' : Pg} (h : Cg c S S') (v0 : 0 ≤ v) (v1 : v < c) : ∀ k : Nat, k ≤ 4 → (∀ j : Int, 0 ≤ j → j < k → WFo S v (4 * v + j)) → ndF S' v k = ndF S v k
  | 0, _, _ => rfl
  | k + 1, hk, w => by
    unfold ndF
    rw [ndF_cg h v0 v1 k (by omega) (fun j j0 j1 => w j j0 (by omega))]
    obtain ⟨b8, -⟩ := h.2 (4 * v + k) (by omega) (by omega)
    rw [b8]
    by_cases q : 0 ≤ S 8 (4 * v + k)
    · rw [if_pos q, if_pos q]
      have := (w k (by omega) (by omega)).1 q
      rw [(h.1 _ q (by omega)).2.2.2.2.2.2]
    · rw [if_neg q, if_neg q]
/-- what follows is the same where the rows are -/
theorem st_cg {c v : Int} {S S' : Pg} (h : Cg c S S') (v0 : 0 ≤ v) (v1 : v < c) (w : WFr S v) : fiS S' v = fiS S v ∧ wtS S' v = wtS S v ∧ ndS S' v = ndS S v := by
  obtain ⟨a0, a2, a3, a4, -, -, -⟩ := h.1 v v0 v1
  unfold fiS wtS ndS
  rw [a0, a2, a3, a4, Cg_opn h v0 v1]
  by_cases q : S 0 v = -2
  · simp only [if_pos q, and_self]
  · simp only [if_neg q]
    have ww := (w.2 q).2.2.2.2
    have o2 := opn_ge S v
    have o4 := opn_le S v
    have f0 := opF_cg h v1 (i := 4 * v) (by omega) (by omega) (by have := ww 0 (by omega) (by omega); rw [Int.add_zero] at this; exact this)
    have f1 := opF_cg h v1 (i := 4 * v + 1) (by omega) (by omega) (ww 1 (by omega) (by omega))
    have w0 := opW_cg h v1 (i := 4 * v) (by omega) (by omega) (by have := ww 0 (by omega) (by omega); rw [Int.add_zero] at this; exact this)
    have w1 := opW_cg h v1 (i := 4 * v + 1) (by omega) (by omega) (ww 1 (by omega) (by omega))
    have nd := ndF_cg h v0 v1 (opn S v).toNat (by omega) (fun j j0 j1 => ww j j0 (by omega))
    rw [nd]
    unfold rfS rwS
    rw [a0, f0, f1, w0, w1]
    by_cases q3 : S 0 v = 3
    · have o3 := opn_3 q3
      have f2 := opF_cg h v1 (i := 4 * v + 2) (by omega) (by omega) (ww 2 (by omega) (by omega))
      have f3 := opF_cg h v1 (i := 4 * v + 3) (by omega) (by omega) (ww 3 (by omega) (by omega))
      have w2 := opW_cg h v1 (i := 4 * v + 2) (by omega) (by omega) (ww 2 (by omega) (by omega))
      have w3 := opW_cg h v1 (i := 4 * v + 3) (by omega) (by omega) (ww 3 (by omega) (by omega))
      simp only [if_pos q3, f2, f3, w2, w3, and_self]
    · simp only [if_neg q3, and_self]
theorem WFs.cg {c v : Int} {S S' : Pg} (h : Cg c S S') (v0 : 0 ≤ v) (v1 : v < c) (w : WFr S v) (s : WFs S v) : WFs S' v := by
  obtain ⟨-, -, -, -, a5, a6, a7⟩ := h.1 v v0 v1
  obtain ⟨e1, e2, e3⟩ := st_cg h v0 v1 w
  unfold WFs
  rw [a5, a6, a7, e1, e2, e3]
  exact s
/-- the inputs' row -/
def WFi (S : Pg) : Prop := (∀ i, 0 ≤ i → i < S 12 0 → 0 ≤ S 10 i ∧ S 10 i < S 11 0 ∧ S 0 (S 10 i) = -2) ∧ (∀ v, 0 ≤ v → v < S 11 0 → S 0 v = -2 → ∃ i, 0 ≤ i ∧ i < S 12 0 ∧ S 10 i = v) ∧ ∀ i j, 0 ≤ i → i < j → j < S 12 0 → S 10 i < S 10 j
def WF (S : Pg) : Prop := 0 ≤ S 11 0 ∧ S 11 0 ≤ 15 ∧ 0 ≤ S 12 0 ∧ S 12 0 ≤ 3 ∧ cnS S (S 11 0).toNat = S 11 0 - S 12 0 ∧ S 11 0 - S 12 0 ≤ 12 ∧ (∀ v, 0 ≤ v → v < S 11 0 → WFr S v ∧ WFs S v) ∧ WFi S
theorem wtS_0 {S : Pg} {v : Int} (w : WFr S v) (h6 : ∀ u, 0 ≤ u → u < v → 0 ≤ S 6 u) : 0 ≤ wtS S v := by
  unfold wtS
  by_cases q : S 0 v = -2
  · rw [if_pos q]; omega
  · rw [if_neg q]
    obtain ⟨g1, g2, g3, g4, g5⟩ := w.2 q
    have p1 := p2_bd g3 g4
    have hw : ∀ k, 0 ≤ k → k < opn S v → 0 ≤ opW S (S 6) (4 * v + k) := by
      intro k k0 k1
      unfold opW
      split
      · rename_i z; exact h6 _ z ((g5 k k0 k1).1 z)
      · omega
    have o2 := opn_ge S v
    have h0 := hw 0 (by omega) (by omega)
    have h1 := hw 1 (by omega) (by omega)
    rw [Int.add_zero] at h0
    unfold rwS
    split
    · rename_i q3
      have o3 := opn_3 q3
      have h2 := hw 2 (by omega) (by omega)
      have h3 := hw 3 (by omega) (by omega)
      omega
    · split
      · have := Int.mul_nonneg h0 h1; omega
      · omega
theorem WF.w0 {S : Pg} (h : WF S) : ∀ v : Nat, (v : Int) < S 11 0 → 0 ≤ S 6 v := by
  intro v
  induction v using Nat.strongRecOn with
  | ind v ih =>
  intro hv
  obtain ⟨w, s⟩ := h.2.2.2.2.2.2.1 v (by omega) hv
  rw [s.2.1]
  refine wtS_0 w (fun u u0 u1 => ?_)
  have := ih u.toNat (by omega) (by omega)
  rw [Int.toNat_of_nonneg u0] at this
  exact this
theorem WF.w6 {S : Pg} (h : WF S) {v : Int} (v0 : 0 ≤ v) (v1 : v < S 11 0) : 0 ≤ S 6 v ∧ S 6 v ≤ 1000000 := by
  have := h.w0 v.toNat (by omega)
  rw [Int.toNat_of_nonneg v0] at this
  exact ⟨this, (h.2.2.2.2.2.2.1 v v0 v1).2.2.2.2⟩
theorem opF_0 {S : Pg} {v i : Int} (w : WFo S v i) (h5 : ∀ u, 0 ≤ u → u < v → 0 ≤ S 5 u ∧ S 5 u ≤ 8) : 0 ≤ opF S (S 5) i ∧ opF S (S 5) i ≤ 8 := by
  unfold opF
  split
  · rename_i z; exact h5 _ z (w.1 z)
  · have := two8_le 8 (S 9 i); omega
theorem fiS_0 {S : Pg} {v : Int} (w : WFr S v) (h5 : ∀ u, 0 ≤ u → u < v → 0 ≤ S 5 u ∧ S 5 u ≤ 8) : 0 ≤ fiS S v ∧ fiS S v ≤ 8 := by
  unfold fiS
  by_cases q : S 0 v = -2
  · rw [if_pos q]; omega
  · rw [if_neg q]
    obtain ⟨g1, g2, g3, g4, g5⟩ := w.2 q
    have hw : ∀ k, 0 ≤ k → k < opn S v → 0 ≤ opF S (S 5) (4 * v + k) ∧ opF S (S 5) (4 * v + k) ≤ 8 := fun k k0 k1 => opF_0 (g5 k k0 k1) h5
    have o2 := opn_ge S v
    have h0 := hw 0 (by omega) (by omega)
    have h1 := hw 1 (by omega) (by omega)
    rw [Int.add_zero] at h0
    unfold rfS
    split
    · rename_i q3
      have o3 := opn_3 q3
      have h2 := hw 2 (by omega) (by omega)
      have h3 := hw 3 (by omega) (by omega)
      omega
    · split <;> omega
theorem WF.f0 {S : Pg} (h : WF S) : ∀ v : Nat, (v : Int) < S 11 0 → 0 ≤ S 5 v ∧ S 5 v ≤ 8 := by
  intro v
  induction v using Nat.strongRecOn with
  | ind v ih =>
  intro hv
  obtain ⟨w, s⟩ := h.2.2.2.2.2.2.1 v (by omega) hv
  rw [s.1]
  refine fiS_0 w (fun u u0 u1 => ?_)
  have := ih u.toNat (by omega) (by omega)
  rw [Int.toNat_of_nonneg u0] at this
  exact this
theorem WF.f5 {S : Pg} (h : WF S) {v : Int} (v0 : 0 ≤ v) (v1 : v < S 11 0) : 0 ≤ S 5 v ∧ S 5 v ≤ 8 := by
  have := h.f0 v.toNat (by omega)
  rw [Int.toNat_of_nonneg v0] at this
  exact this
theorem WF.ok {S : Pg} (h : WF S) {v : Int} (v0 : 0 ≤ v) (v1 : v < S 11 0) (q : S 0 v ≠ -2) : OKv S v := by
  intro k k0 k1
  have w := ((h.2.2.2.2.2.2.1 v v0 v1).1.2 q).2.2.2.2 k k0 k1
  refine ⟨fun z => ?_, fun z => (w.2 z).2⟩
  have z1 := w.1 z
  have a := h.f5 z (by omega)
  have b := h.w6 z (by omega)
  exact ⟨z1, a.1, a.2, b.1, b.2⟩
theorem WF.rc {S : Pg} (h : WF S) : RC S := by
  obtain ⟨a1, a2, a3, a4, a5, a6, a7, a8, a9, a10⟩ := h
  refine ⟨a1, a2, a3, a4, by omega, fun i i0 i1 => ?_, a9, fun i i0 i1 => (a8 i i0 i1).2.2, fun v v0 v1 q => ?_⟩
  · obtain ⟨b1, b2, b3⟩ := a8 i i0 i1
    obtain ⟨c1, c2, c3⟩ := (a7 (S 10 i) b1 b2).1.1 b3
    exact ⟨b1, b2, c1, c2, c3⟩
  · obtain ⟨g1, g2, g3, g4, g5⟩ := (a7 v v0 v1).1.2 q
    exact ⟨WF.ok ⟨a1, a2, a3, a4, a5, a6, a7, a8, a9, a10⟩ v0 v1 q, g3, g4, g1, g2⟩
theorem WF.dr {S : Pg} (h : WF S) : DrO S := by
  have n0 : 0 ≤ cnS S (S 11 0).toNat := by
    have := cnS_le S 0 (S 11 0).toNat (by omega)
    exact this
  obtain ⟨a1, a2, a3, a4, a5, a6, a7, a8⟩ := h
  refine ⟨a1, a2, a3, a4, a6, by omega, fun v v0 v1 => ?_⟩
  have h : WF S := ⟨a1, a2, a3, a4, a5, a6, a7, a8⟩
  have a := h.f5 v0 v1
  have b := h.w6 v0 v1
  exact ⟨a.1, a.2, b.1, b.2⟩
theorem cnS_cg {c : Int} {S S' : Pg} (h : ∀ v, 0 ≤ v → v < c → S' 0 v = S 0 v) : ∀ n : Nat, (n : Int) ≤ c → cnS S' n = cnS S n
  | 0, _ => rfl
  | n + 1, hn => by
    unfold cnS
    rw [h n (by omega) (by omega), cnS_cg h n (by omega)]
/-- one more variable is told -/
theorem WF.told {S S' : Pg} (h : WF S) (hc : S 11 0 < 15) (cg : Cg (S 11 0) S S') (e11 : S' 11 0 = S 11 0 + 1) (w : WFr S' (S 11 0)) (s : WFs S' (S 11 0))
    (hi : (S' 0 (S 11 0) ≠ -2 ∧ S' 12 0 = S 12 0 ∧ S' 10 = S 10 ∧ S 11 0 - S 12 0 < 12) ∨ (S' 0 (S 11 0) = -2 ∧ S' 12 0 = S 12 0 + 1 ∧ S 12 0 < 3 ∧ ∀ i, S' 10 i = if i = S 12 0 then S 11 0 else S 10 i)) : WF S' := by
  obtain ⟨a1, a2, a3, a4, a5, a6, a7, a8, a9, a10⟩ := h
  have hcn : cnS S' (S' 11 0).toNat = (if S' 0 (S 11 0) ≠ -2 then cnS S (S 11 0).toNat + 1 else cnS S (S 11 0).toNat) := by
    rw [e11, show (S 11 0 + 1).toNat = (S 11 0).toNat + 1 by omega]
    show (if S' 0 ((S 11 0).toNat : Int) ≠ -2 then cnS S' (S 11 0).toNat + 1 else cnS S' (S 11 0).toNat) = _
    rw [Int.toNat_of_nonneg a1, cnS_cg (fun v v0 v1 => (cg.1 v v0 v1).1) (S 11 0).toNat (by omega)]
  have hv : ∀ v, 0 ≤ v → v < S' 11 0 → WFr S' v ∧ WFs S' v := by
    intro v v0 v1
    by_cases q : v = S 11 0
    · rw [q]; exact ⟨w, s⟩
    · obtain ⟨b1, b2⟩ := a7 v v0 (by omega)
      exact ⟨b1.cg cg v0 (by omega), b2.cg cg v0 (by omega) b1⟩
  rcases hi with ⟨i1, i2, i3, i4⟩ | ⟨i1, i2, i3, i4⟩
  · rw [if_pos i1] at hcn
    refine ⟨by omega, by omega, by omega, by omega, by omega, by omega, hv, fun i i0 i9 => ?_, fun v v0 v1 q => ?_, fun i j i0 ij j1 => ?_⟩
    · rw [i3]
      obtain ⟨b1, b2, b3⟩ := a8 i i0 (by omega)
      exact ⟨b1, by omega, by rw [(cg.1 _ b1 b2).1]; exact b3⟩
    · have vne : v ≠ S 11 0 := fun z => i1 (by rw [← z]; exact q)
      rw [(cg.1 v v0 (by omega)).1] at q
      obtain ⟨i, i0, i9, i8⟩ := a9 v v0 (by omega) q
      exact ⟨i, i0, by omega, by rw [i3]; exact i8⟩
    · rw [i3]; exact a10 i j i0 ij (by omega)
  · rw [if_neg (fun z => z i1)] at hcn
    refine ⟨by omega, by omega, by omega, by omega, by omega, by omega, hv, fun i i0 i9 => ?_, fun v v0 v1 q => ?_, fun i j i0 ij j1 => ?_⟩
    · rw [i4]
      by_cases z : i = S 12 0
      · rw [if_pos z]; exact ⟨a1, by omega, i1⟩
      · rw [if_neg z]
        obtain ⟨b1, b2, b3⟩ := a8 i i0 (by omega)
        exact ⟨b1, by omega, by rw [(cg.1 _ b1 b2).1]; exact b3⟩
    · by_cases z : v = S 11 0
      · exact ⟨S 12 0, a3, by omega, by rw [i4, if_pos rfl, z]⟩
      · rw [(cg.1 v v0 (by omega)).1] at q
        obtain ⟨i, i0, i9, i8⟩ := a9 v v0 (by omega) q
        exact ⟨i, i0, by omega, by rw [i4, if_neg (by omega)]; exact i8⟩
    · rw [i4, i4]
      by_cases z : j = S 12 0
      · rw [if_pos z, if_neg (by omega)]
        exact (a8 i i0 (by omega)).2.1
      · rw [if_neg z, if_neg (by omega)]
        exact a10 i j i0 ij (by omega)
/-- no operand stands yet at an operand's place -/
theorem WF_toS {S : Pg} {k w x : Int} (h : WF S) (k0 : 0 ≤ k) : WF (toS S k w x) := by
  have cg : Cg (S 11 0) S (toS S k w x) := by
    refine ⟨fun v v0 v1 => ⟨rfl, rfl, rfl, rfl, rfl, rfl, rfl⟩, fun i i0 i1 => ?_⟩
    rw [toS_8, toS_9, if_neg (by omega), if_neg (by omega)]
    exact ⟨rfl, rfl⟩
  obtain ⟨a1, a2, a3, a4, a5, a6, a7, a8⟩ := h
  refine ⟨a1, a2, a3, a4, ?_, a6, fun v v0 v1 => ?_, a8⟩
  · refine Eq.trans ?_ a5
    exact cnS_cg (c := S 11 0) (S := S) (S' := toS S k w x) (fun v v0 v1 => rfl) (S 11 0).toNat (by omega)
  · obtain ⟨b1, b2⟩ := a7 v v0 v1
    exact ⟨b1.cg cg v0 v1, b2.cg cg v0 v1 b1⟩
