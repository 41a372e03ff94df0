/-! bounds of all forms of a program; picks have candidates; the bound of both sides -/
theorem nrm_in {lo hi W : Int} {k : Int} (h1 : -W ≤ lo) (h2 : lo ≤ hi) (h3 : hi ≤ W) : nrm (fno (fnum (lo + (hi - lo).tdiv 2)) k ((hi - lo).tdiv 2)) ≤ W := by
  have hd : (hi - lo).tdiv 2 = (hi - lo) / 2 := by rw [Int.tdiv_eq_ediv_of_nonneg (by omega)]
  rw [hd]
  have hb : nrm (fno (fnum (lo + (hi - lo) / 2)) k ((hi - lo) / 2)) ≤ nrm (fnum (lo + (hi - lo) / 2)) + ab ((hi - lo) / 2) := by
    have h := nrm_bfo (k, (fun _ => 0), (fun _ => 0)) (fnum (lo + (hi - lo) / 2)) ((hi - lo) / 2)
    unfold bfo at h
    split at h
    · rename_i z
      rw [z]
      have e : nrm (fno (fnum (lo + 0)) k 0) ≤ nrm (fnum (lo + 0)) := by
        unfold nrm rad
        have : sumZ (fun i => ab ((fno (fnum (lo + 0)) k 0).2 i)) 63 ≤ sumZ (fun i => ab ((fnum (lo + 0)).2 i)) 63 := sumZ_le _ (fun i _ => by
          show ab (if (i : Int) = k then w64 (0 + 0) else 0) ≤ ab 0
          split
          · exact ab_w64 _
          · exact Int.le_refl _)
        show ab (lo + 0) + _ ≤ ab (lo + 0) + _
        omega
      have := ab_nn 0
      omega
    · exact h
  rw [nrm_num] at hb
  refine Int.le_trans hb ?_
  unfold ab
  omega
theorem Fb_z {S : Pg} {Wt : Int → Int} (h : WtO S Wt) : Fb S Wt sZ.1 := by
  intro w w0 w1
  show nrm fz + nrm fz ≤ _
  rw [nrm_fz]
  have := (h.2.1 w w0 w1).1
  have := Int.mul_nonneg this this
  omega
theorem Fb_i {S : Pg} {Wt : Int → Int} (h : WtO S Wt) : ∀ i : Nat, (i : Int) ≤ S 12 0 → Fb S Wt (sI S i).1
  | 0, _ => Fb_z h
  | i + 1, hi => by
    have ih := Fb_i h i (by omega)
    obtain ⟨a0, a1, a2⟩ := h.2.2 i (by omega) (by omega)
    obtain ⟨b0, b1, b2, -⟩ := h.2.1 _ a0 a1
    obtain ⟨c1, c2, c3⟩ := b2 a2
    refine Fb_up h.1 ih a0 a1 ?_
    rw [nrm_fz, Int.add_zero]
    exact Int.le_trans (nrm_in c1 c2 c3) (sq_ge b0)
theorem Fb_k {S : Pg} {Wt : Int → Int} {W : Int → Bool} (h : WtO S Wt) (n0 : 0 ≤ S 12 0) : ∀ v : Nat, (v : Int) ≤ S 11 0 → Fb S Wt (sK S W v).1
  | 0, _ => Fb_i h _ (by omega)
  | v + 1, hv => by
    have ih := Fb_k (W := W) h n0 v (by omega)
    show Fb S Wt (if S 0 v ≠ -2 ∧ W v = true then stF S (S 5) v (sK S W v) else sK S W v).1
    split
    · rename_i q
      exact Fb_up h.1 ih (by omega) (by omega) (Fb_st h ih (by omega) (by omega) q.1)
    · exact ih
/-- a form's ends -/
theorem fl_bd {a : FV} {K : Int} (h : nrm a ≤ K) (k : K ≤ 1000000000000000) : -K ≤ flo a ∧ flo a ≤ fhi a ∧ fhi a ≤ K := by
  have h1 := flo_le a
  have h2 := fhi_le a
  have h3 := fl_eq (a := a) (by omega)
  have h4 := rad_nn a
  unfold ab at h1 h2
  omega
theorem sel_b1 {c : Prop} [Decidable c] {a : FV} (h : c) : (sel (b2 c 1) a).length = 1 := by
  unfold b2
  rw [if_pos h]; rfl
/-- a pick has candidates -/
theorem NEq_bd {S : Pg} {Wt : Int → Int} {φ : Nat → FV} {v : Int} (h : WtO S Wt) (hb : Fb S Wt φ) (v0 : 0 ≤ v) (v1 : v < S 11 0) : NEq S φ v := by
  intro q3
  have hs : S 0 v ≠ -2 := by omega
  have o2 := opn_ge S v
  have b0 := Fb_op h hb v0 v1 hs (k := 0) (by decide) (by omega)
  have b1 := Fb_op h hb v0 v1 hs (k := 1) (by decide) (by omega)
  rw [Int.add_zero] at b0
  have l0 := sq_le b0.2.1 b0.2.2
  have l1 := sq_le b1.2.1 b1.2.2
  have n0 := nrm_nn (vA S φ v 0)
  have n1 := nrm_nn (vA S φ v 1)
  have d0 := nrm_nn (dA S φ v 0)
  have d1 := nrm_nn (dA S φ v 1)
  have t := nrm_fad (vA S φ v 0) (vA S φ v 1) (t := -1) (Or.inr rfl)
  have u := nrm_fad (dA S φ v 0) (dA S φ v 1) (t := -1) (Or.inr rfl)
  have ht := fl_bd (a := tsT S φ v) (K := 2000000000000) (by unfold tsT; omega) (by decide)
  have hu := fl_bd (a := tsU S φ v) (K := 2000000000000) (by unfold tsU; omega) (by decide)
  unfold pkV pkD
  rw [List.length_append, List.length_append, List.length_append, List.length_append]
  rw [w64_sm (x := flo (tsT S φ v) + flo (tsU S φ v)) (by unfold ab; omega), w64_sm (x := fhi (tsT S φ v) + fhi (tsU S φ v)) (by unfold ab; omega), w64_sm (x := -(fhi (tsU S φ v))) (by unfold ab; omega), w64_sm (x := -(flo (tsU S φ v))) (by unfold ab; omega), w64_sm (x := -(flo (tsU S φ v)) - 1) (by unfold ab; omega)]
  generalize flo (tsT S φ v) = t0 at *
  generalize fhi (tsT S φ v) = t1 at *
  generalize flo (tsU S φ v) = u0 at *
  generalize fhi (tsU S φ v) = u1 at *
  refine ⟨?_, ?_⟩
  · by_cases c1 : t0 < 0
    · rw [sel_b1 c1]; omega
    · rw [sel_b1 (c := 0 ≤ t1) (by omega)]; omega
  · by_cases c1 : t0 < 0
    · by_cases c2 : t0 + u0 < 0
      · rw [sel_b1 (c := t0 < 0 ∧ t0 + u0 < 0) ⟨c1, c2⟩]; omega
      · rw [sel_b1 (c := max t0 (-u1) ≤ min t1 (-1)) (by omega)]; omega
    · by_cases c2 : 0 ≤ t1 + u1
      · rw [sel_b1 (c := 0 ≤ t1 ∧ 0 ≤ t1 + u1) ⟨by omega, c2⟩]; omega
      · rw [sel_b1 (c := max t0 0 ≤ min t1 (-u0 - 1)) (by omega)]; omega
/-- the bound by ends is the bound by middle and radius -/
theorem bd_eq {a : FV} (h : nrm a ≤ 1000000000000000) : bdR a = w64 (absw a.1 + fra a) ∧ 0 ≤ bdR a := by
  have e := fl_eq (a := a) (by omega)
  have r0 := rad_nn a
  have a0 := ab_nn a.1
  unfold nrm at h
  have e3 : fra a = rad a := fra_eq (by omega)
  have e4 : absw a.1 = ab a.1 := absw_ab (by omega)
  have e5 : absw (flo a) = ab (flo a) := absw_ab (by rw [e.1]; unfold ab at *; omega)
  have e6 : absw (fhi a) = ab (fhi a) := absw_ab (by rw [e.2]; unfold ab at *; omega)
  unfold bdR
  rw [e3, e4, e5, e6, w64_sm (x := ab a.1 + rad a) (by unfold ab at *; omega), e.1, e.2]
  unfold ab at *
  split <;> omega
theorem WF_WtO {S : Pg} (h : WF S) : WtO S (S 6) := by
  obtain ⟨h1, h2, h3, h4, h5, h6, h7, h8⟩ := h
  have h60 : ∀ k : Nat, ∀ v : Int, 0 ≤ v → v < S 11 0 → v < k → 0 ≤ S 6 v := by
    intro k
    induction k with
    | zero => intro v a b c; exact absurd c (by omega)
    | succ k ih =>
      intro v a b c
      rw [(h7 v a b).2.2.1]
      exact wtS_0 (h7 v a b).1 (fun u u0 u1 => ih u u0 (by omega) (by omega))
  refine ⟨h2, fun v v0 v1 => ⟨h60 (v.toNat + 1) v v0 v1 (by omega), (h7 v v0 v1).2.2.2.2, fun q => ?_, fun q => ?_⟩, h8.1⟩
  · have e := (h7 v v0 v1).2.2.1
    have w := (h7 v v0 v1).1.1 q
    unfold wtS at e
    rw [if_pos q] at e
    omega
  · have e := (h7 v v0 v1).2.2.1
    obtain ⟨w1, w2, w3, w4, w5⟩ := (h7 v v0 v1).1.2 q
    unfold wtS at e
    rw [if_neg q] at e
    exact ⟨w1, w2, w3, w4, w5, by omega⟩
/-- .. of a program with narrower ranges -/
theorem WtO_X {S X : Pg} {Wt : Int → Int} (h : WtO S Wt) (hX : XS S X) (hr : ∀ v, 0 ≤ v → v < S 11 0 → S 0 v = -2 → S 2 v ≤ X 2 v ∧ X 2 v ≤ X 3 v ∧ X 3 v ≤ S 3 v) : WtO X Wt := by
  have e0 : X 0 = S 0 := hX 0 (by decide) (by decide)
  have e4 : X 4 = S 4 := hX 4 (by decide) (by decide)
  have e8 : X 8 = S 8 := hX 8 (by decide) (by decide)
  have e9 : X 9 = S 9 := hX 9 (by decide) (by decide)
  have e10 : X 10 = S 10 := hX 10 (by decide) (by decide)
  have e11 : X 11 = S 11 := hX 11 (by decide) (by decide)
  have e12 : X 12 = S 12 := hX 12 (by decide) (by decide)
  have eo : ∀ v, opn X v = opn S v := fun v => by unfold opn; rw [e0]
  have ew : ∀ v, rwS X Wt v = rwS S Wt v := fun v => by unfold rwS opW; rw [e0, e8, e9]
  obtain ⟨h1, h2, h3⟩ := h
  unfold WtO WFo
  rw [e0, e4, e8, e9, e10, e11, e12]
  refine ⟨h1, fun v v0 v1 => ?_, h3⟩
  obtain ⟨a1, a2, a3, a4⟩ := h2 v v0 v1
  rw [eo, ew]
  refine ⟨a1, a2, fun q => ?_, a4⟩
  have := a3 q
  have := hr v v0 v1 q
  omega
