/-! a step on both sides; all steps -/
def jc (gs : List FV) : Int := match gs with
  | [] => 0
  | [_] => 0
  | a :: b :: t => w64 (jhi (a :: b :: t) - jmid (a :: b :: t))
def jb (gs : List FV) : FV := match gs with
  | [] => fnum 0
  | [a] => a
  | a :: b :: t => fnum (jmid (a :: b :: t))
theorem jnF_e (ν : Nu) (gs : List FV) : jnF ν gs = bfo ν (jb gs) (jc gs) := by
  match gs with
  | [] => exact (if_pos rfl).symm
  | [a] => exact (if_pos rfl).symm
  | a :: b :: t => rfl
theorem jnN_e (ν : Nu) (gs : List FV) (v : Int) : jnN ν gs v = bnu ν (jc gs) v 2 := by
  match gs with
  | [] => exact (if_pos rfl).symm
  | [a] => exact (if_pos rfl).symm
  | a :: b :: t => rfl
/-- candidates on both sides -/
def Lq (S : Pg) (v : Int) (r : Rny) (gs gs' : List FV) : Prop := ∃ P : List (FV × FV), gs = P.map Prod.fst ∧ gs' = P.map Prod.snd ∧ ∀ x ∈ P, Fq S v r x.1 x.2
theorem Lq.ap {S : Pg} {v : Int} {r : Rny} {gs gs' hs hs' : List FV} (h : Lq S v r gs gs') (g : Lq S v r hs hs') : Lq S v r (gs ++ hs) (gs' ++ hs') := by
  obtain ⟨P, rfl, rfl, hP⟩ := h
  obtain ⟨Q, rfl, rfl, hQ⟩ := g
  refine ⟨P ++ Q, by rw [List.map_append], by rw [List.map_append], fun x hx => ?_⟩
  rcases List.mem_append.mp hx with y | y
  · exact hP x y
  · exact hQ x y
theorem Lq.sl {S : Pg} {v x : Int} {r : Rny} {a b : FV} (h : Fq S v r a b) : Lq S v r (sel x a) (sel x b) := by
  refine ⟨sel x (a, b), ?_, ?_, fun y hy => ?_⟩
  · unfold sel; split <;> rfl
  · unfold sel; split <;> rfl
  · rw [sel_mm hy]; exact h
theorem jl_fold {S : Pg} {v : Int} {r : Rny} (hR : Rho r) (hn : r.2.1.1 ≤ 63) : ∀ (P : List (FV × FV)) (x y : Int), (∀ z ∈ P, Fq S v r z.1 z.2) → (P.map Prod.snd).foldl (fun x g => min x (flo g)) x = (P.map Prod.fst).foldl (fun x g => min x (flo g)) x ∧ (P.map Prod.snd).foldl (fun x g => max x (fhi g)) y = (P.map Prod.fst).foldl (fun x g => max x (fhi g)) y
  | [], _, _, _ => ⟨rfl, rfl⟩
  | z :: P, x, y, h => by
    have e := (h z List.mem_cons_self).lh hR hn
    have ih := jl_fold hR hn P (min x (flo z.1)) (max y (fhi z.1)) (fun w hw => h w (List.mem_cons_of_mem _ hw))
    show (P.map Prod.snd).foldl (fun x g => min x (flo g)) (min x (flo z.2)) = (P.map Prod.fst).foldl (fun x g => min x (flo g)) (min x (flo z.1)) ∧ (P.map Prod.snd).foldl (fun x g => max x (fhi g)) (max y (fhi z.2)) = (P.map Prod.fst).foldl (fun x g => max x (fhi g)) (max y (fhi z.1))
    rw [e.1, e.2]; exact ih
theorem Lq.jn {S : Pg} {v : Int} {r : Rny} {gs gs' : List FV} (h : Lq S v r gs gs') (hR : Rho r) (hn : r.2.1.1 ≤ 63) : jc gs' = jc gs ∧ Fq S v r (jb gs) (jb gs') := by
  obtain ⟨P, rfl, rfl, hP⟩ := h
  match P, hP with
  | [], _ => exact ⟨rfl, Fq.num⟩
  | [z], h => exact ⟨rfl, h z List.mem_cons_self⟩
  | z :: y :: t, h =>
    have e := (h z List.mem_cons_self).lh hR hn
    have f := jl_fold hR hn (y :: t) (flo z.1) (fhi z.1) (fun w hw => h w (List.mem_cons_of_mem _ hw))
    have e1 : jlo ((z :: y :: t).map Prod.snd) = jlo ((z :: y :: t).map Prod.fst) := by
      show ((y :: t).map Prod.snd).foldl (fun x g => min x (flo g)) (flo z.2) = ((y :: t).map Prod.fst).foldl (fun x g => min x (flo g)) (flo z.1)
      rw [e.1]; exact f.1
    have e2 : jhi ((z :: y :: t).map Prod.snd) = jhi ((z :: y :: t).map Prod.fst) := by
      show ((y :: t).map Prod.snd).foldl (fun x g => max x (fhi g)) (fhi z.2) = ((y :: t).map Prod.fst).foldl (fun x g => max x (fhi g)) (fhi z.1)
      rw [e.2]; exact f.2
    have e3 : jmid ((z :: y :: t).map Prod.snd) = jmid ((z :: y :: t).map Prod.fst) := by unfold jmid; rw [e1, e2]
    refine ⟨?_, ?_⟩
    · show w64 (jhi ((z :: y :: t).map Prod.snd) - jmid ((z :: y :: t).map Prod.snd)) = w64 (jhi ((z :: y :: t).map Prod.fst) - jmid ((z :: y :: t).map Prod.fst))
      rw [e2, e3]
    · show Fq S v r (fnum (jmid ((z :: y :: t).map Prod.fst))) (fnum (jmid ((z :: y :: t).map Prod.snd)))
      rw [e3]; exact Fq.num
theorem rb_le {r : Rny} {c v b : Int} : (rb r c v b).2.2.1 ≤ r.2.2.1 + 1 ∧ (rb r c v b).2.1.1 ≤ r.2.1.1 + 1 := ⟨bnu_le.2, bnu_le.2⟩
theorem Rho_le {r : Rny} (h : Rho r) : r.2.1.1 ≤ r.2.2.1 := by
  obtain ⟨h1, h2, h3, h4, h5⟩ := h
  have k : ∀ n : Nat, (n : Int) < r.2.1.1 → (n : Int) ≤ r.1 n := by
    intro n
    induction n with
    | zero => intro q; exact (h4 0 (by omega) q).1
    | succ n ih =>
      intro q
      have a := ih (by omega)
      have b := h5 n ((n + 1 : Nat) : Int) (by omega) (by omega) q
      omega
  by_cases z : r.2.1.1 = 0
  · omega
  · have a := k (r.2.1.1 - 1).toNat (by omega)
    have b := (h4 (r.2.1.1 - 1) (by omega) (by omega)).2.1
    rw [show (((r.2.1.1 - 1).toNat : Nat) : Int) = r.2.1.1 - 1 by omega] at a
    omega
/-- a step of both sides -/
theorem stQ {S : Pg} {fi : Int → Int} {φ φ' : Nat → FV} {r : Rny} {v : Int} (hR : Rho r) (h5 : r.2.2.1 + 5 ≤ 63) (hO : ∀ k, 0 ≤ k → k < opn S v → Fq S v r (vA S φ v k) (vA S φ' v k) ∧ Fq S v r (dA S φ v k) (dA S φ' v k)) : ∃ r1 : Rny, r1.2.1 = bnu (stN S φ r.2.1 v) (rnC S fi v) v 3 ∧ r1.2.2 = bnu (stN S φ' r.2.2 v) (rnC S fi v) v 3 ∧ Rho r1 ∧ (∀ u a b, Fq S u r a b → Fq S u r1 a b) ∧ Fq S v r1 (stV S φ r.2.1 v) (stV S φ' r.2.2 v) ∧ Fq S v r1 (bfo (stN S φ r.2.1 v) (stD S φ r.2.1 v) (rnC S fi v)) (bfo (stN S φ' r.2.2 v) (stD S φ' r.2.2 v) (rnC S fi v)) := by
  have o2 := opn_ge S v
  have n63 : r.2.1.1 ≤ 58 := by have := Rho_le hR; omega
  obtain ⟨hA, hDA⟩ := hO 0 (by decide) (by omega)
  obtain ⟨hB, hDB⟩ := hO 1 (by decide) (by omega)
  unfold stN stV stD
  by_cases q3 : S 0 v = 3
  · simp only [if_pos q3]
    obtain ⟨hC, hDC⟩ := hO 2 (by decide) (by rw [opn_3 q3]; decide)
    obtain ⟨hD, hDD⟩ := hO 3 (by decide) (by rw [opn_3 q3]; decide)
    have hT : Fq S v r (tsT S φ v) (tsT S φ' v) := hA.ad hB
    have hU : Fq S v r (tsU S φ v) (tsU S φ' v) := hDA.ad hDB
    have lT := hT.lh hR (by omega)
    have lU := hU.lh hR (by omega)
    have LV : Lq S v r (pkV (tsT S φ v) (vA S φ v 2) (vA S φ v 3)) (pkV (tsT S φ' v) (vA S φ' v 2) (vA S φ' v 3)) := by
      unfold pkV
      rw [lT.1, lT.2]
      exact (Lq.sl hC).ap (Lq.sl hD)
    have LD : Lq S v r (pkD (tsT S φ v) (tsU S φ v) (vA S φ v 2) (vA S φ v 3) (dA S φ v 2) (dA S φ v 3)) (pkD (tsT S φ' v) (tsU S φ' v) (vA S φ' v 2) (vA S φ' v 3) (dA S φ' v 2) (dA S φ' v 3)) := by
      unfold pkD
      rw [lT.1, lT.2, lU.1, lU.2]
      exact (((Lq.sl hDC).ap (Lq.sl hDD)).ap (Lq.sl ((hD.ad hDD).ad hC))).ap (Lq.sl ((hC.ad hDC).ad hD))
    generalize pkV (tsT S φ v) (vA S φ v 2) (vA S φ v 3) = V at *
    generalize pkV (tsT S φ' v) (vA S φ' v 2) (vA S φ' v 3) = V' at *
    generalize pkD (tsT S φ v) (tsU S φ v) (vA S φ v 2) (vA S φ v 3) (dA S φ v 2) (dA S φ v 3) = D at *
    generalize pkD (tsT S φ' v) (tsU S φ' v) (vA S φ' v 2) (vA S φ' v 3) (dA S φ' v 2) (dA S φ' v 3) = D' at *
    have jV := LV.jn hR (by omega)
    have jD := LD.jn hR (by omega)
    simp only [jnF_e, jnN_e]
    rw [jV.1, jD.1]
    have R1 := rb_R (c := jc V) (v := v) (b := 2) hR (by omega)
    have l1 := rb_le (r := r) (c := jc V) (v := v) (b := 2)
    have R2 := rb_R (c := jc D) (v := v) (b := 2) R1 (by omega)
    have l2 := rb_le (r := rb r (jc V) v 2) (c := jc D) (v := v) (b := 2)
    have R3 := rb_R (c := rnC S fi v) (v := v) (b := 3) R2 (by omega)
    refine ⟨rb (rb (rb r (jc V) v 2) (jc D) v 2) (rnC S fi v) v 3, rfl, rfl, R3, fun u a b h => rb_F R2 (rb_F R1 (rb_F hR h)), rb_F R2 (rb_F R1 (rb_N hR jV.2)), ?_⟩
    exact rb_N (r := rb (rb r (jc V) v 2) (jc D) v 2) R2 (rb_N (r := rb r (jc V) v 2) R1 (rb_F hR jD.2))
  · simp only [if_neg q3]
    by_cases q2 : S 0 v = 2
    · simp only [if_pos q2]
      have fA := hA.rd hR (by omega)
      have fB := hB.rd hR (by omega)
      have fDA := hDA.rd hR (by omega)
      have fDB := hDB.rd hR (by omega)
      unfold prN4 prN3 prN2 prN1 prV prD3 prD2 prD1 prN3 prN2 prN1
      rw [fA, fB, fDA, fDB]
      generalize w64 (fra (vA S φ v 0) * fra (vA S φ v 1)) = c1
      generalize w64 (fra (vA S φ v 0) * fra (dA S φ v 1)) = c2
      generalize w64 (fra (dA S φ v 0) * fra (vA S φ v 1)) = c3
      generalize w64 (fra (dA S φ v 0) * fra (dA S φ v 1)) = c4
      have R1 := rb_R (c := c1) (v := v) (b := 1) hR (by omega)
      have l1 := rb_le (r := r) (c := c1) (v := v) (b := 1)
      have R2 := rb_R (c := c2) (v := v) (b := 1) R1 (by omega)
      have l2 := rb_le (r := rb r c1 v 1) (c := c2) (v := v) (b := 1)
      have R3 := rb_R (c := c3) (v := v) (b := 1) R2 (by omega)
      have l3 := rb_le (r := rb (rb r c1 v 1) c2 v 1) (c := c3) (v := v) (b := 1)
      have R4 := rb_R (c := c4) (v := v) (b := 1) R3 (by omega)
      have l4 := rb_le (r := rb (rb (rb r c1 v 1) c2 v 1) c3 v 1) (c := c4) (v := v) (b := 1)
      have R5 := rb_R (c := rnC S fi v) (v := v) (b := 3) R4 (by omega)
      have u1 : ∀ {a b : FV}, Fq S v r a b → Fq S v (rb r c1 v 1) a b := fun h => rb_F hR h
      have u2 : ∀ {a b : FV}, Fq S v r a b → Fq S v (rb (rb r c1 v 1) c2 v 1) a b := fun h => rb_F R1 (rb_F hR h)
      have u3 : ∀ {a b : FV}, Fq S v r a b → Fq S v (rb (rb (rb r c1 v 1) c2 v 1) c3 v 1) a b := fun h => rb_F R2 (rb_F R1 (rb_F hR h))
      have g1 := rb_N (r := r) (c := c1) (v := v) (b0 := 1) hR (Fq.ma (Fq.num (x := 0)) hA hB)
      have g2 := rb_N (r := rb r c1 v 1) (c := c2) (v := v) (b0 := 1) R1 (Fq.ma (Fq.num (x := 0)) (u1 hA) (u1 hDB))
      have g3 := rb_N (r := rb (rb r c1 v 1) c2 v 1) (c := c3) (v := v) (b0 := 1) R2 (Fq.ma g2 (u2 hDA) (u2 hB))
      have g4 := rb_N (r := rb (rb (rb r c1 v 1) c2 v 1) c3 v 1) (c := c4) (v := v) (b0 := 1) R3 (Fq.ma g3 (u3 hDA) (u3 hDB))
      have g5 := rb_N (r := rb (rb (rb (rb r c1 v 1) c2 v 1) c3 v 1) c4 v 1) (c := rnC S fi v) (v := v) (b0 := 3) R4 g4
      exact ⟨rb (rb (rb (rb (rb r c1 v 1) c2 v 1) c3 v 1) c4 v 1) (rnC S fi v) v 3, rfl, rfl, R5, fun u a b h => rb_F R4 (rb_F R3 (rb_F R2 (rb_F R1 (rb_F hR h)))), rb_F R4 (rb_F R3 (rb_F R2 (rb_F R1 g1))), g5⟩
    · simp only [if_neg q2]
      exact ⟨rb r (rnC S fi v) v 3, rfl, rfl, rb_R hR (by omega), fun u a b h => rb_F hR h, rb_F hR (hA.ad hB), rb_N hR (hDA.ad hDB)⟩
/-- noises stay when others come -/
def Kun (ν ν2 : Nu) : Prop := ν.1 ≤ ν2.1 ∧ ∀ i, i < ν.1 → ν2.2.1 i = ν.2.1 i
theorem Kun.b {ν ν2 : Nu} {c v b : Int} (h : Kun ν ν2) : Kun ν (bnu ν2 c v b) := by
  unfold bnu
  split
  · exact h
  · exact ⟨by show ν.1 ≤ ν2.1 + 1; have := h.1; omega, fun i hi => by
      show (if i = ν2.1 then v else ν2.2.1 i) = _
      have := h.1
      rw [if_neg (by omega)]; exact h.2 i hi⟩
theorem Kun.rf {ν : Nu} : Kun ν ν := ⟨Int.le_refl _, fun _ _ => rfl⟩
theorem stN_K {S : Pg} {φ : Nat → FV} {ν : Nu} {v : Int} : Kun ν (stN S φ ν v) := by
  unfold stN
  split
  · rw [jnN_e, jnN_e]; exact Kun.rf.b.b
  · split
    · unfold prN4 prN3 prN2 prN1; exact Kun.rf.b.b.b.b
    · exact Kun.rf
theorem Rho_K {r : Rny} {ν2 : Nu} (h : Rho r) (k : Kun r.2.2 ν2) (h63 : ν2.1 ≤ 63) : Rho (r.1, r.2.1, ν2) := by
  obtain ⟨h1, h2, h3, h4, h5⟩ := h
  refine ⟨h1, by show 0 ≤ ν2.1; have := k.1; omega, h63, fun i i0 i1 => ?_, h5⟩
  have g := h4 i i0 i1
  have k1 := k.1
  exact ⟨g.1, by show r.1 i < ν2.1; omega, by show ν2.2.1 (r.1 i) = _; rw [k.2 _ g.2.1]; exact g.2.2⟩
/-- the inputs -/
theorem sI_Q {S : Pg} (h10 : ∀ i, 0 ≤ i → i < S 12 0 → 0 ≤ S 10 i ∧ S 10 i < S 11 0 ∧ S 0 (S 10 i) = -2) : ∀ n : Nat, (n : Int) ≤ S 12 0 → ∀ j : Nat, (∀ i, ¬ (0 ≤ i ∧ i < (sI S n).2.1.1) → ((sI S n).1 j).2 i = 0) ∧ ∀ i, 0 ≤ i → i < (sI S n).2.1.1 → S 0 ((sI S n).2.1.2.1 i) = -2
  | 0, _, j => ⟨fun _ _ => rfl, fun i i0 i1 => absurd (show i < 0 from i1) (by omega)⟩
  | n + 1, hn, j => by
    have ih := sI_Q h10 n (by omega)
    have e1 := sI_nu S n
    have hz : ∀ i, ¬ (0 ≤ i ∧ i < (sI S n).2.1.1 + 1) → i ≠ (sI S n).2.1.1 := fun i hi => by omega
    refine ⟨fun i hi => ?_, fun i i0 i1 => ?_⟩
    · have hi : ¬ (0 ≤ i ∧ i < (sI S n).2.1.1 + 1) := hi
      show (va_up (va_up (sI S n).1 (S 10 n).toNat (fno (fnum (S 2 (S 10 n) + (S 3 (S 10 n) - S 2 (S 10 n)).tdiv 2)) (sI S n).2.1.1 ((S 3 (S 10 n) - S 2 (S 10 n)).tdiv 2))) (15 + (S 10 n).toNat) fz j).2 i = 0
      rw [vu_at, vu_at]
      split
      · rfl
      · split
        · show (if i = (sI S n).2.1.1 then _ else (0 : Int)) = 0
          rw [if_neg (hz i hi)]
        · exact (ih j).1 i (by omega)
    · have i1 : i < (sI S n).2.1.1 + 1 := i1
      show S 0 (if i = (sI S n).2.1.1 then S 10 n else (sI S n).2.1.2.1 i) = -2
      split
      · exact (h10 n (by omega) (by omega)).2.2
      · exact (ih j).2 i i0 (by omega)
theorem vA_Q {S : Pg} {v k : Int} {r : Rny} {φ φ' : Nat → FV} (h : 0 ≤ S 8 (4 * v + k) → S 8 (4 * v + k) ≤ v ∧ Fq S (S 8 (4 * v + k)) r (φ (S 8 (4 * v + k)).toNat) (φ' (S 8 (4 * v + k)).toNat) ∧ Fq S (S 8 (4 * v + k)) r (φ (15 + (S 8 (4 * v + k)).toNat)) (φ' (15 + (S 8 (4 * v + k)).toNat))) : Fq S v r (vA S φ v k) (vA S φ' v k) ∧ Fq S v r (dA S φ v k) (dA S φ' v k) := by
  unfold vA dA
  by_cases q : 0 ≤ S 8 (4 * v + k)
  · simp only [if_pos q]
    obtain ⟨h1, h2, h3⟩ := h q
    exact ⟨h2.up h1, h3.up h1⟩
  · simp only [if_neg q]
    exact ⟨Fq.num, Fq.num⟩
theorem vu2_a {φ : Nat → FV} {v : Nat} {A D : FV} : va_up (va_up φ v A) (15 + v) D v = A := by rw [vu_at, if_neg (by omega), vu_at, if_pos rfl]
theorem vu2_d {φ : Nat → FV} {v : Nat} {A D : FV} : va_up (va_up φ v A) (15 + v) D (15 + v) = D := by rw [vu_at, if_pos rfl]
theorem vu2_o {φ : Nat → FV} {v j : Nat} {A D : FV} (h1 : j ≠ v) (h2 : j ≠ 15 + v) : va_up (va_up φ v A) (15 + v) D j = φ j := by rw [vu_at, if_neg h2, vu_at, if_neg h1]
/-- some variables, and all: the same forms under other names -/
theorem renK {S : Pg} {W W' : Int → Bool} (hc : RC S) (hC : Clo S W) (hB : ∀ u, 0 ≤ u → u < S 11 0 → W' u = true) : ∀ v : Nat, (v : Int) ≤ S 11 0 → ∃ r : Rny, r.2.1 = (sK S W v).2.1 ∧ r.2.2 = (sK S W' v).2.1 ∧ Rho r ∧ ∀ w, Rd S W v w → Fq S w r ((sK S W v).1 w.toNat) ((sK S W' v).1 w.toNat) ∧ Fq S w r ((sK S W v).1 (15 + w.toNat)) ((sK S W' v).1 (15 + w.toNat))
  | 0, _ => by
    obtain ⟨c1, c2, c3, c4, c5, c6, c7, c8, c9⟩ := hc
    have h10 : ∀ i, 0 ≤ i → i < S 12 0 → 0 ≤ S 10 i ∧ S 10 i < S 11 0 ∧ S 0 (S 10 i) = -2 := fun i i0 i1 => ⟨(c6 i i0 i1).1, (c6 i i0 i1).2.1, c8 i i0 i1⟩
    have q := sI_Q h10 (S 12 0).toNat (by omega)
    have e := sI_nu S (S 12 0).toNat
    have f : ∀ (w : Int) (j : Nat), Fq S w (fun i => i, (sK S W 0).2.1, (sK S W' 0).2.1) ((sK S W 0).1 j) ((sK S W' 0).1 j) := fun w j =>
      ⟨rfl, fun _ _ _ => rfl, fun i hi => (q j).1 i (fun z => hi i z.1 z.2 rfl), (q j).1, fun i i0 i1 _ => Or.inl ((q j).2 i i0 i1)⟩
    refine ⟨(fun i => i, (sK S W 0).2.1, (sK S W' 0).2.1), rfl, rfl, ⟨?_, ?_, ?_, fun i i0 i1 => ⟨i0, i1, rfl⟩, fun i j _ h _ => h⟩, fun w _ => ⟨f w _, f w _⟩⟩
    · show 0 ≤ (sI S (S 12 0).toNat).2.1.1; omega
    · show 0 ≤ (sI S (S 12 0).toNat).2.1.1; omega
    · show (sI S (S 12 0).toNat).2.1.1 ≤ 63; omega
  | v + 1, hv => by
    obtain ⟨r, r1, r2, hR, hF⟩ := renK hc hC hB v (by omega)
    obtain ⟨c1, c2, c3, c4, c5, c6, c7, c8, c9⟩ := hc
    have eW : sK S W (v + 1) = if S 0 v ≠ -2 ∧ W v = true then stF S (S 5) v (sK S W v) else sK S W v := rfl
    have eW' : sK S W' (v + 1) = if S 0 v ≠ -2 ∧ W' v = true then stF S (S 5) v (sK S W' v) else sK S W' v := rfl
    rw [eW, eW']
    by_cases q : S 0 v = -2
    · rw [if_neg (fun z => z.1 q), if_neg (fun z => z.1 q)]
      refine ⟨r, r1, r2, hR, fun w hw => hF w ⟨hw.1, hw.2.1, ?_⟩⟩
      rcases hw.2.2 with z | ⟨z1, z2, z3⟩
      · exact Or.inl z
      · by_cases y : w = v
        · rw [y] at z1; exact absurd q z1
        · exact Or.inr ⟨z1, z2, by omega⟩
    · rw [if_pos (c := S 0 v ≠ -2 ∧ W' v = true) ⟨q, hB v (by omega) (by omega)⟩]
      have n5 : r.2.2.1 + 5 ≤ 63 := by
        have a := (sK_nu S W' v).1
        have b := sI_nu S (S 12 0).toNat
        have c : cnS S (v + 1) = cnS S v + 1 := if_pos q
        have d := cnS_le S (v + 1) (S 11 0).toNat (by omega)
        rw [r2]
        omega
      by_cases w1 : W v = true
      · rw [if_pos (c := S 0 v ≠ -2 ∧ W v = true) ⟨q, w1⟩]
        have ok := (c9 v (by omega) (by omega) q).1
        have hO : ∀ k, 0 ≤ k → k < opn S v → Fq S v r (vA S (sK S W v).1 v k) (vA S (sK S W' v).1 v k) ∧ Fq S v r (dA S (sK S W v).1 v k) (dA S (sK S W' v).1 v k) := fun k k0 k1 => vA_Q (fun z => by
          have l := ((ok k k0 k1).1 z).1
          have g := hF (S 8 (4 * (v : Int) + k)) ⟨z, by omega, by
            by_cases y : S 0 (S 8 (4 * (v : Int) + k)) = -2
            · exact Or.inl y
            · exact Or.inr ⟨y, hC v (by omega) (by omega) q w1 k k0 k1 z y, l⟩⟩
          exact ⟨by omega, g.1, g.2⟩)
        obtain ⟨t, t1, t2, t3, t4, t5, t6⟩ := stQ (fi := S 5) hR n5 hO
        rw [r1] at t1 t5 t6
        rw [r2] at t2 t5 t6
        refine ⟨t, t1, t2, t3, fun w hw => ?_⟩
        show Fq S w t (va_up (va_up (sK S W v).1 ((v : Int)).toNat (stV S (sK S W v).1 (sK S W v).2.1 v)) (15 + ((v : Int)).toNat) (bfo (stN S (sK S W v).1 (sK S W v).2.1 v) (stD S (sK S W v).1 (sK S W v).2.1 v) (rnC S (S 5) v)) w.toNat) (va_up (va_up (sK S W' v).1 ((v : Int)).toNat (stV S (sK S W' v).1 (sK S W' v).2.1 v)) (15 + ((v : Int)).toNat) (bfo (stN S (sK S W' v).1 (sK S W' v).2.1 v) (stD S (sK S W' v).1 (sK S W' v).2.1 v) (rnC S (S 5) v)) w.toNat) ∧ Fq S w t (va_up (va_up (sK S W v).1 ((v : Int)).toNat (stV S (sK S W v).1 (sK S W v).2.1 v)) (15 + ((v : Int)).toNat) (bfo (stN S (sK S W v).1 (sK S W v).2.1 v) (stD S (sK S W v).1 (sK S W v).2.1 v) (rnC S (S 5) v)) (15 + w.toNat)) (va_up (va_up (sK S W' v).1 ((v : Int)).toNat (stV S (sK S W' v).1 (sK S W' v).2.1 v)) (15 + ((v : Int)).toNat) (bfo (stN S (sK S W' v).1 (sK S W' v).2.1 v) (stD S (sK S W' v).1 (sK S W' v).2.1 v) (rnC S (S 5) v)) (15 + w.toNat))
        have hw0 := hw.1
        have hw1 := hw.2.1
        by_cases y : w = v
        · rw [y] at hw1 ⊢
          rw [vu2_a, vu2_a, vu2_d, vu2_d]
          exact ⟨t5, t6⟩
        · rw [vu2_o (by omega) (by omega), vu2_o (by omega) (by omega), vu2_o (by omega) (by omega), vu2_o (by omega) (by omega)]
          have g := hF w ⟨hw0, hw1, by
            rcases hw.2.2 with z | ⟨z1, z2, z3⟩
            · exact Or.inl z
            · exact Or.inr ⟨z1, z2, by omega⟩⟩
          exact ⟨t4 _ _ _ g.1, t4 _ _ _ g.2⟩
      · rw [if_neg (c := S 0 v ≠ -2 ∧ W v = true) (fun z => w1 z.2)]
        have k : Kun r.2.2 (stF S (S 5) v (sK S W' v)).2.1 := by
          show Kun r.2.2 (bnu (stN S (sK S W' v).1 (sK S W' v).2.1 v) (rnC S (S 5) v) v 3)
          rw [r2]
          exact stN_K.b
        have k63 : (stF S (S 5) v (sK S W' v)).2.1.1 ≤ 63 := by
          have h1 := stN_le (S := S) (φ := (sK S W' v).1) (ν := (sK S W' v).2.1) (v := v)
          have h2 := bnu_le (ν := stN S (sK S W' v).1 (sK S W' v).2.1 v) (c := rnC S (S 5) v) (v := v) (b := 3)
          show (bnu (stN S (sK S W' v).1 (sK S W' v).2.1 v) (rnC S (S 5) v) v 3).1 ≤ 63
          rw [r2] at n5
          omega
        refine ⟨(r.1, r.2.1, (stF S (S 5) v (sK S W' v)).2.1), r1, rfl, Rho_K hR k k63, fun w hw => ?_⟩
        have hw0 := hw.1
        have hw1 := hw.2.1
        have hwv : w ≠ v := by
          intro e
          rcases hw.2.2 with z | ⟨z1, z2, z3⟩
          · rw [e] at z; exact q z
          · rw [e] at z2; exact w1 z2
        have g := hF w ⟨hw0, hw1, by
          rcases hw.2.2 with z | ⟨z1, z2, z3⟩
          · exact Or.inl z
          · exact Or.inr ⟨z1, z2, by omega⟩⟩
        show Fq S w r ((sK S W v).1 w.toNat) (va_up (va_up (sK S W' v).1 ((v : Int)).toNat (stV S (sK S W' v).1 (sK S W' v).2.1 v)) (15 + ((v : Int)).toNat) (bfo (stN S (sK S W' v).1 (sK S W' v).2.1 v) (stD S (sK S W' v).1 (sK S W' v).2.1 v) (rnC S (S 5) v)) w.toNat) ∧ Fq S w r ((sK S W v).1 (15 + w.toNat)) (va_up (va_up (sK S W' v).1 ((v : Int)).toNat (stV S (sK S W' v).1 (sK S W' v).2.1 v)) (15 + ((v : Int)).toNat) (bfo (stN S (sK S W' v).1 (sK S W' v).2.1 v) (stD S (sK S W' v).1 (sK S W' v).2.1 v) (rnC S (S 5) v)) (15 + w.toNat))
        rw [vu2_o (by omega) (by omega), vu2_o (by omega) (by omega)]
        exact g
