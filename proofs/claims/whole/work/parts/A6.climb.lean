/-! climbing: the class tries needed inputs alone, the reference all -/
theorem tb_need {S : Pg} {W : Int → Bool} {pt qt : Int → Int} (hW : WF S) (hC : Cl2 S W) (h : ∀ k, 0 ≤ k → k < S 11 0 → S 0 k = -2 → W k = true → pt k = qt k) : ∀ n : Nat, (n : Int) ≤ S 11 0 → ∀ w : Int, 0 ≤ w → w < n → W w = true → tbE S pt n w = tbE S qt n w ∧ tbC S pt n w = tbC S qt n w
  | 0, _, w, w0, w1, _ => absurd w1 (by omega)
  | n + 1, hn, w, w0, w1, hw => by
    have ih := tb_need hW hC h n (by omega)
    show (if w = n then (if S 0 n = -2 then pt n else unS S (tbE S pt n) n) else tbE S pt n w) = (if w = n then (if S 0 n = -2 then qt n else unS S (tbE S qt n) n) else tbE S qt n w) ∧ (if w = n then (if S 0 n = -2 then pt n else rndS (unS S (tbC S pt n) n) (S 4 n)) else tbC S pt n w) = (if w = n then (if S 0 n = -2 then qt n else rndS (unS S (tbC S qt n) n) (S 4 n)) else tbC S qt n w)
    by_cases z : w = n
    · rw [if_pos z, if_pos z, if_pos z, if_pos z]
      rw [z] at hw
      by_cases q : S 0 n = -2
      · rw [if_pos q, if_pos q, if_pos q, if_pos q, h n (by omega) (by omega) q hw]
        exact ⟨rfl, rfl⟩
      · rw [if_neg q, if_neg q, if_neg q, if_neg q]
        obtain ⟨g1, g2, g3, g4, g5⟩ := (hW.2.2.2.2.2.2.1 n (by omega) (by omega)).1.2 q
        have e1 := unS_congr (a := tbE S pt n) (b := tbE S qt n) ⟨g1, g2⟩ (fun k k0 k1 y => (ih _ y ((g5 k k0 k1).1 y) (hC n (by omega) (by omega) q hw k k0 k1 y)).1)
        have e2 := unS_congr (a := tbC S pt n) (b := tbC S qt n) ⟨g1, g2⟩ (fun k k0 k1 y => (ih _ y ((g5 k k0 k1).1 y) (hC n (by omega) (by omega) q hw k k0 k1 y)).2)
        rw [e1, e2]
        exact ⟨rfl, rfl⟩
    · rw [if_neg z, if_neg z, if_neg z, if_neg z]
      exact ih w w0 (by omega) hw
theorem er_need {S : Pg} {pt : Int → Int} {a u x : Int} (hW : WF S) (a0 : 0 ≤ a) (a1 : a < S 11 0) (hu : ¬ wB (S 7 a) u = true) : erS S (upI pt u x) a = erS S pt a := by
  have g := tb_need (pt := upI pt u x) (qt := pt) hW (nd_cl hW a0 a1) (fun k k0 k1 q hk => upI_ne (fun z => hu (by rw [← z]; exact hk))) (a + 1).toNat (by omega) a a0 (by omega) (nd_self hW a0 a1)
  unfold erS
  rw [g.1, g.2]
theorem opE_bd {S : Pg} {Wt t : Int → Int} {v k : Int} (w : WFo S v (4 * v + k)) (h : ∀ u, 0 ≤ u → u < v → ab (t u) ≤ Wt u) : ab (opE S t v k) ≤ opW S Wt (4 * v + k) := by
  unfold opE opW
  by_cases q : 0 ≤ S 8 (4 * v + k)
  · rw [if_pos q, if_pos q]; exact h _ q (w.1 q)
  · rw [if_neg q, if_neg q]; unfold ab; omega
theorem unS_bd {S : Pg} {Wt t : Int → Int} {v : Int} (w : WFr S v) (hs : S 0 v ≠ -2) (h : ∀ u, 0 ≤ u → u < v → ab (t u) ≤ Wt u) : ab (unS S t v) ≤ rwS S Wt v := by
  obtain ⟨g1, g2, g3, g4, g5⟩ := w.2 hs
  have o2 := opn_ge S v
  have b0 := opE_bd (g5 0 (by decide) (by omega)) h
  have b1 := opE_bd (g5 1 (by decide) (by omega)) h
  rw [Int.add_zero] at b0
  have n0 := ab_nn (opE S t v 0)
  have n1 := ab_nn (opE S t v 1)
  unfold unS rwS
  by_cases q3 : S 0 v = 3
  · have b2 := opE_bd (g5 2 (by decide) (by rw [opn_3 q3]; decide)) h
    have b3 := opE_bd (g5 3 (by decide) (by rw [opn_3 q3]; decide)) h
    have n2 := ab_nn (opE S t v 2)
    have n3 := ab_nn (opE S t v 3)
    rw [if_neg (by omega), if_neg (by omega), if_neg (by omega), if_pos q3]
    split <;> omega
  · rw [if_neg q3]
    by_cases q2 : S 0 v = 2
    · rw [if_neg (by omega), if_neg (by omega), if_pos q2, if_pos q2]
      refine Int.le_trans (ab_w64 _) ?_
      rw [ab_mul]
      exact Int.mul_le_mul b0 b1 n1 (by omega)
    · rw [if_neg q2]
      by_cases q1 : S 0 v = 1
      · rw [if_neg (by omega), if_pos q1]
        have := ab_w64 (opE S t v 0 - opE S t v 1)
        unfold ab at *
        omega
      · rw [if_pos (by omega)]
        have := ab_w64 (opE S t v 0 + opE S t v 1)
        unfold ab at *
        omega
theorem rnd_bd {n k : Int} (k0 : 0 ≤ k) (k1 : k ≤ 8) : ab (rndS n k) ≤ ab n + p2 k := by
  have p := (p2_half k0 k1).2.2
  have r0 := Int.emod_nonneg n (show p2 k ≠ 0 by omega)
  have r1 := Int.emod_lt_of_pos n (show 0 < p2 k by omega)
  unfold rndS
  split
  · refine Int.le_trans (ab_w64 _) ?_
    unfold ab
    omega
  · unfold ab
    omega
theorem tb_bd {S : Pg} {Wt pt : Int → Int} (hW : WF S) (ho : WtO S Wt) (hp : ∀ k, 0 ≤ k → k < S 11 0 → S 0 k = -2 → ab (pt k) ≤ Wt k) : ∀ n : Nat, (n : Int) ≤ S 11 0 → ∀ w : Int, 0 ≤ w → w < n → ab (tbE S pt n w) ≤ Wt w ∧ ab (tbC S pt n w) ≤ Wt w
  | 0, _, w, w0, w1 => absurd w1 (by omega)
  | n + 1, hn, w, w0, w1 => by
    have ih := tb_bd hW ho hp n (by omega)
    show ab (if w = n then (if S 0 n = -2 then pt n else unS S (tbE S pt n) n) else tbE S pt n w) ≤ Wt w ∧ ab (if w = n then (if S 0 n = -2 then pt n else rndS (unS S (tbC S pt n) n) (S 4 n)) else tbC S pt n w) ≤ Wt w
    by_cases z : w = n
    · rw [if_pos z, if_pos z, z]
      by_cases q : S 0 n = -2
      · rw [if_pos q, if_pos q]
        have := hp n (by omega) (by omega) q
        exact ⟨this, this⟩
      · rw [if_neg q, if_neg q]
        have w := (hW.2.2.2.2.2.2.1 n (by omega) (by omega)).1
        obtain ⟨g1, g2, g3, g4, g5⟩ := w.2 q
        have hr := ((ho.2.1 n (by omega) (by omega)).2.2.2 q).2.2.2.2.2
        have e1 := unS_bd (Wt := Wt) w q (fun u u0 u1 => (ih u u0 u1).1)
        have e2 := unS_bd (Wt := Wt) w q (fun u u0 u1 => (ih u u0 u1).2)
        have r := rnd_bd (n := unS S (tbC S pt n) n) g3 g4
        have p := (p2_half g3 g4).2.2
        exact ⟨by omega, by omega⟩
    · rw [if_neg z, if_neg z]
      exact ih w w0 (by omega)
theorem er_nn {S : Pg} {pt : Int → Int} {a : Int} (hW : WF S) (hp : PtI S pt) (a0 : 0 ≤ a) (a1 : a < S 11 0) : 0 ≤ erS S pt a := by
  have ho := WF_WtO hW
  have g := tb_bd hW ho (pt := pt) (fun k k0 k1 q => by
    have a := (ho.2.1 k k0 k1).2.2.1 q
    have b := hp k k0 k1 q
    unfold ab
    omega) (a + 1).toNat (by omega) a a0 (by omega)
  have w := (ho.2.1 a a0 a1).2.1
  unfold erS
  rw [w64_sm (by unfold ab at *; omega), absw_ab (by unfold ab at *; omega)]
  exact ab_nn _
theorem upI_up {pt : Int → Int} {v x y : Int} : upI (upI pt v y) v x = upI pt v x := by
  funext j
  unfold upI
  split <;> rfl
theorem upI_self {pt : Int → Int} {v : Int} : upI pt v (pt v) = pt := by
  funext j
  unfold upI
  split
  · rename_i q; rw [q]
  · rfl
theorem try1_ty {S : Pg} {a e v d : Int} {pt pt0 : Int → Int} (H : ∀ x, upI pt v x = upI pt0 v x) : ((tyR S a e pt0 v d).1 = 1 → try1 S a e v (pt0 v + d) pt = (1, erS S (tyR S a e pt0 v d).2 a, (tyR S a e pt0 v d).2)) ∧ ((tyR S a e pt0 v d).1 ≠ 1 → (try1 S a e v (pt0 v + d) pt).1 ≠ 1 ∧ (try1 S a e v (pt0 v + d) pt).2.1 = e ∧ ∀ x, upI (try1 S a e v (pt0 v + d) pt).2.2 v x = upI pt0 v x) := by
  unfold try1 tyR
  rw [H]
  by_cases c1 : S 2 v ≤ pt0 v + d ∧ pt0 v + d ≤ S 3 v
  · rw [if_neg (show ¬ (pt0 v + d < S 2 v ∨ S 3 v < pt0 v + d) by omega)]
    by_cases c2 : e < erS S (upI pt0 v (pt0 v + d)) a
    · rw [if_pos ⟨c1.1, c1.2, c2⟩, if_pos c2]
      exact ⟨fun _ => rfl, fun h => absurd rfl h⟩
    · rw [if_neg (fun z => c2 z.2.2), if_neg c2]
      exact ⟨fun h => absurd (show (0 : Int) = 1 from h) (by decide), fun _ => ⟨by show (0 : Int) ≠ 1; decide, rfl, fun x => upI_up⟩⟩
  · rw [if_neg (fun z => c1 ⟨z.1, z.2.1⟩), if_pos (show pt0 v + d < S 2 v ∨ S 3 v < pt0 v + d by omega)]
    exact ⟨fun h => absurd (show (0 : Int) = 1 from h) (by decide), fun _ => ⟨by show (0 : Int) ≠ 1; decide, rfl, H⟩⟩
theorem tryI_ty {S : Pg} {a e v : Int} {pt0 : Int → Int} : ∀ (n : Nat) (pt : Int → Int), (∀ x, upI pt v x = upI pt0 v x) → ((tyI S a e pt0 v n).1 = 1 → tryI S a e v (pt0 v) n pt = (1, erS S (tyI S a e pt0 v n).2 a, (tyI S a e pt0 v n).2)) ∧ ((tyI S a e pt0 v n).1 ≠ 1 → (tryI S a e v (pt0 v) n pt).1 ≠ 1 ∧ (tryI S a e v (pt0 v) n pt).2.1 = e ∧ ∀ x, upI (tryI S a e v (pt0 v) n pt).2.2 v x = upI pt0 v x)
  | 0, pt, H => ⟨fun h => absurd (show (0 : Int) = 1 from h) (by decide), fun _ => ⟨by show (0 : Int) ≠ 1; decide, rfl, H⟩⟩
  | n + 1, pt, H => by
    have t1 := try1_ty (S := S) (a := a) (e := e) (d := fr (n + 1)) H
    have eI : tyI S a e pt0 v (n + 1) = if (tyR S a e pt0 v (fr (n + 1))).1 = 1 then tyR S a e pt0 v (fr (n + 1)) else if (tyR S a e pt0 v (- fr (n + 1))).1 = 1 then tyR S a e pt0 v (- fr (n + 1)) else tyI S a e pt0 v n := rfl
    have eT : tryI S a e v (pt0 v) (n + 1) pt = if (tryF S a e v (pt0 v) (fr (n + 1)) pt).1 = 1 then tryF S a e v (pt0 v) (fr (n + 1)) pt else tryI S a e v (pt0 v) n (tryF S a e v (pt0 v) (fr (n + 1)) pt).2.2 := rfl
    have eF : tryF S a e v (pt0 v) (fr (n + 1)) pt = if (try1 S a e v (pt0 v + fr (n + 1)) pt).1 = 1 then try1 S a e v (pt0 v + fr (n + 1)) pt else try1 S a e v (pt0 v + - fr (n + 1)) (try1 S a e v (pt0 v + fr (n + 1)) pt).2.2 := rfl
    rw [eI, eT]
    by_cases c1 : (tyR S a e pt0 v (fr (n + 1))).1 = 1
    · have g := t1.1 c1
      have eF2 : tryF S a e v (pt0 v) (fr (n + 1)) pt = (1, erS S (tyR S a e pt0 v (fr (n + 1))).2 a, (tyR S a e pt0 v (fr (n + 1))).2) := by
        rw [eF, g, if_pos rfl]
      rw [eF2, if_pos c1, if_pos rfl]
      exact ⟨fun _ => rfl, fun h => absurd c1 h⟩
    · have g := t1.2 c1
      have t2 := try1_ty (S := S) (a := a) (e := e) (d := - fr (n + 1)) g.2.2
      rw [if_neg c1]
      have eF2 : tryF S a e v (pt0 v) (fr (n + 1)) pt = try1 S a e v (pt0 v + - fr (n + 1)) (try1 S a e v (pt0 v + fr (n + 1)) pt).2.2 := by
        rw [eF, if_neg g.1]
      rw [eF2]
      by_cases c2 : (tyR S a e pt0 v (- fr (n + 1))).1 = 1
      · have k := t2.1 c2
        rw [k, if_pos c2, if_pos rfl]
        exact ⟨fun _ => rfl, fun h => absurd c2 h⟩
      · have k := t2.2 c2
        rw [if_neg c2, if_neg k.1]
        exact tryI_ty n _ k.2.2
theorem tyR_gt {S : Pg} {a e k d : Int} {pt : Int → Int} : ((tyR S a e pt k d).1 = 1 → e < erS S (tyR S a e pt k d).2 a) ∧ ((tyR S a e pt k d).1 ≠ 1 → (tyR S a e pt k d).1 = 0 ∧ (tyR S a e pt k d).2 = pt) := by
  unfold tyR
  split
  · rename_i q
    exact ⟨fun _ => q.2.2, fun h => absurd rfl h⟩
  · exact ⟨fun h => absurd (show (0 : Int) = 1 from h) (by decide), fun _ => ⟨rfl, rfl⟩⟩
theorem tyI_gt {S : Pg} {a e k : Int} {pt : Int → Int} : ∀ n : Nat, ((tyI S a e pt k n).1 = 1 → e < erS S (tyI S a e pt k n).2 a) ∧ ((tyI S a e pt k n).1 ≠ 1 → (tyI S a e pt k n).1 = 0 ∧ (tyI S a e pt k n).2 = pt)
  | 0 => ⟨fun h => absurd (show (0 : Int) = 1 from h) (by decide), fun _ => ⟨rfl, rfl⟩⟩
  | n + 1 => by
    have eI : tyI S a e pt k (n + 1) = if (tyR S a e pt k (fr (n + 1))).1 = 1 then tyR S a e pt k (fr (n + 1)) else if (tyR S a e pt k (- fr (n + 1))).1 = 1 then tyR S a e pt k (- fr (n + 1)) else tyI S a e pt k n := rfl
    rw [eI]
    split
    · exact tyR_gt
    · split
      · exact tyR_gt
      · exact tyI_gt n
theorem tyV_gt {S : Pg} {a e : Int} {pt : Int → Int} : ∀ (n : Nat) (k : Int), ((tyV S a e pt n k).1 = 1 → e < erS S (tyV S a e pt n k).2 a) ∧ ((tyV S a e pt n k).1 ≠ 1 → (tyV S a e pt n k).1 = 0 ∧ (tyV S a e pt n k).2 = pt)
  | 0, _ => ⟨fun h => absurd (show (0 : Int) = 1 from h) (by decide), fun _ => ⟨rfl, rfl⟩⟩
  | n + 1, k => by
    have eI : tyV S a e pt (n + 1) k = if S 0 k = -2 ∧ (tyI S a e pt k 9).1 = 1 then tyI S a e pt k 9 else tyV S a e pt n (k + 1) := rfl
    rw [eI]
    split
    · exact tyI_gt 9
    · exact tyV_gt n (k + 1)
/-- without need no move helps -/
theorem tyI_no {S : Pg} {a u : Int} {pt : Int → Int} (hW : WF S) (a0 : 0 ≤ a) (a1 : a < S 11 0) (hu : ¬ wB (S 7 a) u = true) : ∀ n : Nat, (tyI S a (erS S pt a) pt u n).1 ≠ 1
  | 0 => by show (0 : Int) ≠ 1; decide
  | n + 1 => by
    have r : ∀ d, (tyR S a (erS S pt a) pt u d).1 ≠ 1 := fun d => by
      unfold tyR
      rw [er_need hW a0 a1 hu, if_neg (fun z => by have := z.2.2; omega)]
      show (0 : Int) ≠ 1; decide
    have eI : tyI S a (erS S pt a) pt u (n + 1) = if (tyR S a (erS S pt a) pt u (fr (n + 1))).1 = 1 then tyR S a (erS S pt a) pt u (fr (n + 1)) else if (tyR S a (erS S pt a) pt u (- fr (n + 1))).1 = 1 then tyR S a (erS S pt a) pt u (- fr (n + 1)) else tyI S a (erS S pt a) pt u n := rfl
    rw [eI, if_neg (r _), if_neg (r _)]
    exact tyI_no hW a0 a1 hu n
/-- the first move of both -/
theorem mv_ty {S : Pg} {a : Int} {pt : Int → Int} (hW : WF S) (a0 : 0 ≤ a) (a1 : a < S 11 0) : ∀ (n : Nat) (u : Int), 0 ≤ u → u + n = S 11 0 → mvS S a (erS S pt a) (S 12 0 - (iX S u : Int)).toNat (iX S u) pt = ((tyV S a (erS S pt a) pt n u).1, (if (tyV S a (erS S pt a) pt n u).1 = 1 then erS S (tyV S a (erS S pt a) pt n u).2 a else erS S pt a), (tyV S a (erS S pt a) pt n u).2)
  | 0, u, u0, hu => by
    have n0 := hW.2.2.1
    rw [show u = S 11 0 by omega, iX_c hW, show (S 12 0 - ((S 12 0).toNat : Int)).toNat = 0 by omega]
    show (0, erS S pt a, pt) = ((0 : Int), (if (0 : Int) = 1 then _ else erS S pt a), pt)
    rw [if_neg (by decide)]
  | n + 1, u, u0, hu => by
    have ih := mv_ty (pt := pt) hW a0 a1 n (u + 1) (by omega) (by omega)
    have eV : tyV S a (erS S pt a) pt (n + 1) u = if S 0 u = -2 ∧ (tyI S a (erS S pt a) pt u 9).1 = 1 then tyI S a (erS S pt a) pt u 9 else tyV S a (erS S pt a) pt n (u + 1) := rfl
    rw [eV]
    by_cases q : S 0 u = -2
    · obtain ⟨x1, x2, x3⟩ := iX_j hW u0 (by omega) q
      rw [x1, show (((iX S u + 1 : Nat)) : Int) = (iX S u : Int) + 1 by omega] at ih
      have eM : mvS S a (erS S pt a) (S 12 0 - (iX S u : Int)).toNat (iX S u) pt = if wB (S 7 a) (S 10 (iX S u)) = true then (if (tryI S a (erS S pt a) (S 10 (iX S u)) (pt (S 10 (iX S u))) 9 pt).1 = 1 then tryI S a (erS S pt a) (S 10 (iX S u)) (pt (S 10 (iX S u))) 9 pt else mvS S a (erS S pt a) (S 12 0 - ((iX S u : Int) + 1)).toNat ((iX S u : Int) + 1) (upI (tryI S a (erS S pt a) (S 10 (iX S u)) (pt (S 10 (iX S u))) 9 pt).2.2 (S 10 (iX S u)) (pt (S 10 (iX S u))))) else mvS S a (erS S pt a) (S 12 0 - ((iX S u : Int) + 1)).toNat ((iX S u : Int) + 1) pt := by
        rw [show (S 12 0 - (iX S u : Int)).toNat = (S 12 0 - ((iX S u : Int) + 1)).toNat + 1 by omega]
        rfl
      rw [eM, x3]
      by_cases w : wB (S 7 a) u = true
      · rw [if_pos w]
        have t := tryI_ty (S := S) (a := a) (e := erS S pt a) (v := u) (pt0 := pt) 9 pt (fun _ => rfl)
        by_cases c : (tyI S a (erS S pt a) pt u 9).1 = 1
        · rw [if_pos (c := S 0 u = -2 ∧ (tyI S a (erS S pt a) pt u 9).1 = 1) ⟨q, c⟩, t.1 c, if_pos (show (1 : Int) = 1 from rfl), c, if_pos (show (1 : Int) = 1 from rfl)]
        · have k := t.2 c
          rw [if_neg (c := S 0 u = -2 ∧ (tyI S a (erS S pt a) pt u 9).1 = 1) (fun z => c z.2), if_neg k.1, k.2.2, upI_self]
          exact ih
      · rw [if_neg w, if_neg (c := S 0 u = -2 ∧ (tyI S a (erS S pt a) pt u 9).1 = 1) (fun z => tyI_no hW a0 a1 w 9 z.2)]
        exact ih
    · rw [iX_n u0 q] at ih
      rw [if_neg (fun z => q z.1)]
      exact ih
/-- a climb of both -/
theorem cb_cm {S : Pg} {a : Int} (hW : WF S) (a0 : 0 ≤ a) (a1 : a < S 11 0) : ∀ (k : Nat) (pt : Int → Int), cbS S a k pt (erS S pt a) = (erS S (cmR S a k pt) a, cmR S a k pt)
  | 0, _ => rfl
  | k + 1, pt => by
    have c0 := hW.1
    have m := mv_ty (pt := pt) hW a0 a1 (S 11 0).toNat 0 (by omega) (by omega)
    have i0 : iX S 0 = 0 := rfl
    rw [i0, show (S 12 0 - ((0 : Nat) : Int)).toNat = (S 12 0).toNat by omega] at m
    have m : mvS S a (erS S pt a) (S 12 0).toNat 0 pt = _ := m
    have eC : cbS S a (k + 1) pt (erS S pt a) = if (mvS S a (erS S pt a) (S 12 0).toNat 0 pt).2.1 ≤ erS S pt a then (erS S pt a, (mvS S a (erS S pt a) (S 12 0).toNat 0 pt).2.2) else cbS S a k (mvS S a (erS S pt a) (S 12 0).toNat 0 pt).2.2 (mvS S a (erS S pt a) (S 12 0).toNat 0 pt).2.1 := rfl
    have eR : cmR S a (k + 1) pt = if (tyV S a (erS S pt a) pt (S 11 0).toNat 0).1 = 1 then cmR S a k (tyV S a (erS S pt a) pt (S 11 0).toNat 0).2 else pt := rfl
    have g := tyV_gt (S := S) (a := a) (e := erS S pt a) (pt := pt) (S 11 0).toNat 0
    rw [eC, eR, m]
    by_cases c : (tyV S a (erS S pt a) pt (S 11 0).toNat 0).1 = 1
    · have gt := g.1 c
      simp only [if_pos c]
      rw [if_neg (by omega)]
      exact cb_cm hW a0 a1 k _
    · have ge := g.2 c
      simp only [if_neg c]
      rw [if_pos (Int.le_refl _), ge.2]
/-- points that agree at inputs -/
def Ai (S : Pg) (pt qt : Int → Int) : Prop := ∀ k, 0 ≤ k → k < S 11 0 → S 0 k = -2 → pt k = qt k
theorem Ai.er {S : Pg} {pt qt : Int → Int} {a : Int} (h : Ai S pt qt) (a0 : 0 ≤ a) (a1 : a < S 11 0) : erS S pt a = erS S qt a := erS_cg a0 (fun k k0 k1 q => h k k0 (by omega) q)
theorem Ai.up {S : Pg} {pt qt : Int → Int} {k x : Int} (h : Ai S pt qt) : Ai S (upI pt k x) (upI qt k x) := fun j j0 j1 q => by
  unfold upI
  split
  · rfl
  · exact h j j0 j1 q
theorem tyR_ai {S : Pg} {pt qt : Int → Int} {a e k d : Int} (h : Ai S pt qt) (a0 : 0 ≤ a) (a1 : a < S 11 0) (k0 : 0 ≤ k) (k1 : k < S 11 0) (kq : S 0 k = -2) : (tyR S a e pt k d).1 = (tyR S a e qt k d).1 ∧ Ai S (tyR S a e pt k d).2 (tyR S a e qt k d).2 := by
  unfold tyR
  rw [h k k0 k1 kq, (h.up (k := k) (x := qt k + d)).er a0 a1]
  split
  · exact ⟨rfl, h.up⟩
  · exact ⟨rfl, h⟩
theorem tyI_ai {S : Pg} {pt qt : Int → Int} {a e k : Int} (h : Ai S pt qt) (a0 : 0 ≤ a) (a1 : a < S 11 0) (k0 : 0 ≤ k) (k1 : k < S 11 0) (kq : S 0 k = -2) : ∀ n : Nat, (tyI S a e pt k n).1 = (tyI S a e qt k n).1 ∧ Ai S (tyI S a e pt k n).2 (tyI S a e qt k n).2
  | 0 => ⟨rfl, h⟩
  | n + 1 => by
    have r := fun d => tyR_ai (e := e) (d := d) h a0 a1 k0 k1 kq
    have ih := tyI_ai (e := e) h a0 a1 k0 k1 kq n
    have eI : ∀ pt, tyI S a e pt k (n + 1) = if (tyR S a e pt k (fr (n + 1))).1 = 1 then tyR S a e pt k (fr (n + 1)) else if (tyR S a e pt k (- fr (n + 1))).1 = 1 then tyR S a e pt k (- fr (n + 1)) else tyI S a e pt k n := fun _ => rfl
    rw [eI, eI, (r (fr (n + 1))).1, (r (- fr (n + 1))).1]
    split
    · exact r _
    · split
      · exact r _
      · exact ih
theorem tyV_ai {S : Pg} {pt qt : Int → Int} {a e : Int} (h : Ai S pt qt) (a0 : 0 ≤ a) (a1 : a < S 11 0) : ∀ (n : Nat) (k : Int), 0 ≤ k → k + n ≤ S 11 0 → (tyV S a e pt n k).1 = (tyV S a e qt n k).1 ∧ Ai S (tyV S a e pt n k).2 (tyV S a e qt n k).2
  | 0, _, _, _ => ⟨rfl, h⟩
  | n + 1, k, k0, k1 => by
    have eI : ∀ pt, tyV S a e pt (n + 1) k = if S 0 k = -2 ∧ (tyI S a e pt k 9).1 = 1 then tyI S a e pt k 9 else tyV S a e pt n (k + 1) := fun _ => rfl
    have ih := tyV_ai (e := e) h a0 a1 n (k + 1) (by omega) (by omega)
    rw [eI, eI]
    by_cases q : S 0 k = -2
    · have t := tyI_ai (e := e) h a0 a1 k0 (by omega) q 9
      rw [t.1]
      split
      · exact t
      · exact ih
    · rw [if_neg (fun z => q z.1), if_neg (fun z => q z.1)]
      exact ih
theorem cm_ai {S : Pg} {a : Int} (c0 : 0 ≤ S 11 0) (a0 : 0 ≤ a) (a1 : a < S 11 0) : ∀ (n : Nat) (pt qt : Int → Int), Ai S pt qt → Ai S (cmR S a n pt) (cmR S a n qt)
  | 0, _, _, h => h
  | n + 1, pt, qt, h => by
    have eR : ∀ pt, cmR S a (n + 1) pt = if (tyV S a (erS S pt a) pt (S 11 0).toNat 0).1 = 1 then cmR S a n (tyV S a (erS S pt a) pt (S 11 0).toNat 0).2 else pt := fun _ => rfl
    have t := tyV_ai (e := erS S qt a) h a0 a1 (S 11 0).toNat 0 (by omega) (by omega)
    rw [eR, eR, h.er a0 a1, t.1]
    split
    · exact cm_ai c0 a0 a1 n _ _ t.2
    · exact h
theorem cm_in {S : Pg} {a : Int} : ∀ (n : Nat) (pt : Int → Int), PtI S pt → PtI S (cmR S a n pt)
  | 0, _, h => h
  | n + 1, pt, h => by
    have eR : cmR S a (n + 1) pt = if (tyV S a (erS S pt a) pt (S 11 0).toNat 0).1 = 1 then cmR S a n (tyV S a (erS S pt a) pt (S 11 0).toNat 0).2 else pt := rfl
    rw [eR]
    split
    · exact cm_in n _ (tyV_in h _ _).1
    · exact h
/-- the climbs of both -/
theorem sk_rk {S : Pg} {a : Int} (hW : WF S) (a0 : 0 ≤ a) (a1 : a < S 11 0) {s t : Sk} (h1 : s.2.1 = t.2.1) (s0 : 0 ≤ t.2.1) (s1 : t.2.1 ≤ 65536) (g1 : s.2.2.1 = -1) (g2 : t.2.2.1 = -1) : ∀ n : Nat, (skS S a s n).2.1 = (rkS S a t n).2.1 ∧ (skS S a s n).2.2.1 = (rkS S a t n).2.2.1 ∧ (n = 0 → (skS S a s n).2.2.1 = -1) ∧ (0 < n → Ai S (rkS S a t n).2.2.2 (skS S a s n).2.2.2)
  | 0 => ⟨h1, g1.trans g2.symm, fun _ => g1, fun h => absurd h (by decide)⟩
  | n + 1 => by
    obtain ⟨i1, i2, i3, i4⟩ := sk_rk hW a0 a1 h1 s0 s1 g1 g2 n
    have c0 := hW.1
    have b := rkS_bd (S := S) (a := a) s0 s1 n
    show (skN S a (skS S a s n)).2.1 = (rkN S a (rkS S a t n)).2.1 ∧ (skN S a (skS S a s n)).2.2.1 = (rkN S a (rkS S a t n)).2.2.1 ∧ (n + 1 = 0 → (skN S a (skS S a s n)).2.2.1 = -1) ∧ (0 < n + 1 → Ai S (rkN S a (rkS S a t n)).2.2.2 (skN S a (skS S a s n)).2.2.2)
    generalize skS S a s n = x at *
    generalize rkS S a t n = y at *
    have d := dq_dpc (pt := y.1) (qt := x.1) (s := y.2.1) hW
    have pin : PtI S (dqS S y.1 y.2.1 (S 11 0).toNat).1 := fun k k0 k1 q => dqS_in S y.1 hW b.1 b.2 (S 11 0).toNat (by omega) k k0 (by omega) q
    have ai : Ai S (dqS S y.1 y.2.1 (S 11 0).toNat).1 (dpS S x.1 x.2.1 (S 12 0).toNat).1 := by rw [i1]; exact d.2
    have cm := cm_ai c0 a0 a1 40 _ _ ai
    have ec : skC S a x = (erS S (cmR S a 40 (skD S x).1) a, cmR S a 40 (skD S x).1) := cb_cm hW a0 a1 40 _
    have er : erS S (rkP S a y) a = erS S (cmR S a 40 (skD S x).1) a := cm.er a0 a1
    have nn : 0 ≤ erS S (rkP S a y) a := er_nn hW (cm_in 40 _ pin) a0 a1
    unfold skN rkN
    rw [ec, er, i2]
    refine ⟨?_, rfl, fun h => absurd h (by omega), fun _ => ?_⟩
    · show (dpS S x.1 x.2.1 (S 12 0).toNat).2 = (dqS S y.1 y.2.1 (S 11 0).toNat).2
      rw [i1]; exact d.1.symm
    · show Ai S (if y.2.2.1 < erS S (cmR S a 40 (skD S x).1) a then cpV (S 11 0) (rkP S a y) y.2.2.2 else y.2.2.2) (if y.2.2.1 < erS S (cmR S a 40 (skD S x).1) a then cpB (cmR S a 40 (skD S x).1) x.2.2.2 else x.2.2.2)
      split
      · intro k k0 k1 q
        have h15 := hW.2.1
        unfold cpV cpB
        rw [if_pos ⟨k0, k1⟩, if_pos ⟨k0, by omega⟩]
        exact cm k k0 k1 q
      · rename_i z
        by_cases w : n = 0
        · have := i3 w
          omega
        · exact i4 (by omega)
