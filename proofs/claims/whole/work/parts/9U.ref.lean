/-- the pieces of the reference are those of the class -/
def PcR (S : Pg) (M : Mm) (c : Pc) : Prop := M (29, 0, 0) 47 = c.2.2.2.1 ∧ ∀ p, 0 ≤ p → p < c.2.2.2.1 → (∀ i, 0 ≤ i → i < S 12 0 → M (30, 0, 43) (15 * p + S 10 i) = c.1 (p * 3 + i) ∧ M (30, 0, 44) (15 * p + S 10 i) = c.2.1 (p * 3 + i)) ∧ (M (30, 0, 46) p = 0 ∧ M (30, 0, 45) p = c.2.2.1 p ∧ 0 ≤ c.2.2.1 p ∨ M (30, 0, 46) p = 1 ∧ c.2.2.1 p = -1)
theorem wpR_n {gn bd : Int → Int} {n : Nat} : wpR gn bd (n + 1) = if gn n = 0 ∧ (wpR gn bd n = -1 ∨ bd (wpR gn bd n) < bd n) then (n : Int) else wpR gn bd n := rfl
theorem wpS_n {bd : Int → Int} {n : Nat} : wpS bd (n + 1) = if bd (wpS bd n) < bd n then (n : Int) else wpS bd n := rfl
/-- the worst piece of both -/
theorem wp_eq {gn bd bs : Int → Int} : ∀ n : Nat, (∀ p : Int, 0 ≤ p → p < (n : Int) → gn p = 0 ∧ bd p = bs p ∧ 0 ≤ bs p ∨ gn p = 1 ∧ bs p = -1) → (wpR gn bd n = -1 ∧ wpS bs n = 0 ∧ ∀ p : Int, 0 ≤ p → p < (n : Int) → bs p = -1) ∨ (wpR gn bd n = wpS bs n ∧ 0 ≤ wpS bs n ∧ wpS bs n < n ∧ gn (wpS bs n) = 0)
  | 0, _ => Or.inl ⟨rfl, rfl, fun p a b => absurd b (by omega)⟩
  | n + 1, h => by
    have ih := wp_eq (gn := gn) (bd := bd) (bs := bs) n (fun p a b => h p a (by omega))
    have hn := h n (by omega) (by omega)
    rw [wpR_n, wpS_n]
    rcases hn with ⟨g1, g2, g3⟩ | ⟨g1, g2⟩
    · right
      rcases ih with ⟨i1, i2, i3⟩ | ⟨i1, i2, i3, i4⟩
      · rw [if_pos ⟨g1, Or.inl i1⟩, i2]
        by_cases z : n = 0
        · subst z
          rw [if_neg (fun q => absurd q (by show ¬ bs 0 < bs 0; omega))]
          exact ⟨rfl, by omega, by omega, g1⟩
        · have := i3 0 (by omega) (by omega)
          rw [if_pos (by omega)]
          exact ⟨rfl, by omega, by omega, g1⟩
      · have hx := h (wpS bs n) i2 (by omega)
        rw [i1, g1]
        have bx : bd (wpS bs n) = bs (wpS bs n) := by omega
        rw [bx, g2]
        by_cases z : bs (wpS bs n) < bs n
        · rw [if_pos ⟨rfl, Or.inr z⟩, if_pos z]
          exact ⟨rfl, by omega, by omega, g1⟩
        · rw [if_neg (by omega), if_neg z]
          exact ⟨rfl, i2, by omega, i4⟩
    · rw [if_neg (by omega)]
      rcases ih with ⟨i1, i2, i3⟩ | ⟨i1, i2, i3, i4⟩
      · left
        refine ⟨i1, ?_, fun p a b => ?_⟩
        · rw [i2]
          by_cases z : n = 0
          · subst z
            split
            · rfl
            · rfl
          · have := i3 0 (by omega) (by omega)
            rw [if_neg (by omega)]
        · by_cases z : p = n
          · rw [z]; exact g2
          · exact i3 p a (by omega)
      · right
        have hx := h (wpS bs n) i2 (by omega)
        rw [if_neg (by omega)]
        exact ⟨i1, i2, by omega, i4⟩
theorem PcR.wp {S : Pg} {M : Mm} {c : Pc} (h : PcR S M c) (m0 : 1 ≤ c.2.2.2.1) (hl : 0 ≤ c.2.2.1 (c.2.2.2.1 - 1)) : wpR (M (30, 0, 46)) (M (30, 0, 45)) (M (29, 0, 0) 47).toNat = spW c ∧ 0 ≤ spW c ∧ spW c < c.2.2.2.1 ∧ M (30, 0, 45) (spW c) = c.2.2.1 (spW c) ∧ 0 ≤ c.2.2.1 (spW c) := by
  have e := wp_eq (gn := M (30, 0, 46)) (bd := M (30, 0, 45)) (bs := c.2.2.1) c.2.2.2.1.toNat (fun p a b => (h.2 p a (by omega)).2)
  rw [h.1]
  unfold spW
  rcases e with ⟨e1, e2, e3⟩ | ⟨e1, e2, e3, e4⟩
  · have := e3 (c.2.2.2.1 - 1) (by omega) (by omega)
    omega
  · have g := (h.2 _ e2 (by omega)).2
    exact ⟨e1, e2, by omega, by omega, by omega⟩
theorem iX_j {S : Pg} (hW : WF S) {v : Int} (v0 : 0 ≤ v) (v1 : v < S 11 0) (q : S 0 v = -2) : iX S (v + 1) = iX S v + 1 ∧ (iX S v : Int) < S 12 0 ∧ S 10 (iX S v) = v := by
  obtain ⟨i1, i2, i3⟩ := in_at hW v0 v1 q
  unfold iX
  rw [cnS_s v0, if_neg (fun z => z q)]
  refine ⟨by omega, by omega, ?_⟩
  rw [Int.toNat_of_nonneg i1]; exact i3
theorem iX_all {S : Pg} (hW : WF S) : iX S (S 11 0) = (S 12 0).toNat := by
  unfold iX
  rw [hW.2.2.2.2.1, show S 11 0 - (S 11 0 - S 12 0) = S 12 0 by omega]
theorem wdS_n {lo hi : Int → Int} {b : Int} {i : Nat} : wdS lo hi b (i + 1) = if (wdS lo hi b i).2 < hi (b + i) - lo (b + i) ∧ (hi (b + i) - lo (b + i)).tmod 4 = 0 then ((i : Int), hi (b + i) - lo (b + i)) else wdS lo hi b i := rfl
/-- the widest input of both -/
theorem wi_eq {S : Pg} (hW : WF S) {lo hi L H : Int → Int} {b : Int} (hl : ∀ i, 0 ≤ i → i < S 12 0 → lo (S 10 i) = L (b + i) ∧ hi (S 10 i) = H (b + i)) : ∀ v : Nat, (v : Int) ≤ S 11 0 → (wiR S lo hi v = -1 ∧ wdS L H b (iX S v) = (-1, 0)) ∨ (0 ≤ (wdS L H b (iX S v)).1 ∧ (wdS L H b (iX S v)).1 < S 12 0 ∧ wiR S lo hi v = S 10 (wdS L H b (iX S v)).1 ∧ (wdS L H b (iX S v)).2 = H (b + (wdS L H b (iX S v)).1) - L (b + (wdS L H b (iX S v)).1) ∧ 0 < (wdS L H b (iX S v)).2 ∧ ((wdS L H b (iX S v)).2).tmod 4 = 0)
  | 0, _ => Or.inl ⟨rfl, rfl⟩
  | v + 1, hv => by
    have ih := wi_eq hW hl v (by omega)
    have es := wiR_s (S := S) (lo := lo) (hi := hi) (k := v) (by omega)
    rw [show ((v : Int) + 1).toNat = v + 1 by omega, Int.toNat_natCast] at es
    rw [es]
    rw [show ((v + 1 : Nat) : Int) = (v : Int) + 1 by omega]
    by_cases q : S 0 v = -2
    · obtain ⟨x1, x2, x3⟩ := iX_j hW (v := v) (by omega) (by omega) q
      rw [x1, wdS_n]
      have hv' := hl (iX S v) (by omega) x2
      rw [x3] at hv'
      rw [hv'.1, hv'.2]
      rcases ih with ⟨i1, i2⟩ | ⟨i1, i2, i3, i4, i5, i6⟩
      · rw [i1, i2]
        by_cases z : (0 : Int) < H (b + (iX S v : Int)) - L (b + (iX S v : Int)) ∧ (H (b + (iX S v : Int)) - L (b + (iX S v : Int))).tmod 4 = 0
        · rw [if_pos ⟨q, z.1, z.2, Or.inl rfl⟩, if_pos z]
          exact Or.inr ⟨by show (0 : Int) ≤ (iX S v : Int); omega, x2, x3.symm, rfl, z.1, z.2⟩
        · rw [if_neg (fun w => z ⟨w.2.1, w.2.2.1⟩), if_neg z]
          exact Or.inl ⟨rfl, rfl⟩
      · have hw := hl _ i1 i2
        rw [i3, hw.1, hw.2, ← i4]
        by_cases z : (wdS L H b (iX S v)).2 < H (b + (iX S v : Int)) - L (b + (iX S v : Int)) ∧ (H (b + (iX S v : Int)) - L (b + (iX S v : Int))).tmod 4 = 0
        · rw [if_pos ⟨q, by omega, z.2, Or.inr z.1⟩, if_pos z]
          exact Or.inr ⟨by show (0 : Int) ≤ (iX S v : Int); omega, x2, x3.symm, rfl, by show (0 : Int) < H (b + (iX S v : Int)) - L (b + (iX S v : Int)); omega, z.2⟩
        · rw [if_neg z, if_neg]
          · exact Or.inr ⟨i1, i2, rfl, i4, i5, i6⟩
          · intro w
            have k := hW.2.2.2.2.2.2.2.1 _ i1 i2
            exact z ⟨by omega, w.2.2.1⟩
    · rw [if_neg (fun w => q w.1), iX_n (by omega) q]
      exact ih
theorem mid_eq {x y : Int} (h : (y - x).tmod 4 = 0) : (x + y).tdiv 2 = x + (y - x).tdiv 2 := by
  obtain ⟨q, hq⟩ := Int.dvd_of_tmod_eq_zero h
  rw [show x + y = 2 * (x + 2 * q) by omega, show y - x = 2 * (2 * q) by omega, Int.mul_tdiv_cancel_left _ (by decide), Int.mul_tdiv_cancel_left _ (by decide)]
theorem in_inj {S : Pg} (hW : WF S) {i j : Int} (i0 : 0 ≤ i) (i1 : i < S 12 0) (j0 : 0 ≤ j) (j1 : j < S 12 0) (h : S 10 i = S 10 j) : i = j := by
  have m := hW.2.2.2.2.2.2.2.2.2
  rcases Int.lt_trichotomy i j with q | q | q
  · have := m i j i0 q j1; omega
  · exact q
  · have := m j i j0 q i1; omega
/-- ranges of a row, by inputs -/
theorem rg_at {S : Pg} (hW : WF S) {lo hi : Int → Int} {b : Int} : ∀ n : Nat, (n : Int) ≤ S 12 0 → ∀ i : Int, 0 ≤ i → i < n → rgS S lo hi b n 2 (S 10 i) = lo (b + i) ∧ rgS S lo hi b n 3 (S 10 i) = hi (b + i)
  | 0, _, i, i0, i1 => absurd i1 (by omega)
  | n + 1, hn, i, i0, i1 => by
    rw [rgS_s, rgS_s]
    by_cases z : i = n
    · subst z
      rw [if_neg (fun w => absurd w.1 (by decide)), if_pos ⟨rfl, rfl⟩, if_pos ⟨rfl, rfl⟩]
      exact ⟨rfl, rfl⟩
    · have ne : ¬ S 10 i = S 10 n := fun w => z (in_inj hW i0 (by omega) (by omega) (by omega) w)
      rw [if_neg (fun w => ne w.2), if_neg (fun w => ne w.2), if_neg (fun w => ne w.2), if_neg (fun w => ne w.2)]
      exact rg_at hW n (by omega) i i0 (by omega)
theorem rg_hl {S : Pg} (hW : WF S) {lo hi A B : Int → Int} {b : Int} (hl : ∀ i, 0 ≤ i → i < S 12 0 → A (S 10 i) = lo (b + i) ∧ B (S 10 i) = hi (b + i)) (ho : rgO S lo hi b) : ∀ v, 0 ≤ v → v < S 11 0 → S 0 v = -2 → A v = rgS S lo hi b (S 12 0).toNat 2 v ∧ B v = rgS S lo hi b (S 12 0).toNat 3 v ∧ -1000 ≤ rgS S lo hi b (S 12 0).toNat 2 v ∧ rgS S lo hi b (S 12 0).toNat 2 v ≤ rgS S lo hi b (S 12 0).toNat 3 v ∧ rgS S lo hi b (S 12 0).toNat 3 v ≤ 1000 := by
  intro v v0 v1 q
  obtain ⟨i1, i2, i3⟩ := in_at hW v0 v1 q
  have r := rg_at hW (lo := lo) (hi := hi) (b := b) (S 12 0).toNat (by omega) _ i1 (by omega)
  have a := hl _ i1 i2
  have w := ho _ i1 i2
  rw [i3] at r a
  rw [r.1, r.2]
  exact ⟨a.1, a.2, w.1, w.2.1, w.2.2⟩
theorem rg_XS {S : Pg} {lo hi : Int → Int} {b : Int} : XS S (rgS S lo hi b (S 12 0).toNat) := fun _ h2 h3 => rgS_k _ _ _ _ h2 h3 _
/-- ranges within those of the program -/
def rgI (S : Pg) (lo hi : Int → Int) (b : Int) : Prop := ∀ i, 0 ≤ i → i < S 12 0 → S 2 (S 10 i) ≤ lo (b + i) ∧ lo (b + i) ≤ hi (b + i) ∧ hi (b + i) ≤ S 3 (S 10 i)
theorem rgI.o {S : Pg} {lo hi : Int → Int} {b : Int} (h : rgI S lo hi b) (hW : WF S) : rgO S lo hi b := fun i i0 i1 => by
  have k := hW.2.2.2.2.2.2.2.1 i i0 i1
  have w := (hW.2.2.2.2.2.2.1 _ k.1 k.2.1).1.1 k.2.2
  have := h i i0 i1
  omega
/-- the bound of a piece of both; a pick has a candidate -/
def BdH (S : Pg) (W : Int → Bool) (a : Int) : Prop := ∀ lo hi b, rgI S lo hi b → bdR ((sK (rgS S lo hi b (S 12 0).toNat) W (S 11 0).toNat).1 (15 + a.toNat)) = bdF (rgS S lo hi b (S 12 0).toNat) a ∧ 0 ≤ bdF (rgS S lo hi b (S 12 0).toNat) a ∧ ∀ v : Nat, (v : Int) < S 11 0 → NEq S (sK (rgS S lo hi b (S 12 0).toNat) W v).1 v
theorem spS_1 {S : Pg} {c : Pc} : (spS S c).1 = upI (cpR (cpR c.1 (spW c * 3) (c.2.2.2.1 * 3)) (spW c * 3) ((c.2.2.2.1 + 1) * 3)) ((c.2.2.2.1 + 1) * 3 + spI S c) (spM S c) := rfl
theorem spS_2 {S : Pg} {c : Pc} : (spS S c).2.1 = cpR (upI (cpR c.2.1 (spW c * 3) (c.2.2.2.1 * 3)) (c.2.2.2.1 * 3 + spI S c) (spM S c)) (spW c * 3) ((c.2.2.2.1 + 1) * 3) := rfl
theorem spS_3 {S : Pg} {c : Pc} : (spS S c).2.2.1 = upI (upI (upI c.2.2.1 c.2.2.2.1 (bdF (kmP S (spA S c)) c.2.2.2.2.2)) (c.2.2.2.1 + 1) (bdF (kmP S (spB S c (kmS S (spA S c)))) c.2.2.2.2.2)) (spW c) (-1) := rfl
theorem spS_4 {S : Pg} {c : Pc} : (spS S c).2.2.2.1 = c.2.2.2.1 + 1 + 1 := rfl
/-- the rows of what was split, by the pieces -/
theorem spS_row {S : Pg} {c : Pc} (n3 : S 12 0 ≤ 3) (w0 : 0 ≤ spW c) (w1 : spW c < c.2.2.2.1) (k0 : 0 ≤ spI S c) {p i : Int} (p0 : 0 ≤ p) (p1 : p < c.2.2.2.1 + 2) (i0 : 0 ≤ i) (i1 : i < S 12 0) : (spS S c).1 (p * 3 + i) = (if p = c.2.2.2.1 + 1 then (if i = spI S c then spM S c else c.1 (spW c * 3 + i)) else if p = c.2.2.2.1 then c.1 (spW c * 3 + i) else c.1 (p * 3 + i)) ∧ (spS S c).2.1 (p * 3 + i) = (if p = c.2.2.2.1 + 1 then c.2.1 (spW c * 3 + i) else if p = c.2.2.2.1 then (if i = spI S c then spM S c else c.2.1 (spW c * 3 + i)) else c.2.1 (p * 3 + i)) := by
  rw [spS_1, spS_2]
  by_cases z : p = c.2.2.2.1 + 1
  · rw [if_pos z, if_pos z, z, upI_b, cpR_at i0 (by omega), cpR_at i0 (by omega), cpR_out (by omega), upI_out (by omega), cpR_out (by omega)]
    exact ⟨rfl, rfl⟩
  · rw [if_neg z, if_neg z]
    refine ⟨?_, ?_⟩
    · rw [upI_out (by omega), cpR_out (b := (c.2.2.2.1 + 1) * 3) (by omega)]
      by_cases y : p = c.2.2.2.1
      · rw [if_pos y, y, cpR_at i0 (by omega)]
      · rw [if_neg y, cpR_out (by omega)]
    · rw [cpR_out (b := (c.2.2.2.1 + 1) * 3) (by omega)]
      by_cases y : p = c.2.2.2.1
      · rw [if_pos y, y, upI_b, cpR_at i0 (by omega)]
      · rw [if_neg y, upI_out (by omega), cpR_out (by omega)]
theorem spI_row {S : Pg} {c : Pc} (n3 : S 12 0 ≤ 3) (w0 : 0 ≤ spW c) (w1 : spW c < c.2.2.2.1) (k0 : 0 ≤ spI S c) (k1 : spI S c < S 12 0) (h : ∀ j, 0 ≤ j → j < c.2.2.2.1 → rgI S c.1 c.2.1 (j * 3)) {p : Int} (p0 : 0 ≤ p) (p1 : p < c.2.2.2.1 + 2) : rgI S (spS S c).1 (spS S c).2.1 (p * 3) := fun i i0 i1 => by
  have r := spS_row n3 w0 w1 k0 p0 p1 i0 i1
  have g := h _ w0 w1 i i0 i1
  have m : c.1 (spW c * 3 + spI S c) ≤ spM S c ∧ spM S c ≤ c.2.1 (spW c * 3 + spI S c) := mid_bd (h _ w0 w1 _ k0 k1).2.1
  rw [r.1, r.2]
  by_cases z : p = c.2.2.2.1 + 1
  · rw [if_pos z, if_pos z]
    by_cases y : i = spI S c
    · rw [if_pos y]; rw [← y] at m; omega
    · rw [if_neg y]; exact g
  · rw [if_neg z, if_neg z]
    by_cases t : p = c.2.2.2.1
    · rw [if_pos t, if_pos t]
      by_cases y : i = spI S c
      · rw [if_pos y]; rw [← y] at m; omega
      · rw [if_neg y]; exact g
    · rw [if_neg t, if_neg t]; exact h p p0 (by omega) i i0 i1
theorem spM_bd {S : Pg} {c : Pc} (h : rgO S c.1 c.2.1 (spW c * 3)) (k0 : 0 ≤ spI S c) (k1 : spI S c < S 12 0) : c.1 (spW c * 3 + spI S c) ≤ spM S c ∧ spM S c ≤ c.2.1 (spW c * 3 + spI S c) := mid_bd (h _ k0 k1).2.1
set_option maxRecDepth 100000 in
set_option maxHeartbeats 4000000 in
theorem ct_X8_splitsOnce {E : Ev} {M : Mm} {N : Nn} {S : Pg} {W : Int → Bool} {c : Pc} (hQ : QR S M) (hW : WF S) (hP : PcR S M c) (m0 : 1 ≤ c.2.2.2.1) (m1 : c.2.2.2.1 ≤ 81) (hl : 0 ≤ c.2.2.1 (c.2.2.2.1 - 1)) (ho : ∀ j, 0 ≤ j → j < c.2.2.2.1 → rgI S c.1 c.2.1 (j * 3)) (a0 : 0 ≤ c.2.2.2.2.2) (a1 : c.2.2.2.2.2 < S 11 0) (hB : ∀ v, 0 ≤ v → v < S 11 0 → W v = true) (hBd : BdH S W c.2.2.2.2.2) : Ct E yX8_splitsOnce cX8_splitsOnce 5 ((some .boolean)) (rmH 9) [vr (29, 0, 0), vi c.2.2.2.2.2] M N (qi (fun r M1 N1 => ((spI S c = -1 ∧ r = 0 ∧ PcR S M1 c) ∨ (spI S c ≠ -1 ∧ r = 1 ∧ PcR S M1 (spS S c) ∧ 0 ≤ (spS S c).2.2.1 (c.2.2.2.1 + 1) ∧ ∀ j, 0 ≤ j → j < c.2.2.2.1 + 2 → rgI S (spS S c).1 (spS S c).2.1 (j * 3))) ∧ Kr [34, 37, 42, 47] [28, 29, 33, 35, 36, 38, 39, 40, 41, 43, 44, 45, 46] M M1 ∧ N = N1)) := by
  refine ct_of (own := RX8) (L0 := [vr (29, 0, 0), vi c.2.2.2.2.2, vn, vn, vn]) rfl (by decide +kernel) rfl rfl ?_
  have c6 := hQ.1
  have c5 := hQ.2.2.1
  have c0 := hQ.2.1
  have n0 := hW.2.2.1
  have n3 := hW.2.2.2.1
  have e47 := hP.1
  obtain ⟨wp1, wp2, wp3, wp4, wp5⟩ := hP.wp m0 hl
  have hin := hW.2.2.2.2.2.2.2.1
  have hbi := ho _ wp2 wp3
  have hbw := hbi.o hW
  refine go_aload_n dX8_splitsOnce_0 rfl rfl ?_
  refine v8_451 dX8_splitsOnce_1 rfl ⟨rfl, rfl⟩ ⟨rfl, rfl⟩ (ct_X8_worstPiece (by omega) (by omega)) (fun r1 M1 N1 hr1 hq1 => ?_)
  obtain ⟨e1, rfl, rfl⟩ := hq1
  rw [wp1] at e1
  subst e1
  refine go_ist2 dX8_splitsOnce_4 rfl rfl ?_
  refine go_aload_n dX8_splitsOnce_5 rfl rfl ?_
  refine go_iload_n dX8_splitsOnce_6 rfl ?_
  refine v8_454 dX8_splitsOnce_7 rfl ⟨rfl, rfl⟩ ⟨rfl, rfl⟩ (ct_X8_takesRanges hQ wp2 (by omega)) (fun M2 N2 hq2 => ?_)
  obtain ⟨t1, t2, rfl⟩ := hq2
  have hQ2 := (hQ.k t2 (by decide) (by decide) (by decide) (by decide) (by decide) (by decide) (by decide) (by decide))
  have tl : ∀ i, 0 ≤ i → i < S 12 0 → M2 (30, 0, 38) (S 10 i) = c.1 (spW c * 3 + i) ∧ M2 (30, 0, 39) (S 10 i) = c.2.1 (spW c * 3 + i) := fun i i0 i1 => by
    have a := t1 (S 10 i) (hin i i0 i1).1 (hin i i0 i1).2.1
    have b := (hP.2 _ wp2 wp3).1 i i0 i1
    exact ⟨a.1.trans b.1, a.2.trans b.2⟩
  have tv : ∀ k, 0 ≤ k → k < S 11 0 → S 0 k = -2 → -1000 ≤ M2 (30, 0, 38) k ∧ M2 (30, 0, 38) k ≤ M2 (30, 0, 39) k ∧ M2 (30, 0, 39) k ≤ 1000 := fun k k0 k1 kq => by
    obtain ⟨i1, i2, i3⟩ := in_at hW k0 k1 kq
    have a := tl _ i1 i2
    rw [i3] at a
    rw [a.1, a.2]
    exact hbw _ i1 i2
  refine go_aload_n dX8_splitsOnce_10 rfl rfl ?_
  refine v8_457 dX8_splitsOnce_11 rfl ⟨rfl, rfl⟩ ⟨rfl, rfl⟩ (ct_X8_widest hQ2 tv) (fun r3 M3 N3 hr3 hq3 => ?_)
  obtain ⟨e3, rfl, rfl⟩ := hq3
  have wi := wi_eq hW tl (S 11 0).toNat (by omega)
  rw [← e3, Int.toNat_of_nonneg c0, iX_all hW] at wi
  clear e3
  refine go_ist3 dX8_splitsOnce_14 rfl rfl ?_
  refine go_iload_n dX8_splitsOnce_15 rfl ?_
  refine go_iconst dX8_splitsOnce_16 (R32_lit rfl) ?_
  refine go_icmp_ne (tgt := 22) dX8_splitsOnce_17 rfl (fun h17 => ?_) (fun h17 => ?_)
  · have wj : 0 ≤ spI S c ∧ spI S c < S 12 0 ∧ r3 = S 10 (spI S c) ∧ (c.2.1 (spW c * 3 + spI S c) - c.1 (spW c * 3 + spI S c)).tmod 4 = 0 := by
      rcases wi with ⟨w1, w2⟩ | ⟨w1, w2, w3, w4, w5, w6⟩
      · omega
      · rw [w4] at w6
        exact ⟨w1, w2, w3, w6⟩
    clear wi
    obtain ⟨k0, k1, rfl, k4⟩ := wj
    have kin := hin _ k0 k1
    have tk := tl _ k0 k1
    have hmx := spM_bd hbw k0 k1
    have hbk := hbw _ k0 k1
    have hmid : (c.1 (spW c * 3 + spI S c) + c.2.1 (spW c * 3 + spI S c)).tdiv 2 = spM S c := mid_eq k4
    have ni : spI S c ≠ -1 := by omega
    refine go_aload_n dX8_splitsOnce_22 rfl rfl ?_
    refine g8_74 dX8_splitsOnce_23 ?_
    refine go_iload_n dX8_splitsOnce_26 rfl ?_
    refine go_iald dX8_splitsOnce_27 rfl (by omega) (by omega) ?_
    rw [tk.1]
    refine go_aload_n dX8_splitsOnce_28 rfl rfl ?_
    refine g8_77 dX8_splitsOnce_29 ?_
    refine go_iload_n dX8_splitsOnce_32 rfl ?_
    refine go_iald dX8_splitsOnce_33 rfl (by omega) (by omega) ?_
    rw [tk.2]
    refine go_iaddc dX8_splitsOnce_34 ⟨by omega, by omega⟩ ?_
    refine go_iconst dX8_splitsOnce_35 (R32_lit rfl) ?_
    refine go_idivc dX8_splitsOnce_36 (by decide) ⟨by rw [hmid]; omega, by rw [hmid]; omega⟩ ?_
    rw [hmid]
    refine go_ist4 dX8_splitsOnce_37 rfl rfl ?_
    refine go_aload_n dX8_splitsOnce_39 rfl rfl ?_
    refine g8_95 dX8_splitsOnce_40 ?_
    refine go_iload_n dX8_splitsOnce_43 rfl ?_
    refine go_iconst dX8_splitsOnce_44 (R32_lit rfl) ?_
    refine go_zast dX8_splitsOnce_45 rfl (by omega) (by omega) (by first | exact Or.inl rfl | exact Or.inr rfl | omega) ?_
    refine go_aload_n dX8_splitsOnce_46 rfl rfl ?_
    refine g8_77 dX8_splitsOnce_47 ?_
    refine go_iload_n dX8_splitsOnce_50 rfl ?_
    refine go_iload dX8_splitsOnce_51 rfl ?_
    refine go_iast dX8_splitsOnce_53 rfl (by omega) (by omega) ?_
    refine go_nmM (fun M3 eM3 => ?_)
    have f3 : Kr [] [38, 39, 46] M M3 := by rw [eM3]; exact ((t2.up (by decide) (by decide)).wa (by decide)).wa (by decide)
    have hQ3 := (hQ.k f3 (by decide) (by decide) (by decide) (by decide) (by decide) (by decide) (by decide) (by decide))
    have e38 : M3 (30, 0, 38) = M2 (30, 0, 38) := by rw [eM3, wr_nf (nm_ne3 (by decide)), wr_nf (nm_ne3 (by decide))]
    have e39 : M3 (30, 0, 39) = upI (M2 (30, 0, 39)) (S 10 (spI S c)) (spM S c) := by rw [eM3, upI_wr, wr_nf (nm_ne3 (by decide))]
    have e46 : M3 (30, 0, 46) = upI (M (30, 0, 46)) (spW c) 1 := by rw [eM3, wr_nf (nm_ne3 (by decide)), upI_wr, t2.a 46 (by decide)]
    clear eM3
    have rall : ∀ p, 0 ≤ p → p < c.2.2.2.1 + 2 → rgI S (spS S c).1 (spS S c).2.1 (p * 3) := fun p p0 p1 => spI_row n3 wp2 wp3 k0 k1 ho p0 p1
    have rA : rgI S (spA S c).1 (spA S c).2.1 (c.2.2.2.1 * 3) := fun i i0 i1 => by
      have r := spS_row n3 wp2 wp3 k0 (p := c.2.2.2.1) (by omega) (by omega) i0 i1
      have g := rall c.2.2.2.1 (by omega) (by omega) i i0 i1
      rw [r.1, r.2, if_neg (by omega), if_pos rfl, if_neg (by omega), if_pos rfl] at g
      show _ ≤ cpR c.1 _ (c.2.2.2.1 * 3) (c.2.2.2.1 * 3 + i) ∧ cpR c.1 _ (c.2.2.2.1 * 3) (c.2.2.2.1 * 3 + i) ≤ upI (cpR c.2.1 _ (c.2.2.2.1 * 3)) (c.2.2.2.1 * 3 + spI S c) _ (c.2.2.2.1 * 3 + i) ∧ upI (cpR c.2.1 _ (c.2.2.2.1 * 3)) (c.2.2.2.1 * 3 + spI S c) _ (c.2.2.2.1 * 3 + i) ≤ _
      rw [upI_b, cpR_at i0 (by omega), cpR_at i0 (by omega)]
      exact g
    have roA := rA.o hW
    have hlA := rg_hl hW (A := M3 (30, 0, 38)) (B := M3 (30, 0, 39)) (lo := (spA S c).1) (hi := (spA S c).2.1) (b := c.2.2.2.1 * 3) (fun i i0 i1 => by
      have a := tl i i0 i1
      show _ = cpR c.1 _ (c.2.2.2.1 * 3) (c.2.2.2.1 * 3 + i) ∧ _ = upI (cpR c.2.1 _ (c.2.2.2.1 * 3)) (c.2.2.2.1 * 3 + spI S c) _ (c.2.2.2.1 * 3 + i)
      rw [e38, e39, upI_b, cpR_at i0 (by omega), cpR_at i0 (by omega)]
      refine ⟨a.1, ?_⟩
      by_cases z : i = spI S c
      · rw [if_pos z, z, upI_eq]
      · rw [if_neg z, upI_out (fun q => z (in_inj hW i0 i1 k0 k1 q))]; exact a.2) roA
    obtain ⟨bA1, bA2, bA3⟩ := hBd _ _ _ rA
    have e47' : M3 (29, 0, 0) 47 = c.2.2.2.1 := by rw [f3.s 47 (by decide)]; exact e47
    refine go_aload_n dX8_splitsOnce_54 rfl rfl ?_
    refine go_iload_n dX8_splitsOnce_55 rfl ?_
    refine v8_448 dX8_splitsOnce_56 rfl ⟨rfl, rfl⟩ ⟨rfl, rfl⟩ (ct_X8_makes (X := kmP S (spA S c)) (W := W) hQ3 hW rg_XS hlA hB bA3 a0 a1 (by omega) (by omega)) (fun M4 N4 hq4 => ?_)
    obtain ⟨y1, y2, y3, y4, y5, y6, rfl⟩ := hq4
    rw [e47'] at y1 y2 y3 y4 y5
    have f4 : Kr [34, 37, 42, 47] [28, 29, 33, 35, 36, 38, 39, 40, 41, 43, 44, 45, 46] M M4 := (f3.up (by decide) (by decide)).tr (y6.up (by decide) (by decide))
    have hQ4 := (hQ.k f4 (by decide) (by decide) (by decide) (by decide) (by decide) (by decide) (by decide) (by decide))
    have b43 : M3 (30, 0, 43) = M (30, 0, 43) := f3.a 43 (by decide)
    have b44 : M3 (30, 0, 44) = M (30, 0, 44) := f3.a 44 (by decide)
    have b45 : M3 (30, 0, 45) = M (30, 0, 45) := f3.a 45 (by decide)
    refine go_aload_n dX8_splitsOnce_59 rfl rfl ?_
    refine go_iload_n dX8_splitsOnce_60 rfl ?_
    refine v8_454 dX8_splitsOnce_61 rfl ⟨rfl, rfl⟩ ⟨rfl, rfl⟩ (ct_X8_takesRanges hQ4 wp2 (by omega)) (fun M5 N5 hq5 => ?_)
    obtain ⟨u1, u2, rfl⟩ := hq5
    have ul : ∀ i, 0 ≤ i → i < S 12 0 → M5 (30, 0, 38) (S 10 i) = c.1 (spW c * 3 + i) ∧ M5 (30, 0, 39) (S 10 i) = c.2.1 (spW c * 3 + i) := fun i i0 i1 => by
      have a := u1 (S 10 i) (hin i i0 i1).1 (hin i i0 i1).2.1
      have g := y3 (15 * spW c + S 10 i) (by have := (hin i i0 i1).2.1; omega)
      have b := (hP.2 _ wp2 wp3).1 i i0 i1
      rw [b43, b44] at g
      exact ⟨a.1.trans (g.1.trans b.1), a.2.trans (g.2.trans b.2)⟩
    refine go_aload_n dX8_splitsOnce_64 rfl rfl ?_
    refine g8_74 dX8_splitsOnce_65 ?_
    refine go_iload_n dX8_splitsOnce_68 rfl ?_
    refine go_iload dX8_splitsOnce_69 rfl ?_
    refine go_iast dX8_splitsOnce_71 rfl (by omega) (by omega) ?_
    refine go_nmM (fun M6 eM6 => ?_)
    have g6 : Kr [] [38, 39] M4 M6 := by rw [eM6]; exact u2.wa (by decide)
    have f6 : Kr [34, 37, 42, 47] [28, 29, 33, 35, 36, 38, 39, 40, 41, 43, 44, 45, 46] M M6 := f4.tr (g6.up (by decide) (by decide))
    have hQ6 := (hQ.k f6 (by decide) (by decide) (by decide) (by decide) (by decide) (by decide) (by decide) (by decide))
    have h39 : M6 (30, 0, 39) = M5 (30, 0, 39) := by rw [eM6, wr_nf (nm_ne3 (by decide))]
    have h38 : M6 (30, 0, 38) = upI (M5 (30, 0, 38)) (S 10 (spI S c)) (spM S c) := by rw [eM6, upI_wr]
    clear eM6
    have rB : rgI S (spB S c (kmS S (spA S c))).1 (spB S c (kmS S (spA S c))).2.1 ((c.2.2.2.1 + 1) * 3) := rall (c.2.2.2.1 + 1) (by omega) (by omega)
    have roB := rB.o hW
    have hlB := rg_hl hW (A := M6 (30, 0, 38)) (B := M6 (30, 0, 39)) (lo := (spB S c (kmS S (spA S c))).1) (hi := (spB S c (kmS S (spA S c))).2.1) (b := (c.2.2.2.1 + 1) * 3) (fun i i0 i1 => by
      have a := ul i i0 i1
      have r := spS_row n3 wp2 wp3 k0 (p := c.2.2.2.1 + 1) (by omega) (by omega) i0 i1
      rw [if_pos rfl, if_pos rfl] at r
      have r1 : (spB S c (kmS S (spA S c))).1 ((c.2.2.2.1 + 1) * 3 + i) = _ := r.1
      have r2 : (spB S c (kmS S (spA S c))).2.1 ((c.2.2.2.1 + 1) * 3 + i) = _ := r.2
      rw [r1, r2, h38, h39]
      refine ⟨?_, a.2⟩
      by_cases z : i = spI S c
      · rw [if_pos z, z, upI_eq]
      · rw [if_neg z, upI_out (fun q => z (in_inj hW i0 i1 k0 k1 q))]; exact a.1) roB
    obtain ⟨bB1, bB2, bB3⟩ := hBd _ _ _ rB
    have e47b : M6 (29, 0, 0) 47 = c.2.2.2.1 + 1 := by rw [g6.s 47 (by decide)]; exact y1
    refine go_aload_n dX8_splitsOnce_72 rfl rfl ?_
    refine go_iload_n dX8_splitsOnce_73 rfl ?_
    refine v8_448 dX8_splitsOnce_74 rfl ⟨rfl, rfl⟩ ⟨rfl, rfl⟩ (ct_X8_makes (X := kmP S (spB S c (kmS S (spA S c)))) (W := W) hQ6 hW rg_XS hlB hB bB3 a0 a1 (by omega) (by omega)) (fun M7 N7 hq7 => ?_)
    obtain ⟨x1, x2, x3, x4, x5, x6, rfl⟩ := hq7
    rw [e47b] at x1 x2 x3 x4 x5
    have d43 : M6 (30, 0, 43) = M4 (30, 0, 43) := g6.a 43 (by decide)
    have d44 : M6 (30, 0, 44) = M4 (30, 0, 44) := g6.a 44 (by decide)
    have d45 : M6 (30, 0, 45) = M4 (30, 0, 45) := g6.a 45 (by decide)
    have d46 : M6 (30, 0, 46) = M4 (30, 0, 46) := g6.a 46 (by decide)
    rw [d43, d44] at x3
    rw [d45, y4, b45] at x4
    rw [d46, y5, e46] at x5
    refine go_iconst dX8_splitsOnce_77 (R32_lit rfl) ?_
    refine go_retz dX8_splitsOnce_78 (by first | exact Or.inl rfl | exact Or.inr rfl | omega) ?_
    refine ⟨Or.inr ⟨ni, rfl, ⟨x1, fun p p0 p1 => ?_⟩, by rw [spS_3, upI_out (by omega), upI_eq]; exact bB2, rall⟩, f6.tr (x6.up (by decide) (by decide)), rfl⟩
    rw [spS_4] at p1
    refine ⟨fun i i0 i1 => ?_, ?_⟩
    · have hi := hin i i0 i1
      have r := spS_row n3 wp2 wp3 k0 p0 (by omega) i0 i1
      rw [r.1, r.2]
      by_cases z : p = c.2.2.2.1 + 1
      · rw [if_pos z, if_pos z, z]
        have a := x2 (S 10 i) hi.1 hi.2.1
        have g := ul i i0 i1
        rw [a.1, a.2, h38, h39]
        refine ⟨?_, g.2⟩
        by_cases z : i = spI S c
        · rw [if_pos z, z, upI_eq]
        · rw [if_neg z, upI_out (fun q => z (in_inj hW i0 i1 k0 k1 q))]; exact g.1
      · rw [if_neg z, if_neg z]
        have a := x3 (15 * p + S 10 i) (by omega)
        rw [a.1, a.2]
        by_cases y : p = c.2.2.2.1
        · rw [if_pos y, if_pos y, y]
          have a := y2 (S 10 i) hi.1 hi.2.1
          have g := tl i i0 i1
          rw [a.1, a.2, e38, e39]
          refine ⟨g.1, ?_⟩
          by_cases z : i = spI S c
          · rw [if_pos z, z, upI_eq]
          · rw [if_neg z, upI_out (fun q => z (in_inj hW i0 i1 k0 k1 q))]; exact g.2
        · rw [if_neg y, if_neg y]
          have a := y3 (15 * p + S 10 i) (by omega)
          rw [a.1, a.2, b43, b44]
          exact (hP.2 p p0 (by omega)).1 i i0 i1
    · rw [spS_3, x4, x5]
      by_cases z : p = spW c
      · rw [z, upI_out (by omega), upI_out (by omega), upI_eq, upI_eq]
        exact Or.inr ⟨rfl, rfl⟩
      · rw [upI_out (k := spW c) z]
        by_cases y : p = c.2.2.2.1 + 1
        · rw [y, upI_eq, upI_eq, upI_eq]
          exact Or.inl ⟨rfl, bB1, bB2⟩
        · rw [upI_out y, upI_out y, upI_out y]
          by_cases t : p = c.2.2.2.1
          · rw [t, upI_eq, upI_eq, upI_eq]
            exact Or.inl ⟨rfl, bA1, bA2⟩
          · rw [upI_out t, upI_out t, upI_out t, upI_out z]
            exact (hP.2 p p0 (by omega)).2
  · refine go_iconst dX8_splitsOnce_20 (R32_lit rfl) ?_
    refine go_retz dX8_splitsOnce_21 (by first | exact Or.inl rfl | exact Or.inr rfl | omega) ?_
    refine ⟨Or.inl ⟨?_, rfl, ?_⟩, t2.up (by decide) (by decide), rfl⟩
    · rcases wi with ⟨w1, w2⟩ | ⟨w1, w2, w3, w4, w5, w6⟩
      · exact congrArg Prod.fst w2
      · have := (hin _ w1 w2).1
        omega
    · unfold PcR
      rw [t2.s 47 (by decide), t2.a 43 (by decide), t2.a 44 (by decide), t2.a 45 (by decide), t2.a 46 (by decide)]
      exact hP
