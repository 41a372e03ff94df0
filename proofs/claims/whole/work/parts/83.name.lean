/-! names: letters as the digits of one number -/
def cdF (b : Int → Int) (p : Int) : Nat → Int
  | 0 => 0
  | k + 1 => cdF b p k * 27 + (b (p + (k : Nat)) - 96)
def ltr (b : Int → Int) (p l : Int) : Prop := ∀ i, 0 ≤ i → i < l → 97 ≤ b (p + i) ∧ b (p + i) ≤ 122
def nmO (b : Int → Int) (p l x : Int) : Prop := 0 ≤ p ∧ 1 ≤ l ∧ l ≤ 6 ∧ p + l ≤ 500 ∧ ltr b p l ∧ x = cdF b p l.toNat
theorem cdF_0 {b : Int → Int} {p : Int} : ∀ k : Nat, ltr b p k → 0 ≤ cdF b p k
  | 0, _ => Int.le_refl 0
  | k + 1, h => by
    have ih := cdF_0 (b := b) (p := p) k (fun i i0 i1 => h i i0 (by omega))
    have := h k (by omega) (by omega)
    show 0 ≤ cdF b p k * 27 + (b (p + (k : Nat)) - 96)
    omega
theorem cdF_inj {b : Int → Int} {p q : Int} : ∀ k l : Nat, ltr b p k → ltr b q l → cdF b p k = cdF b q l → k = l ∧ ∀ i : Int, 0 ≤ i → i < k → b (p + i) = b (q + i)
  | 0, 0, _, _, _ => ⟨rfl, fun i i0 i1 => absurd i1 (by omega)⟩
  | 0, l + 1, _, h, e => by
    have := cdF_0 l (fun i i0 i1 => h i i0 (by omega))
    have := h l (by omega) (by omega)
    have e : 0 = cdF b q l * 27 + (b (q + (l : Nat)) - 96) := e
    omega
  | k + 1, 0, h, _, e => by
    have := cdF_0 k (fun i i0 i1 => h i i0 (by omega))
    have := h k (by omega) (by omega)
    have e : cdF b p k * 27 + (b (p + (k : Nat)) - 96) = 0 := e
    omega
  | k + 1, l + 1, h, g, e => by
    have h1 := h k (by omega) (by omega)
    have g1 := g l (by omega) (by omega)
    have e : cdF b p k * 27 + (b (p + (k : Nat)) - 96) = cdF b q l * 27 + (b (q + (l : Nat)) - 96) := e
    have e1 : cdF b p k = cdF b q l := by omega
    obtain ⟨e2, e3⟩ := cdF_inj k l (fun i i0 i1 => h i i0 (by omega)) (fun i i0 i1 => g i i0 (by omega)) e1
    subst e2
    refine ⟨rfl, fun i i0 i1 => ?_⟩
    by_cases z : i = k
    · rw [z]; omega
    · exact e3 i i0 (by omega)
theorem cdF_cg {b : Int → Int} {p q : Int} : ∀ k : Nat, (∀ i : Int, 0 ≤ i → i < k → b (p + i) = b (q + i)) → cdF b p k = cdF b q k
  | 0, _ => rfl
  | k + 1, h => by
    show cdF b p k * 27 + (b (p + (k : Nat)) - 96) = cdF b q k * 27 + (b (q + (k : Nat)) - 96)
    rw [cdF_cg k (fun i i0 i1 => h i i0 (by omega)), h k (by omega) (by omega)]
theorem nmO_eq {b : Int → Int} {p l x q m y : Int} (h : nmO b p l x) (g : nmO b q m y) : x = y ↔ l = m ∧ ∀ i, 0 ≤ i → i < l → b (p + i) = b (q + i) := by
  obtain ⟨h1, h2, h3, h4, h5, h6⟩ := h
  obtain ⟨g1, g2, g3, g4, g5, g6⟩ := g
  constructor
  · intro e
    rw [h6, g6] at e
    obtain ⟨e1, e2⟩ := cdF_inj l.toNat m.toNat (fun i i0 i1 => h5 i i0 (by omega)) (fun i i0 i1 => g5 i i0 (by omega)) e
    exact ⟨by omega, fun i i0 i1 => e2 i i0 (by omega)⟩
  · rintro ⟨e1, e2⟩
    subst e1
    rw [h6, g6]
    exact cdF_cg l.toNat (fun i i0 i1 => e2 i i0 (by omega))
theorem ruS_ltr {b : Int → Int} {n p : Int} : ∀ (k : Nat) (x m y : Int), p ≤ x → ltr b p (x - p) → (x - p ≤ 6 → m = cdF b p (x - p).toNat ∧ 0 ≤ m ∧ m < y ∧ (x - p = 0 → y = 1) ∧ (x - p = 1 → y = 27) ∧ (x - p = 2 → y = 729) ∧ (x - p = 3 → y = 19683) ∧ (x - p = 4 → y = 531441) ∧ (x - p = 5 → y = 14348907) ∧ (x - p = 6 → y = 387420489)) → ltr b p ((ruS b n 97 122 27 1 k x m).1 - p) ∧ ((ruS b n 97 122 27 1 k x m).1 - p ≤ 6 → (ruS b n 97 122 27 1 k x m).2 = cdF b p ((ruS b n 97 122 27 1 k x m).1 - p).toNat)
  | 0, x, m, y, hp, hl, hm => ⟨hl, fun q => (hm q).1⟩
  | k + 1, x, m, y, hp, hl, hm => by
    unfold ruS
    split
    · rename_i q
      have hl2 : ltr b p (x + 1 - p) := by
        intro i i0 i1
        by_cases z : i = x - p
        · rw [z, show p + (x - p) = x by omega]; exact q.2
        · exact hl i i0 (by omega)
      refine ruS_ltr k (x + 1) _ (y * 27) (by omega) hl2 (fun z => ?_)
      obtain ⟨m1, m2, m3, m4⟩ := hm (by omega)
      have e : w32 (w32 (m * 27) + (b x - 97 + 1)) = m * 27 + (b x - 96) := by
        rw [w32_id (x := m * 27) ⟨by omega, by omega⟩, w32_id ⟨by omega, by omega⟩]
        omega
      rw [e]
      refine ⟨?_, by omega, by omega, by omega, by omega, by omega, by omega, by omega, by omega, by omega⟩
      rw [show (x + 1 - p).toNat = (x - p).toNat + 1 by omega]
      show _ = cdF b p (x - p).toNat * 27 + (b (p + ((x - p).toNat : Int)) - 96)
      rw [← m1, Int.toNat_of_nonneg (by omega), show p + (x - p) = x by omega]
    · exact ⟨hl, fun q => (hm q).1⟩
theorem tkS_word {b : Int → Int} {n p : Int} (p0 : 0 ≤ p) (n5 : n ≤ 500) (h : (tkS b n p).1 = 2) : nmO b p ((tkS b n p).2.1 - p) (tkS b n p).2.2 := by
  unfold tkS at h ⊢
  split at h
  · cases h
  · rename_i q1
    rw [if_neg q1]
    split at h
    · rename_i q2
      rw [if_pos q2]
      have h' : (if (ruS b n 97 122 27 1 (n - p).toNat p 0).1 - p ≤ 6 then (2 : Int) else 1) = 2 := h
      by_cases q4 : (ruS b n 97 122 27 1 (n - p).toNat p 0).1 - p ≤ 6
      · obtain ⟨r1, r2⟩ := ruS_ltr (b := b) (n := n) (p := p) (n - p).toNat p 0 1 (Int.le_refl p) (fun i i0 i1 => absurd i1 (by omega)) (fun _ => ⟨by rw [show (p - p).toNat = 0 by omega]; rfl, by omega, by omega, by omega, by omega, by omega, by omega, by omega, by omega, by omega⟩)
        have bd := ruS_bd b n 97 122 27 1 (n - (p + 1)).toNat (p + 1) (w32 (w32 (0 * 27) + (b p - 97 + 1)))
        have e := ruS_in (b := b) (n := n) (lo := 97) (hi := 122) (ba := 27) (le := 1) (x := p) (m := 0) ⟨by omega, q2⟩
        have e1 := congrArg Prod.fst e
        refine ⟨p0, ?_, q4, ?_, r1, r2 q4⟩
        · show 1 ≤ (ruS b n 97 122 27 1 (n - p).toNat p 0).1 - p
          omega
        · show p + ((ruS b n 97 122 27 1 (n - p).toNat p 0).1 - p) ≤ 500
          omega
      · rw [if_neg q4] at h'; omega
    · split at h
      · exfalso
        revert h
        show (if _ then (3 : Int) else 1) = 2 → False
        split <;> intro h <;> omega
      · exfalso
        revert h
        show (if sgl (b p) then b p else 1) = 2 → False
        split
        · rename_i q5; intro h; unfold sgl at q5; omega
        · intro h; omega
/-! the reference's reader beside the class's -/
def opR (S : Pg) (M : Mm) (k : Int) : Prop := ∀ j, 0 ≤ j → j < k → M (30, 0, 11) (4 * (15 + S 11 0) + j) = S 8 (4 * S 11 0 + j) ∧ (S 8 (4 * S 11 0 + j) < 0 → S 8 (4 * S 11 0 + j) = -2 ∧ M (30, 0, 12) (4 * (15 + S 11 0) + j) = S 9 (4 * S 11 0 + j))
def nmR (b : Int → Int) (S : Pg) (M : Mm) : Prop := ∀ v, 0 ≤ v → v < S 11 0 → nmO b (M (30, 0, 24) v) (M (30, 0, 25) v) (S 1 v)
def scR (M : Mm) (s : Rs) : Prop := M (29, 0, 0) 15 = s.1 3 ∧ M (29, 0, 0) 16 = s.1 6 ∧ M (29, 0, 0) 17 = s.1 7 ∧ M (29, 0, 0) 18 = s.1 5 ∧ (s.1 5 = 3 → M (29, 0, 0) 19 = s.1 8) ∧ M (29, 0, 0) 22 = s.2 11 0 ∧ M (29, 0, 0) 23 = s.2 12 0
def RR (b : Int → Int) (k : Int) (M : Mm) (s : Rs) : Prop := scR M s ∧ (s.1 5 = 2 → nmO b (s.1 6) (s.1 7 - s.1 6) (s.1 8)) ∧ tpR b M ∧ nmR b s.2 M ∧ PR 15 (s.2 11 0) s.2 M ∧ opR s.2 M k ∧ RI k s ∧ WF s.2
/-- the name at hand, for the variable that isn't told yet -/
def nwR (b : Int → Int) (M : Mm) (s : Rs) : Prop := nmO b (M (30, 0, 24) (s.2 11 0)) (M (30, 0, 25) (s.2 11 0)) (s.1 11)
theorem nmR.k {b : Int → Int} {S : Pg} {M M1 : Mm} (h : nmR b S M) (e4 : M1 (30, 0, 24) = M (30, 0, 24)) (e5 : M1 (30, 0, 25) = M (30, 0, 25)) : nmR b S M1 := by unfold nmR; rw [e4, e5]; exact h
theorem opR.k {S : Pg} {M M1 : Mm} {k : Int} (h : opR S M k) (e4 : M1 (30, 0, 11) = M (30, 0, 11)) (e5 : M1 (30, 0, 12) = M (30, 0, 12)) : opR S M1 k := by unfold opR; rw [e4, e5]; exact h
/-- arrays as they were -/
theorem RR.k {b : Int → Int} {k : Int} {M M1 : Mm} {s : Rs} {K : List Int} {A : List Nat} (h : RR b k M s) (f : Kr K A M M1) (h4 : 4 ∉ A) (h7 : 7 ∉ A) (h8 : 8 ∉ A) (h9 : 9 ∉ A) (h10 : 10 ∉ A) (h11 : 11 ∉ A) (h12 : 12 ∉ A) (h24 : 24 ∉ A) (h25 : 25 ∉ A) (sc : scR M1 s) : RR b k M1 s :=
  ⟨sc, h.2.1, h.2.2.1.k (f.a 4 h4), h.2.2.2.1.k (f.a 24 h24) (f.a 25 h25), h.2.2.2.2.1.k (f.a 7 h7) (f.a 8 h8) (f.a 9 h9) (f.a 10 h10) (f.a 11 h11) (f.a 12 h12), h.2.2.2.2.2.1.k (f.a 11 h11) (f.a 12 h12), h.2.2.2.2.2.2⟩
theorem scR.k {M M1 : Mm} {s : Rs} {K : List Int} {A : List Nat} (h : scR M s) (f : Kr K A M M1) (h15 : (15 : Int) ∉ K) (h16 : (16 : Int) ∉ K) (h17 : (17 : Int) ∉ K) (h18 : (18 : Int) ∉ K) (h19 : (19 : Int) ∉ K) (h22 : (22 : Int) ∉ K) (h23 : (23 : Int) ∉ K) : scR M1 s := by
  unfold scR
  rw [f.s 15 h15, f.s 16 h16, f.s 17 h17, f.s 18 h18, f.s 19 h19, f.s 22 h22, f.s 23 h23]
  exact h
/-- what goesOn does, beside adR -/
theorem RR.ad {b : Int → Int} {k : Int} {M M1 : Mm} {s : Rs} (h : RR b k M s) (f : Kr [16, 17, 18, 19] [] M M1)
    (g1 : M1 (29, 0, 0) 16 = bkS b (M (29, 0, 0) 15) (M (29, 0, 0) 15 - M (29, 0, 0) 17).toNat (M (29, 0, 0) 17))
    (g2 : M1 (29, 0, 0) 17 = (tkS b (M (29, 0, 0) 15) (bkS b (M (29, 0, 0) 15) (M (29, 0, 0) 15 - M (29, 0, 0) 17).toNat (M (29, 0, 0) 17))).2.1)
    (g3 : M1 (29, 0, 0) 18 = (tkS b (M (29, 0, 0) 15) (bkS b (M (29, 0, 0) 15) (M (29, 0, 0) 15 - M (29, 0, 0) 17).toNat (M (29, 0, 0) 17))).1)
    (g4 : (tkS b (M (29, 0, 0) 15) (bkS b (M (29, 0, 0) 15) (M (29, 0, 0) 15 - M (29, 0, 0) 17).toNat (M (29, 0, 0) 17))).1 = 3 → M1 (29, 0, 0) 19 = (tkS b (M (29, 0, 0) 15) (bkS b (M (29, 0, 0) 15) (M (29, 0, 0) 15 - M (29, 0, 0) 17).toNat (M (29, 0, 0) 17))).2.2) : RR b k M1 (adR b s.1, s.2) := by
  obtain ⟨⟨c1, c2, c3, c4, c5, c6, c7⟩, h2, h3, h4, h5, h6, h7, h8⟩ := h
  rw [c1, c3] at g1 g2 g3 g4
  have hp := adP_bd (b := b) h7.1.1
  refine ⟨⟨by rw [f.s 15 (by decide)]; exact c1, g1, g2, g3, g4, by rw [f.s 22 (by decide)]; exact c6, by rw [f.s 23 (by decide)]; exact c7⟩, fun q => ?_, h3.k (f.a 4 (by decide)), h4.k (f.a 24 (by decide)) (f.a 25 (by decide)), h5.k (f.a 7 (by decide)) (f.a 8 (by decide)) (f.a 9 (by decide)) (f.a 10 (by decide)) (f.a 11 (by decide)) (f.a 12 (by decide)), h6.k (f.a 11 (by decide)) (f.a 12 (by decide)), RI_ad h7, h8⟩
  exact tkS_word hp.1 h7.1.1.1 q
/-- fields of the reader that the reference doesn't know -/
theorem RR.cg {b : Int → Int} {k : Int} {M : Mm} {R R' : Int → Int} {S : Pg} (h : RR b k M (R, S)) (e3 : R' 3 = R 3) (e5 : R' 5 = R 5) (e6 : R' 6 = R 6) (e7 : R' 7 = R 7) (e8 : R' 8 = R 8) : RR b k M (R', S) := by
  obtain ⟨c, h2, h3, h4, h5, h6, h7, h8⟩ := h
  refine ⟨?_, ?_, h3, h4, h5, h6, ?_, h8⟩
  · unfold scR at c ⊢
    show M (29, 0, 0) 15 = R' 3 ∧ M (29, 0, 0) 16 = R' 6 ∧ M (29, 0, 0) 17 = R' 7 ∧ M (29, 0, 0) 18 = R' 5 ∧ (R' 5 = 3 → M (29, 0, 0) 19 = R' 8) ∧ M (29, 0, 0) 22 = S 11 0 ∧ M (29, 0, 0) 23 = S 12 0
    rw [e3, e5, e6, e7, e8]
    exact c
  · show R' 5 = 2 → nmO b (R' 6) (R' 7 - R' 6) (R' 8)
    rw [e5, e6, e7, e8]
    exact h2
  · refine ⟨?_, h7.2⟩
    have := h7.1
    unfold rdB rdA at this ⊢
    show (R' 3 ≤ 500 ∧ 0 ≤ R' 7 ∧ R' 7 ≤ 500) ∧ 0 ≤ R' 6 ∧ R' 6 ≤ 500 ∧ (R' 5 = 3 → 0 ≤ R' 8 ∧ R' 8 ≤ 9999)
    rw [e3, e5, e6, e7, e8]
    exact this
theorem wdb_u {b t : Int → Int} {kd pl af : Int} {i : Nat} (hi : i < 8) (p0 : 0 ≤ pl) (a5 : af ≤ 500) (ht : ∀ x, 0 ≤ x → x < 500 → t x = b x % 256 ∧ -128 ≤ b x ∧ b x < 128) : Wd t kd pl af i ↔ Wd b kd pl af i := by
  unfold Wd
  have q := sl_len i hi
  constructor
  · rintro ⟨h1, h2, h3⟩
    refine ⟨h1, h2, fun k k0 k1 => ?_⟩
    have a := ht (pl + k) (by omega) (by omega)
    have b1 := h3 k k0 k1
    have c := sl_rg hi k0 k1
    omega
  · rintro ⟨h1, h2, h3⟩
    refine ⟨h1, h2, fun k k0 k1 => ?_⟩
    have a := ht (pl + k) (by omega) (by omega)
    have b1 := h3 k k0 k1
    have c := sl_rg hi k0 k1
    omega
/-- an answer of the reader: 0 with a fault, 1 with the state behind it -/
def OT (b : Int → Int) (k : Int) (x : Rr) (r : Int) (M1 : Mm) : Prop := r = x.1 ∧ (r ≠ 0 → RR b k M1 x.2) ∧ (r = 0 → M1 (29, 0, 0) 20 = x.2.1 0 ∧ M1 (29, 0, 0) 21 = x.2.1 1)
theorem RR.nm {b : Int → Int} {k : Int} {M : Mm} {s : Rs} {w : Nat} {r : Int} (h : RR b k M s) (hw : w < 8) (e : (Wd (M (30, 0, 4)) (M (29, 0, 0) 18) (M (29, 0, 0) 16) (M (29, 0, 0) 17) w ∧ r = 1) ∨ (¬ Wd (M (30, 0, 4)) (M (29, 0, 0) 18) (M (29, 0, 0) 16) (M (29, 0, 0) 17) w ∧ r = 0)) : (wdR b s.1 w = true ∧ r = 1) ∨ (wdR b s.1 w = false ∧ r = 0) := by
  have c := h.1
  have i := h.2.2.2.2.2.2.1.1
  rw [c.2.2.2.1, c.2.1, c.2.2.1, wdb_u hw i.2.1 i.1.2.2 h.2.2.1] at e
  exact rd_if e
