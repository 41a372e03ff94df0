/-! the reader as functions of its record and the draft -/
abbrev Rs : Type := (Int → Int) × Pg
abbrev Rr : Type := Int × Rs
def bnd (x : Rr) (f : Rs → Rr) : Rr := if x.1 = 0 then x else f x.2
def wdb (b : Int → Int) (kd pl af : Int) (i : Nat) : Bool := decide (kd = 2) && (decide (af - pl = sln i) && (List.range (slC.getD i []).length).all (fun k => decide (b (pl + (k : Nat)) = sch i (k : Nat))))
theorem wdb_iff {b : Int → Int} {kd pl af : Int} {i : Nat} : wdb b kd pl af i = true ↔ Wd b kd pl af i := by
  unfold wdb Wd
  rw [Bool.and_eq_true, Bool.and_eq_true, decide_eq_true_eq, decide_eq_true_eq, List.all_eq_true]
  constructor
  · rintro ⟨h1, h2, h3⟩
    refine ⟨h1, h2, fun k k0 k1 => ?_⟩
    have h4 := h3 k.toNat (List.mem_range.mpr (by unfold sln at k1; omega))
    rw [decide_eq_true_eq, Int.toNat_of_nonneg k0] at h4
    exact h4
  · rintro ⟨h1, h2, h3⟩
    refine ⟨h1, h2, fun k hk => ?_⟩
    rw [decide_eq_true_eq]
    have := List.mem_range.mp hk
    exact h3 k (by omega) (by unfold sln; omega)
def pFl (s : Rs) (w x : Int) : Rr := (0, faR s.1 w x, s.2)
def wdR (b R : Int → Int) (i : Nat) : Bool := wdb b (R 5) (R 6) (R 7) i
def pW (b : Int → Int) (i : Nat) (s : Rs) : Rr := if wdR b s.1 i = true then (1, adR b s.1, s.2) else pFl s 1 (s.1 6)
def pSg (b : Int → Int) (c : Int) (s : Rs) : Rr := if s.1 5 = c then (1, adR b s.1, s.2) else pFl s 1 (s.1 6)
def pNm (b : Int → Int) (s : Rs) : Rr := if nmA b s.1 5 = 3 then (if -1000 ≤ nmV b s.1 ∧ nmV b s.1 ≤ 1000 then (1, adR b (nmB b s.1), s.2) else (0, faR (nmB b s.1) 2 (nmA b s.1 6), s.2)) else (0, faR (nmA b s.1) 1 (nmA b s.1 6), s.2)
def snb (b R : Int → Int) : Bool := decide (R 5 = 2) && (!(wdR b R 0) && (!(wdR b R 1) && (!(wdR b R 2) && (!(wdR b R 3) && (!(wdR b R 4) && (!(wdR b R 5) && (!(wdR b R 6) && !(wdR b R 7))))))))
def nmU (S : Pg) (x : Int) : Nat → Int → Int
  | 0, _ => -1
  | k + 1, v => if S 1 v = x then v else nmU S x k (v + 1)
def nmF (S : Pg) (x : Int) : Int := nmU S x (S 11 0).toNat 0
def pOp (b : Int → Int) (k : Int) (s : Rs) : Rr := if snb b s.1 = true then (if nmF s.2 (s.1 8) = -1 then pFl s 3 (s.1 6) else (1, adR b s.1, toS s.2 k (nmF s.2 (s.1 8)) 0)) else bnd (pNm b s) (fun t => (1, t.1, toS t.2 k (-2) (t.1 9)))
def pNw (b : Int → Int) (s : Rs) : Rr := if snb b s.1 = true then (if nmF s.2 (s.1 8) = -1 then (1, adR b (upI s.1 11 (s.1 8)), s.2) else pFl s 3 (s.1 6)) else pFl s 1 (s.1 6)
def byC (c : Int) : Int := if c = 43 then 0 else if c = 45 then 1 else 2
def pSm (b : Int → Int) (s : Rs) : Rr := bnd (pOp b 0 s) (fun t => if t.1 5 = 43 ∨ t.1 5 = 45 ∨ t.1 5 = 42 then pOp b 1 (adR b (upI t.1 12 (byC (t.1 5))), t.2) else pFl t 1 (t.1 6))
def pPk (b : Int → Int) (s : Rs) : Rr := bnd (pOp b 0 (adR b (upI s.1 12 3), s.2)) (fun t => bnd (pSg b 60 t) (fun t => bnd (pOp b 1 t) (fun t => bnd (pW b 6 t) (fun t => bnd (pOp b 2 t) (fun t => bnd (pW b 7 t) (fun t => pOp b 3 t))))))
def pGs (s : Rs) : Pg := tsS s.2 (s.1 11) (s.1 12) (s.1 8)
def pGe (b : Int → Int) (np : Int) (t : Rs) : Rr := if t.1 5 = 3 then (if 8 < t.1 8 then pFl t 2 (t.1 6) else if 1000000 < wtS (pGs t) (t.2 11 0) then (0, faR (adR b t.1) 5 np, stS (pGs t) (t.2 11 0)) else (1, adR b t.1, stS (pGs t) (t.2 11 0))) else pFl t 1 (t.1 6)
def pGr (b : Int → Int) (np : Int) (s : Rs) : Rr := bnd (pW b 4 s) (pGe b np)
abbrev endO (a x : Int) : Prop := -1000 ≤ x ∧ x ≤ 1000 ∧ a ≤ x ∧ (x - a).tmod 2 = 0
def pIe (a : Int) (w : Rs) : Rr := if endO a (w.1 9) then (1, w.1, stS (tiS w.2 (w.1 11) a (w.1 9)) (w.2 11 0)) else pFl w 2 (w.1 10)
def pIn (b : Int → Int) (s : Rs) : Rr := bnd (pNw b s) (fun t => bnd (pW b 1 t) (fun t => bnd (pNm b t) (fun t => bnd (pW b 2 t) (fun u => bnd (pNm b u) (pIe (t.1 9))))))
def pLt (b : Int → Int) (np : Int) (s : Rs) : Rr := bnd (pNw b s) (fun t => bnd (pSg b 61 t) (fun t => bnd (if wdR b t.1 5 = true then pPk b t else pSm b t) (pGr b np)))
def pLn (b : Int → Int) (s : Rs) : Rr := if wdR b s.1 0 = true then (if 3 ≤ s.2 12 0 then pFl s 4 (s.1 6) else pIn b (adR b s.1, s.2)) else if wdR b s.1 3 = true then (if 12 ≤ s.2 11 0 - s.2 12 0 then pFl s 4 (s.1 6) else pLt b (adR b s.1 6) (adR b s.1, s.2)) else pFl s 1 (s.1 6)
def pEn (t : Rs) : Rr := if 0 < t.2 11 0 - t.2 12 0 then (1, t) else pFl t 6 (t.1 6)
def pAl (b : Int → Int) : Nat → Rs → Rr
  | 0, s => pFl s 1 (s.1 6)
  | k + 1, s => bnd (pLn b s) (fun t => if t.1 5 = 0 then pEn t else bnd (pSg b 59 t) (pAl b k))
theorem bnd_0 {x : Rr} {f : Rs → Rr} (h : x.1 = 0) : bnd x f = x := if_pos h
theorem bnd_1 {x : Rr} {f : Rs → Rr} (h : x.1 ≠ 0) : bnd x f = f x.2 := if_neg h
theorem bnd_ne {x : Rr} {f : Rs → Rr} (h : (bnd x f).1 ≠ 0) : x.1 ≠ 0 ∧ bnd x f = f x.2 := by
  by_cases q : x.1 = 0
  · rw [bnd_0 q] at h; exact absurd q h
  · exact ⟨q, bnd_1 q⟩
/-- a first name -/
theorem nmU_spec {S : Pg} {x : Int} : ∀ (k : Nat) (v r : Int), v + k = S 11 0 → (v ≤ r ∧ r < S 11 0 ∧ S 1 r = x ∧ ∀ w, v ≤ w → w < r → S 1 w ≠ x) ∨ (r = -1 ∧ ∀ w, v ≤ w → w < S 11 0 → S 1 w ≠ x) → nmU S x k v = r
  | 0, v, r, hk, h => by
    rcases h with h | h
    · omega
    · rw [h.1]; rfl
  | k + 1, v, r, hk, h => by
    unfold nmU
    by_cases q : S 1 v = x
    · rw [if_pos q]
      rcases h with ⟨h1, h2, h3, h4⟩ | ⟨h1, h2⟩
      · by_cases e : v = r
        · exact e
        · exact absurd q (h4 v (Int.le_refl v) (by omega))
      · exact absurd q (h2 v (Int.le_refl v) (by omega))
    · rw [if_neg q]
      refine nmU_spec k (v + 1) r (by omega) ?_
      rcases h with ⟨h1, h2, h3, h4⟩ | ⟨h1, h2⟩
      · refine Or.inl ⟨?_, h2, h3, fun w w0 w1 => h4 w (by omega) w1⟩
        by_cases e : v = r
        · rw [e] at q; exact absurd h3 q
        · omega
      · exact Or.inr ⟨h1, fun w w0 w1 => h2 w (by omega) w1⟩
theorem nmU_bd {S : Pg} {x : Int} : ∀ (k : Nat) (v : Int), nmU S x k v = -1 ∨ (v ≤ nmU S x k v ∧ nmU S x k v < v + k)
  | 0, v => Or.inl rfl
  | k + 1, v => by
    unfold nmU
    split
    · exact Or.inr ⟨Int.le_refl v, by omega⟩
    · rcases nmU_bd k (v + 1) with h | h
      · exact Or.inl h
      · exact Or.inr ⟨by omega, by omega⟩
theorem nmF_bd {S : Pg} {x : Int} (h0 : 0 ≤ S 11 0) : nmF S x = -1 ∨ (0 ≤ nmF S x ∧ nmF S x < S 11 0) := by
  have h := nmU_bd (S := S) (x := x) (S 11 0).toNat 0
  unfold nmF
  omega
/-! what holds while it reads -/
def rdA (R : Int → Int) : Prop := R 3 ≤ 500 ∧ 0 ≤ R 7 ∧ R 7 ≤ 500
def rdB (R : Int → Int) : Prop := rdA R ∧ 0 ≤ R 6 ∧ R 6 ≤ 500 ∧ (R 5 = 3 → 0 ≤ R 8 ∧ R 8 ≤ 9999)
def DrO (S : Pg) : Prop := 0 ≤ S 11 0 ∧ S 11 0 ≤ 15 ∧ 0 ≤ S 12 0 ∧ S 12 0 ≤ 3 ∧ S 11 0 - S 12 0 ≤ 12 ∧ 0 ≤ S 11 0 - S 12 0 ∧ ∀ v, 0 ≤ v → v < S 11 0 → 0 ≤ S 5 v ∧ S 5 v ≤ 8 ∧ 0 ≤ S 6 v ∧ S 6 v ≤ 1000000
def OpK (S : Pg) (k : Int) : Prop := ∀ j, 0 ≤ j → j < k → OK1 S (S 11 0) (4 * S 11 0 + j)
def RI (k : Int) (s : Rs) : Prop := rdB s.1 ∧ DrO s.2 ∧ OpK s.2 k
def KS (s t : Rs) : Prop := t.2 11 0 = s.2 11 0 ∧ t.2 12 0 = s.2 12 0 ∧ t.1 12 = s.1 12 ∧ t.1 11 = s.1 11
theorem KS.tr {s t u : Rs} (h : KS s t) (h2 : KS t u) : KS s u := ⟨h2.1.trans h.1, h2.2.1.trans h.2.1, h2.2.2.1.trans h.2.2.1, h2.2.2.2.trans h.2.2.2⟩
theorem ruS_dec {b : Int → Int} {n p : Int} : ∀ (k : Nat) (x m y : Int), p ≤ x → (x - p ≤ 4 → 0 ≤ m ∧ m < y ∧ (x - p = 0 → y = 1) ∧ (x - p = 1 → y = 10) ∧ (x - p = 2 → y = 100) ∧ (x - p = 3 → y = 1000) ∧ (x - p = 4 → y = 10000)) → (ruS b n 48 57 10 0 k x m).1 - p ≤ 4 → 0 ≤ (ruS b n 48 57 10 0 k x m).2 ∧ (ruS b n 48 57 10 0 k x m).2 ≤ 9999
  | 0, x, m, y, hp, hm, hr => by
    have hr' : x - p ≤ 4 := hr
    have := hm hr'
    show 0 ≤ m ∧ m ≤ 9999
    omega
  | k + 1, x, m, y, hp, hm, hr => by
    unfold ruS at hr ⊢
    split at hr
    · rename_i q
      rw [if_pos q]
      have hb := ruS_bd b n 48 57 10 0 k (x + 1) (w32 (w32 (m * 10) + (b x - 48 + 0)))
      have h1 := hm (by omega)
      have e : w32 (w32 (m * 10) + (b x - 48 + 0)) = m * 10 + (b x - 48) := by
        rw [w32_id (x := m * 10) ⟨by omega, by omega⟩, w32_id ⟨by omega, by omega⟩]
        omega
      rw [e] at hr ⊢
      exact ruS_dec k (x + 1) (m * 10 + (b x - 48)) (y * 10) (by omega) (fun _ => by omega) hr
    · rename_i q
      rw [if_neg q]
      have := hm hr
      show 0 ≤ m ∧ m ≤ 9999
      omega
theorem tkS_whole {b : Int → Int} {n p : Int} (h : (tkS b n p).1 = 3) : 0 ≤ (tkS b n p).2.2 ∧ (tkS b n p).2.2 ≤ 9999 := by
  unfold tkS at h ⊢
  split at h
  · cases h
  · rename_i q1
    rw [if_neg q1]
    split at h
    · exfalso
      revert h
      show (if _ then (2 : Int) else 1) = 3 → False
      split <;> intro h <;> omega
    · rename_i q2
      rw [if_neg q2]
      split at h
      · rename_i q3
        rw [if_pos q3]
        have h' : (if (ruS b n 48 57 10 0 (n - p).toNat p 0).1 - p ≤ 4 then (3 : Int) else 1) = 3 := h
        by_cases q4 : (ruS b n 48 57 10 0 (n - p).toNat p 0).1 - p ≤ 4
        · exact ruS_dec (p := p) (n - p).toNat p 0 1 (Int.le_refl p) (fun _ => by omega) q4
        · rw [if_neg q4] at h'; omega
      · exfalso
        revert h
        show (if sgl (b p) then b p else 1) = 3 → False
        split
        · rename_i q5; intro h; unfold sgl at q5; omega
        · intro h; omega
theorem adP_bd {b R : Int → Int} (h : rdA R) : 0 ≤ adP b R ∧ adP b R ≤ 500 := by
  have hp := bkS_bd b (R 3) (R 3 - R 7).toNat (R 7) (by omega)
  unfold rdA at h
  unfold adP
  omega
theorem adR_B {b R : Int → Int} (h : rdA R) : rdB (adR b R) := by
  have hp := adP_bd (b := b) h
  refine ⟨⟨h.1, adR_7 h.1 h.2.1 h.2.2⟩, hp.1, hp.2, fun e => ?_⟩
  exact tkS_whole (b := b) (n := R 3) (p := adP b R) e
theorem rdA_up {R : Int → Int} {k x : Int} (h : rdA R) (h3 : k ≠ 3) (h7 : k ≠ 7) : rdA (upI R k x) := by
  unfold rdA upI
  rw [if_neg (fun e => h3 e.symm), if_neg (fun e => h7 e.symm)]
  exact h
theorem nmA_A {b R : Int → Int} (h : rdA R) : rdA (nmA b R) := by
  unfold nmA
  split
  · exact (adR_B h).1
  · exact h
theorem nmB_A {b R : Int → Int} (h : rdA R) : rdA (nmB b R) := rdA_up (rdA_up (nmA_A h) (by decide) (by decide)) (by decide) (by decide)
theorem nmB_k {b R : Int → Int} {k : Int} (h : k = 11 ∨ k = 12) : nmB b R k = R k := by
  rcases h with rfl | rfl
  · show nmA b R 11 = R 11
    unfold nmA; split <;> rfl
  · show nmA b R 12 = R 12
    unfold nmA; split <;> rfl
theorem RI_ad {b : Int → Int} {k : Int} {s : Rs} (h : RI k s) : RI k (adR b s.1, s.2) := ⟨adR_B h.1.1, h.2⟩
theorem pW_1 {b : Int → Int} {i : Nat} {s : Rs} (h : (pW b i s).1 ≠ 0) : pW b i s = (1, adR b s.1, s.2) := by
  unfold pW at h ⊢
  split at h
  · rename_i q; rw [if_pos q]
  · exact absurd rfl h
theorem pSg_1 {b : Int → Int} {c : Int} {s : Rs} (h : (pSg b c s).1 ≠ 0) : pSg b c s = (1, adR b s.1, s.2) ∧ s.1 5 = c := by
  unfold pSg at h ⊢
  split at h
  · rename_i q; rw [if_pos q]; exact ⟨rfl, q⟩
  · exact absurd rfl h
theorem pNm_1 {b : Int → Int} {s : Rs} (h : (pNm b s).1 ≠ 0) : pNm b s = (1, adR b (nmB b s.1), s.2) ∧ -1000 ≤ nmV b s.1 ∧ nmV b s.1 ≤ 1000 := by
  unfold pNm at h ⊢
  split at h
  · rename_i q
    rw [if_pos q]
    split at h
    · rename_i q2; rw [if_pos q2]; exact ⟨rfl, q2⟩
    · exact absurd rfl h
  · exact absurd rfl h
theorem adR_9 {b R : Int → Int} : adR b R 9 = R 9 := rfl
theorem nmB_9 {b R : Int → Int} : nmB b R 9 = nmV b R := rfl
theorem pNm_I {b : Int → Int} {k : Int} {s : Rs} (hI : RI k s) (h : (pNm b s).1 ≠ 0) : (pNm b s).1 = 1 ∧ RI k (pNm b s).2 ∧ KS s (pNm b s).2 ∧ (pNm b s).2.2 = s.2 ∧ -1000 ≤ (pNm b s).2.1 9 ∧ (pNm b s).2.1 9 ≤ 1000 := by
  obtain ⟨e, h1, h2⟩ := pNm_1 h
  rw [e]
  refine ⟨rfl, ⟨adR_B (nmB_A hI.1.1), hI.2⟩, ⟨rfl, rfl, nmB_k (Or.inr rfl), nmB_k (Or.inl rfl)⟩, rfl, ?_⟩
  show -1000 ≤ adR b (nmB b s.1) 9 ∧ adR b (nmB b s.1) 9 ≤ 1000
  rw [adR_9, nmB_9]
  exact ⟨h1, h2⟩
theorem toS_11 {S : Pg} {k w x : Int} : toS S k w x 11 = S 11 := rfl
theorem toS_12 {S : Pg} {k w x : Int} : toS S k w x 12 = S 12 := rfl
theorem toS_8 {S : Pg} {k w x i : Int} : toS S k w x 8 i = if i = 4 * S 11 0 + k then w else S 8 i := by
  unfold toS pst
  simp
theorem toS_9 {S : Pg} {k w x i : Int} : toS S k w x 9 i = if i = 4 * S 11 0 + k then x else S 9 i := by
  unfold toS pst
  simp
theorem toS_D {S : Pg} {k w x : Int} (h : DrO S) : DrO (toS S k w x) := h
theorem toS_K {S : Pg} {k w x : Int} (hD : DrO S) (h : OpK S k) (hw : (0 ≤ w → w < S 11 0) ∧ (w < 0 → -1000 ≤ x ∧ x ≤ 1000)) : OpK (toS S k w x) (k + 1) := by
  intro j j0 j1
  rw [toS_11]
  unfold OK1
  rw [toS_8, toS_9]
  by_cases q : j = k
  · subst q
    rw [if_pos rfl, if_pos rfl]
    refine ⟨fun q => ⟨hw.1 q, ?_⟩, hw.2⟩
    have := hD.2.2.2.2.2.2 w q (hw.1 q)
    exact this
  · rw [if_neg (by omega), if_neg (by omega)]
    exact h j j0 (by omega)
theorem pOp_I {b : Int → Int} {k : Int} {s : Rs} (hI : RI k s) (h : (pOp b k s).1 ≠ 0) : (pOp b k s).1 = 1 ∧ RI (k + 1) (pOp b k s).2 ∧ KS s (pOp b k s).2 := by
  unfold pOp at h ⊢
  split at h
  · rename_i q
    rw [if_pos q]
    split at h
    · exact absurd rfl h
    · rename_i q2
      rw [if_neg q2]
      have := nmF_bd (S := s.2) (x := s.1 8) hI.2.1.1
      exact ⟨rfl, ⟨adR_B hI.1.1, toS_D hI.2.1, toS_K hI.2.1 hI.2.2 ⟨fun _ => by omega, fun _ => by omega⟩⟩, rfl, rfl, rfl, rfl⟩
  · rename_i q
    rw [if_neg q]
    obtain ⟨h1, h2⟩ := bnd_ne h
    rw [h2]
    obtain ⟨g0, g1, g2, g3, g4, g5⟩ := pNm_I hI h1
    refine ⟨rfl, ⟨g1.1, toS_D g1.2.1, toS_K g1.2.1 g1.2.2 ⟨fun q => absurd q (by decide), fun _ => ⟨g4, g5⟩⟩⟩, g2⟩
theorem pOp_01 {b : Int → Int} {k : Int} {s : Rs} (hI : RI k s) : (pOp b k s).1 = 0 ∨ (pOp b k s).1 = 1 := by
  by_cases h : (pOp b k s).1 = 0
  · exact Or.inl h
  · exact Or.inr (pOp_I hI h).1
theorem pNw_I {b : Int → Int} {k : Int} {s : Rs} (hI : RI k s) (h : (pNw b s).1 ≠ 0) : (pNw b s).1 = 1 ∧ RI k (pNw b s).2 ∧ (pNw b s).2.2 = s.2 := by
  unfold pNw at h ⊢
  split at h
  · rename_i q
    rw [if_pos q]
    split at h
    · rename_i q2
      rw [if_pos q2]
      exact ⟨rfl, ⟨adR_B (rdA_up hI.1.1 (by decide) (by decide)), hI.2⟩, rfl⟩
    · exact absurd rfl h
  · exact absurd rfl h
theorem pSg_I {b : Int → Int} {c k : Int} {s : Rs} (hI : RI k s) (h : (pSg b c s).1 ≠ 0) : (pSg b c s).1 = 1 ∧ RI k (pSg b c s).2 ∧ KS s (pSg b c s).2 := by
  rw [(pSg_1 h).1]
  exact ⟨rfl, RI_ad hI, rfl, rfl, rfl, rfl⟩
theorem pW_I {b : Int → Int} {i : Nat} {k : Int} {s : Rs} (hI : RI k s) (h : (pW b i s).1 ≠ 0) : (pW b i s).1 = 1 ∧ RI k (pW b i s).2 ∧ KS s (pW b i s).2 := by
  rw [pW_1 h]
  exact ⟨rfl, RI_ad hI, rfl, rfl, rfl, rfl⟩
theorem byC_bd {c : Int} : 0 ≤ byC c ∧ byC c ≤ 2 := by
  unfold byC
  split
  · omega
  · split <;> omega
/-- behind a step's operands -/
def GI (s : Rs) : Prop := RI (if s.1 12 = 3 then 4 else 2) s ∧ 0 ≤ s.1 12 ∧ s.1 12 ≤ 3
theorem pSm_I {b : Int → Int} {s : Rs} (hI : RI 0 s) (h : (pSm b s).1 ≠ 0) : (pSm b s).1 = 1 ∧ GI (pSm b s).2 ∧ (pSm b s).2.2 11 0 = s.2 11 0 ∧ (pSm b s).2.2 12 0 = s.2 12 0 := by
  unfold pSm at h ⊢
  obtain ⟨h1, h2⟩ := bnd_ne h
  rw [h2] at h ⊢
  obtain ⟨g0, g1, g2⟩ := pOp_I hI h1
  split at h
  · rename_i q
    rw [if_pos q]
    have hI2 : RI 1 (adR b (upI (pOp b 0 s).2.1 12 (byC ((pOp b 0 s).2.1 5))), (pOp b 0 s).2.2) := ⟨adR_B (rdA_up g1.1.1 (by decide) (by decide)), g1.2⟩
    obtain ⟨k0, k1, k2⟩ := pOp_I hI2 h
    have e12 := k2.2.2.1
    have e12' : (pOp b 1 (adR b (upI (pOp b 0 s).2.1 12 (byC ((pOp b 0 s).2.1 5))), (pOp b 0 s).2.2)).2.1 12 = byC ((pOp b 0 s).2.1 5) := e12
    have hb := byC_bd (c := (pOp b 0 s).2.1 5)
    refine ⟨k0, ⟨?_, by omega, by omega⟩, k2.1.trans g2.1, k2.2.1.trans g2.2.1⟩
    rw [if_neg (by omega)]
    exact k1
  · exact absurd rfl h
theorem pPk_I {b : Int → Int} {s : Rs} (hI : RI 0 s) (h : (pPk b s).1 ≠ 0) : (pPk b s).1 = 1 ∧ GI (pPk b s).2 ∧ (pPk b s).2.2 11 0 = s.2 11 0 ∧ (pPk b s).2.2 12 0 = s.2 12 0 := by
  unfold pPk at h ⊢
  have hI0 : RI 0 (adR b (upI s.1 12 3), s.2) := ⟨adR_B (rdA_up hI.1.1 (by decide) (by decide)), hI.2⟩
  obtain ⟨a1, a2⟩ := bnd_ne h
  rw [a2] at h ⊢
  obtain ⟨-, i1, k1⟩ := pOp_I hI0 a1
  generalize (pOp b 0 (adR b (upI s.1 12 3), s.2)).2 = t1 at *
  have i1 : RI 1 t1 := i1
  obtain ⟨b1, b2⟩ := bnd_ne h
  rw [b2] at h ⊢
  obtain ⟨-, i2, k2⟩ := pSg_I i1 b1
  generalize (pSg b 60 t1).2 = t2 at *
  obtain ⟨c1, c2⟩ := bnd_ne h
  rw [c2] at h ⊢
  obtain ⟨-, i3, k3⟩ := pOp_I i2 c1
  generalize (pOp b 1 t2).2 = t3 at *
  have i3 : RI 2 t3 := i3
  obtain ⟨d1, d2⟩ := bnd_ne h
  rw [d2] at h ⊢
  obtain ⟨-, i4, k4⟩ := pW_I i3 d1
  generalize (pW b 6 t3).2 = t4 at *
  obtain ⟨e1, e2⟩ := bnd_ne h
  rw [e2] at h ⊢
  obtain ⟨-, i5, k5⟩ := pOp_I i4 e1
  generalize (pOp b 2 t4).2 = t5 at *
  have i5 : RI 3 t5 := i5
  obtain ⟨f1, f2⟩ := bnd_ne h
  rw [f2] at h ⊢
  obtain ⟨-, i6, k6⟩ := pW_I i5 f1
  generalize (pW b 7 t5).2 = t6 at *
  obtain ⟨g0, i7, k7⟩ := pOp_I i6 h
  have kk := ((((((k1.tr k2).tr k3).tr k4).tr k5).tr k6).tr k7)
  have e12 : (pOp b 3 t6).2.1 12 = 3 := kk.2.2.1
  refine ⟨g0, ⟨?_, by omega, by omega⟩, kk.1, kk.2.1⟩
  rw [if_pos e12]
  exact i7
theorem tsS_11 {S : Pg} {nm c g : Int} : tsS S nm c g 11 0 = S 11 0 + 1 := by unfold tsS psk; simp
theorem tsS_12 {S : Pg} {nm c g : Int} : tsS S nm c g 12 0 = S 12 0 := by unfold tsS psk pst; simp
theorem tsS_lo {S : Pg} {nm c g : Int} {f : Nat} (h0 : f ≠ 0) (h1 : f ≠ 1) (h2 : f ≠ 2) (h3 : f ≠ 3) (h4 : f ≠ 4) (h11 : f ≠ 11) : tsS S nm c g f = S f := by
  funext i
  unfold tsS psk pst
  simp only [if_neg h11, h4, h3, h2, h1, h0, false_and, if_false]
theorem tsS_0 {S : Pg} {nm c g : Int} : tsS S nm c g 0 (S 11 0) = c := by unfold tsS psk pst; simp
theorem tsS_4 {S : Pg} {nm c g : Int} : tsS S nm c g 4 (S 11 0) = g := by unfold tsS psk pst; simp
theorem pGs_sv {s : Rs} (h : GI s) (h15 : s.2 11 0 < 15) (h3 : s.1 5 = 3) (h8 : s.1 8 ≤ 8) : Sv (pGs s) (s.2 11 0) ∧ OKv (pGs s) (s.2 11 0) := by
  have h9 := h.1.1.2.2.2 h3
  have hOK : OKv (pGs s) (s.2 11 0) := by
    intro k k0 k1
    have hk : k < (if s.1 12 = 3 then 4 else 2) := by
      unfold opn pGs at k1
      rw [tsS_0] at k1
      exact k1
    have := h.1.2.2 k k0 hk
    unfold OK1 pGs at *
    rw [tsS_lo (f := 8) (by decide) (by decide) (by decide) (by decide) (by decide) (by decide), tsS_lo (f := 9) (by decide) (by decide) (by decide) (by decide) (by decide) (by decide), tsS_lo (f := 5) (by decide) (by decide) (by decide) (by decide) (by decide) (by decide), tsS_lo (f := 6) (by decide) (by decide) (by decide) (by decide) (by decide) (by decide)]
    exact this
  refine ⟨⟨h.1.2.1.1, ?_, ?_, ?_, ?_⟩, hOK⟩
  · unfold pGs; rw [tsS_11]; omega
  · unfold pGs; rw [tsS_11]; omega
  · unfold pGs; rw [tsS_0]; intro q; have := h.2.1; omega
  · intro _
    refine ⟨hOK, ?_, ?_⟩
    · unfold pGs; rw [tsS_4]; omega
    · unfold pGs; rw [tsS_4]; omega
theorem stS_5 {S : Pg} {v : Int} : stS S v 5 v = fiS S v := by unfold stS pst; simp
theorem stS_6 {S : Pg} {v : Int} : stS S v 6 v = wtS S v := by unfold stS pst; simp
theorem stS_7 {S : Pg} {v : Int} : stS S v 7 v = ndS S v := by unfold stS pst; simp
theorem stS_D {S S0 : Pg} {v : Int} (hD : DrO S0) (hv : v = S0 11 0) (h11 : S 11 0 = v + 1) (hi : S 12 0 = S0 12 0 ∨ S 12 0 = S0 12 0 + 1 ∧ S0 12 0 < 3) (hs : S 11 0 - S 12 0 ≤ 12) (hc : v < 15) (h5 : ∀ w, w ≠ v → S 5 w = S0 5 w) (h6 : ∀ w, w ≠ v → S 6 w = S0 6 w) (hf : 0 ≤ fiS S v ∧ fiS S v ≤ 8) (hw : 0 ≤ wtS S v ∧ wtS S v ≤ 1000000) : DrO (stS S v) := by
  have r11 : stS S v 11 = S 11 := stS_raw (by decide) (by decide) (by decide)
  have r12 : stS S v 12 = S 12 := stS_raw (by decide) (by decide) (by decide)
  obtain ⟨d1, d2, d3, d4, d5, d6, d7⟩ := hD
  unfold DrO
  rw [r11, r12]
  refine ⟨by omega, by omega, by omega, by omega, hs, by omega, fun w w0 w1 => ?_⟩
  by_cases q : w = v
  · rw [q, stS_5, stS_6]; exact ⟨hf.1, hf.2, hw.1, hw.2⟩
  · rw [stS_ne q, stS_ne q, h5 w q, h6 w q]
    exact d7 w w0 (by omega)
theorem pGe_I {b : Int → Int} {np : Int} {s : Rs} (hI : GI s) (h15 : s.2 11 0 < 15) (h12 : s.2 11 0 - s.2 12 0 < 12) (h : (pGe b np s).1 ≠ 0) : (pGe b np s).1 = 1 ∧ RI 0 (pGe b np s).2 := by
  unfold pGe at h ⊢
  split at h
  · rename_i q
    rw [if_pos q]
    split at h
    · exact absurd rfl h
    · rename_i q2
      rw [if_neg q2]
      split at h
      · exact absurd rfl h
      · rename_i q3
        rw [if_neg q3]
        obtain ⟨hv, hO⟩ := pGs_sv hI h15 q (by omega)
        have hg := hI.1.1.2.2.2 q
        have hne : pGs s 0 (s.2 11 0) ≠ -2 := by unfold pGs; rw [tsS_0]; have := hI.2.1; omega
        have f1 := rfS_bd hO
        have f2 := rwS_bd hO
        have e4 : pGs s 4 (s.2 11 0) = s.1 8 := by unfold pGs; rw [tsS_4]
        have p1 := p2_bd (k := s.1 8) (by omega) (by omega)
        refine ⟨rfl, adR_B hI.1.1.1, ?_, fun j j0 j1 => absurd j1 (by omega)⟩
        refine stS_D (S0 := s.2) hI.1.2.1 rfl (by unfold pGs; rw [tsS_11]) (Or.inl (by unfold pGs; rw [tsS_12])) (by unfold pGs; rw [tsS_11, tsS_12]; omega) h15 (fun w _ => by unfold pGs; rw [tsS_lo (by decide) (by decide) (by decide) (by decide) (by decide) (by decide)]) (fun w _ => by unfold pGs; rw [tsS_lo (by decide) (by decide) (by decide) (by decide) (by decide) (by decide)]) ?_ ?_
        · unfold fiS
          rw [if_neg hne, e4]
          omega
        · refine ⟨?_, by omega⟩
          unfold wtS
          rw [if_neg hne, e4]
          omega
  · exact absurd rfl h
theorem pGr_I {b : Int → Int} {np : Int} {s : Rs} (hI : GI s) (h15 : s.2 11 0 < 15) (h12 : s.2 11 0 - s.2 12 0 < 12) (h : (pGr b np s).1 ≠ 0) : (pGr b np s).1 = 1 ∧ RI 0 (pGr b np s).2 := by
  unfold pGr at h ⊢
  obtain ⟨h1, h2⟩ := bnd_ne h
  rw [h2] at h ⊢
  have e := pW_1 h1
  rw [e] at h ⊢
  exact pGe_I (s := (adR b s.1, s.2)) ⟨RI_ad hI.1, hI.2⟩ h15 h12 h
theorem tiS_11 {S : Pg} {nm a c : Int} : tiS S nm a c 11 0 = S 11 0 + 1 := by unfold tiS psk; simp
theorem tiS_12 {S : Pg} {nm a c : Int} : tiS S nm a c 12 0 = S 12 0 + 1 := by unfold tiS psk; simp
theorem tiS_0 {S : Pg} {nm a c : Int} : tiS S nm a c 0 (S 11 0) = -2 := by unfold tiS psk pst; simp
theorem tiS_2 {S : Pg} {nm a c : Int} : tiS S nm a c 2 (S 11 0) = a := by unfold tiS psk pst; simp
theorem tiS_3 {S : Pg} {nm a c : Int} : tiS S nm a c 3 (S 11 0) = c := by unfold tiS psk pst; simp
theorem tiS_lo {S : Pg} {nm a c : Int} {f : Nat} (h0 : f ≠ 0) (h1 : f ≠ 1) (h2 : f ≠ 2) (h3 : f ≠ 3) (h4 : f ≠ 4) (h10 : f ≠ 10) (h11 : f ≠ 11) (h12 : f ≠ 12) : tiS S nm a c f = S f := by
  funext i
  unfold tiS psk pst
  simp only [if_neg h11, if_neg h12, h10, h4, h3, h2, h1, h0, false_and, if_false]
theorem tiS_sv {S : Pg} {nm a c : Int} (hD : DrO S) (h15 : S 11 0 < 15) (ha : -1000 ≤ a ∧ a ≤ 1000) (hc : -1000 ≤ c ∧ c ≤ 1000) : Sv (tiS S nm a c) (S 11 0) := by
  refine ⟨hD.1, ?_, ?_, ?_, ?_⟩
  · rw [tiS_11]; omega
  · rw [tiS_11]; omega
  · intro _; rw [tiS_2, tiS_3]; exact ⟨ha.1, ha.2, hc.1, hc.2⟩
  · intro q; exact absurd tiS_0 q
theorem pIe_I {a : Int} {s : Rs} (hI : RI 0 s) (h15 : s.2 11 0 < 15) (h3 : s.2 12 0 < 3) (ha : -1000 ≤ a ∧ a ≤ 1000) (h : (pIe a s).1 ≠ 0) : (pIe a s).1 = 1 ∧ RI 0 (pIe a s).2 := by
  unfold pIe at h ⊢
  split at h
  · rename_i q
    rw [if_pos q]
    refine ⟨rfl, hI.1, ?_, fun j j0 j1 => absurd j1 (by omega)⟩
    have d := hI.2.1
    refine stS_D (S0 := s.2) hI.2.1 rfl tiS_11 (Or.inr ⟨tiS_12, h3⟩) (by rw [tiS_11, tiS_12]; have := d.2.2.2.2.1; omega) h15 (fun w _ => by rw [tiS_lo (by decide) (by decide) (by decide) (by decide) (by decide) (by decide) (by decide) (by decide)]) (fun w _ => by rw [tiS_lo (by decide) (by decide) (by decide) (by decide) (by decide) (by decide) (by decide) (by decide)]) ?_ ?_
    · unfold fiS; rw [if_pos tiS_0]; omega
    · unfold wtS; rw [if_pos tiS_0, tiS_2, tiS_3]; have := q.1; have := q.2.1; omega
  · exact absurd rfl h
theorem pIn_I {b : Int → Int} {s : Rs} (hI : RI 0 s) (h15 : s.2 11 0 < 15) (h3 : s.2 12 0 < 3) (h : (pIn b s).1 ≠ 0) : (pIn b s).1 = 1 ∧ RI 0 (pIn b s).2 := by
  unfold pIn at h ⊢
  obtain ⟨a1, a2⟩ := bnd_ne h
  rw [a2] at h ⊢
  obtain ⟨-, i1, k1⟩ := pNw_I hI a1
  generalize (pNw b s).2 = t1 at *
  obtain ⟨b1, b2⟩ := bnd_ne h
  rw [b2] at h ⊢
  obtain ⟨-, i2, k2⟩ := pW_I i1 b1
  generalize (pW b 1 t1).2 = t2 at *
  obtain ⟨c1, c2⟩ := bnd_ne h
  rw [c2] at h ⊢
  obtain ⟨-, i3, k3, e3, n1, n2⟩ := pNm_I i2 c1
  generalize (pNm b t2).2 = t3 at *
  obtain ⟨d1, d2⟩ := bnd_ne h
  rw [d2] at h ⊢
  obtain ⟨-, i4, k4⟩ := pW_I i3 d1
  generalize (pW b 2 t3).2 = t4 at *
  obtain ⟨e1, e2⟩ := bnd_ne h
  rw [e2] at h ⊢
  obtain ⟨-, i5, k5, -⟩ := pNm_I i4 e1
  generalize (pNm b t4).2 = t5 at *
  have q := (k2.tr k3).tr (k4.tr k5)
  exact pIe_I i5 (by rw [q.1, k1]; exact h15) (by rw [q.2.1, k1]; exact h3) ⟨n1, n2⟩ h
theorem pLt_I {b : Int → Int} {np : Int} {s : Rs} (hI : RI 0 s) (h15 : s.2 11 0 < 15) (h12 : s.2 11 0 - s.2 12 0 < 12) (h : (pLt b np s).1 ≠ 0) : (pLt b np s).1 = 1 ∧ RI 0 (pLt b np s).2 := by
  unfold pLt at h ⊢
  obtain ⟨a1, a2⟩ := bnd_ne h
  rw [a2] at h ⊢
  obtain ⟨-, i1, k1⟩ := pNw_I hI a1
  generalize (pNw b s).2 = t1 at *
  obtain ⟨b1, b2⟩ := bnd_ne h
  rw [b2] at h ⊢
  obtain ⟨-, i2, k2⟩ := pSg_I i1 b1
  generalize (pSg b 61 t1).2 = t2 at *
  obtain ⟨c1, c2⟩ := bnd_ne h
  rw [c2] at h ⊢
  have g : GI (if wdR b t2.1 5 = true then pPk b t2 else pSm b t2).2 ∧ (if wdR b t2.1 5 = true then pPk b t2 else pSm b t2).2.2 11 0 = t2.2 11 0 ∧ (if wdR b t2.1 5 = true then pPk b t2 else pSm b t2).2.2 12 0 = t2.2 12 0 := by
    split at c1
    · rename_i q; rw [if_pos q]; exact (pPk_I i2 c1).2
    · rename_i q; rw [if_neg q]; exact (pSm_I i2 c1).2
  exact pGr_I g.1 (by rw [g.2.1, k2.1, k1]; exact h15) (by rw [g.2.1, g.2.2, k2.1, k2.2.1, k1]; exact h12) h
theorem pLn_I {b : Int → Int} {s : Rs} (hI : RI 0 s) (h : (pLn b s).1 ≠ 0) : (pLn b s).1 = 1 ∧ RI 0 (pLn b s).2 := by
  have d := hI.2.1
  unfold DrO at d
  unfold pLn at h ⊢
  split at h
  · rename_i q
    rw [if_pos q]
    split at h
    · exact absurd rfl h
    · rename_i q2
      rw [if_neg q2]
      exact pIn_I (RI_ad hI) (show s.2 11 0 < 15 by omega) (show s.2 12 0 < 3 by omega) h
  · rename_i q
    rw [if_neg q]
    split at h
    · rename_i q2
      rw [if_pos q2]
      split at h
      · exact absurd rfl h
      · rename_i q3
        rw [if_neg q3]
        exact pLt_I (RI_ad hI) (show s.2 11 0 < 15 by omega) (show s.2 11 0 - s.2 12 0 < 12 by omega) h
    · exact absurd rfl h
