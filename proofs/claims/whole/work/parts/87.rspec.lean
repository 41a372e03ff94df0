/-! the reader goes on: places grow -/
def Pq (R : Int → Int) : Prop := rdA R ∧ R 6 ≤ R 7 ∧ (R 5 ≠ 0 → R 6 < R 7)
theorem tkS_len {b : Int → Int} {n p : Int} : p ≤ (tkS b n p).2.1 ∧ ((tkS b n p).1 ≠ 0 → p < (tkS b n p).2.1) := by
  unfold tkS
  split
  · exact ⟨Int.le_refl p, fun q => absurd rfl q⟩
  · rename_i q1
    split
    · rename_i q2
      have e := ruS_in (b := b) (n := n) (lo := 97) (hi := 122) (ba := 27) (le := 1) (x := p) (m := 0) ⟨by omega, q2⟩
      have bd := ruS_bd b n 97 122 27 1 (n - (p + 1)).toNat (p + 1) (w32 (w32 (0 * 27) + (b p - 97 + 1)))
      have e1 := congrArg Prod.fst e
      exact ⟨by show p ≤ (ruS b n 97 122 27 1 (n - p).toNat p 0).1; omega, fun _ => by show p < (ruS b n 97 122 27 1 (n - p).toNat p 0).1; omega⟩
    · split
      · rename_i q3
        have e := ruS_in (b := b) (n := n) (lo := 48) (hi := 57) (ba := 10) (le := 0) (x := p) (m := 0) ⟨by omega, q3⟩
        have bd := ruS_bd b n 48 57 10 0 (n - (p + 1)).toNat (p + 1) (w32 (w32 (0 * 10) + (b p - 48 + 0)))
        have e1 := congrArg Prod.fst e
        exact ⟨by show p ≤ (ruS b n 48 57 10 0 (n - p).toNat p 0).1; omega, fun _ => by show p < (ruS b n 48 57 10 0 (n - p).toNat p 0).1; omega⟩
      · exact ⟨by show p ≤ p + 1; omega, fun _ => by show p < p + 1; omega⟩
theorem Pq_ad {b R : Int → Int} (h : rdA R) (h6 : R 6 ≤ R 7) : Pq (adR b R) ∧ R 7 ≤ adR b R 6 := by
  have hB := adR_B (b := b) h
  have hp := bkS_bd b (R 3) (R 3 - R 7).toNat (R 7) (by omega)
  have hl := tkS_len (b := b) (n := R 3) (p := adP b R)
  exact ⟨⟨hB.1, hl.1, hl.2⟩, hp.1⟩
/-- behind s, where a next token is in sight -/
def Mo (s t : Rs) : Prop := Pq t.1 ∧ s.1 6 ≤ t.1 6 ∧ t.1 0 = s.1 0
theorem Mo.tr {s t u : Rs} (h : Mo s t) (g : Mo t u) : Mo s u := ⟨g.1, Int.le_trans h.2.1 g.2.1, g.2.2.trans h.2.2⟩
theorem Mo_ad {b : Int → Int} {s : Rs} {R : Int → Int} {S : Pg} (h : Pq s.1) (e3 : R 3 = s.1 3) (e7 : R 7 = s.1 7) (e6 : R 6 = s.1 6) (e0 : R 0 = s.1 0) : Mo s (adR b R, S) := by
  have hA : rdA R := by unfold rdA; rw [e3, e7]; exact h.1
  obtain ⟨h1, h2⟩ := Pq_ad (b := b) hA (by rw [e6, e7]; exact h.2.1)
  refine ⟨h1, ?_, e0⟩
  show s.1 6 ≤ adR b R 6
  have := h.2.1
  rw [e7] at h2
  omega
theorem Mo_W {b : Int → Int} {i : Nat} {s : Rs} (h : Pq s.1) (q : (pW b i s).1 ≠ 0) : Mo s (pW b i s).2 := by rw [pW_1 q]; exact Mo_ad h rfl rfl rfl rfl
theorem Mo_Sg {b : Int → Int} {c : Int} {s : Rs} (h : Pq s.1) (q : (pSg b c s).1 ≠ 0) : Mo s (pSg b c s).2 := by rw [(pSg_1 q).1]; exact Mo_ad h rfl rfl rfl rfl
theorem Pq_nmA {b R : Int → Int} (h : Pq R) : Pq (nmA b R) ∧ R 6 ≤ nmA b R 6 := by
  unfold nmA
  split
  · obtain ⟨h1, h2⟩ := Pq_ad (b := b) h.1 h.2.1
    have := h.2.1
    exact ⟨h1, by omega⟩
  · exact ⟨h, Int.le_refl _⟩
theorem Mo_Nm {b : Int → Int} {s : Rs} (h : Pq s.1) (q : (pNm b s).1 ≠ 0) : Mo s (pNm b s).2 := by
  rw [(pNm_1 q).1]
  obtain ⟨h1, h2⟩ := Pq_nmA (b := b) h
  have g := Mo_ad (b := b) (s := (nmA b s.1, s.2)) (R := nmB b s.1) (S := s.2) h1 rfl rfl rfl rfl
  refine ⟨g.1, Int.le_trans h2 g.2.1, g.2.2.trans ?_⟩
  show nmA b s.1 0 = s.1 0
  unfold nmA
  split <;> rfl
theorem Mo_Op {b : Int → Int} {k : Int} {s : Rs} (h : Pq s.1) (q : (pOp b k s).1 ≠ 0) : Mo s (pOp b k s).2 := by
  unfold pOp at q ⊢
  split at q
  · rename_i z
    rw [if_pos z]
    split at q
    · exact absurd rfl q
    · rename_i z2
      rw [if_neg z2]
      exact Mo_ad h rfl rfl rfl rfl
  · rename_i z
    rw [if_neg z]
    obtain ⟨q1, q2⟩ := bnd_ne q
    rw [q2]
    exact Mo_Nm h q1
theorem Mo_Nw {b : Int → Int} {s : Rs} (h : Pq s.1) (q : (pNw b s).1 ≠ 0) : Mo s (pNw b s).2 := by
  unfold pNw at q ⊢
  split at q
  · rename_i z
    rw [if_pos z]
    split at q
    · rename_i z2
      rw [if_pos z2]
      exact Mo_ad h rfl rfl rfl rfl
    · exact absurd rfl q
  · exact absurd rfl q
theorem Mo_Sm {b : Int → Int} {s : Rs} (h : Pq s.1) (q : (pSm b s).1 ≠ 0) : Mo s (pSm b s).2 := by
  unfold pSm at q ⊢
  obtain ⟨q1, q2⟩ := bnd_ne q
  rw [q2] at q ⊢
  have m1 := Mo_Op h q1
  split at q
  · rename_i z
    rw [if_pos z]
    have m2 := Mo_ad (b := b) (s := (pOp b 0 s).2) (R := upI (pOp b 0 s).2.1 12 (byC ((pOp b 0 s).2.1 5))) (S := (pOp b 0 s).2.2) m1.1 rfl rfl rfl rfl
    exact (m1.tr m2).tr (Mo_Op m2.1 q)
  · exact absurd rfl q
theorem Mo_Pk {b : Int → Int} {s : Rs} (h : Pq s.1) (q : (pPk b s).1 ≠ 0) : Mo s (pPk b s).2 := by
  unfold pPk at q ⊢
  have m0 := Mo_ad (b := b) (s := s) (R := upI s.1 12 3) (S := s.2) h rfl rfl rfl rfl
  obtain ⟨a1, a2⟩ := bnd_ne q
  rw [a2] at q ⊢
  have m1 := m0.tr (Mo_Op m0.1 a1)
  generalize (pOp b 0 (adR b (upI s.1 12 3), s.2)).2 = t1 at *
  obtain ⟨b1, b2⟩ := bnd_ne q
  rw [b2] at q ⊢
  have m2 := m1.tr (Mo_Sg m1.1 b1)
  generalize (pSg b 60 t1).2 = t2 at *
  obtain ⟨c1, c2⟩ := bnd_ne q
  rw [c2] at q ⊢
  have m3 := m2.tr (Mo_Op m2.1 c1)
  generalize (pOp b 1 t2).2 = t3 at *
  obtain ⟨d1, d2⟩ := bnd_ne q
  rw [d2] at q ⊢
  have m4 := m3.tr (Mo_W m3.1 d1)
  generalize (pW b 6 t3).2 = t4 at *
  obtain ⟨e1, e2⟩ := bnd_ne q
  rw [e2] at q ⊢
  have m5 := m4.tr (Mo_Op m4.1 e1)
  generalize (pOp b 2 t4).2 = t5 at *
  obtain ⟨f1, f2⟩ := bnd_ne q
  rw [f2] at q ⊢
  have m6 := m5.tr (Mo_W m5.1 f1)
  generalize (pW b 7 t5).2 = t6 at *
  exact m6.tr (Mo_Op m6.1 q)
theorem Mo_Gr {b : Int → Int} {np : Int} {s : Rs} (h : Pq s.1) (q : (pGr b np s).1 ≠ 0) : Mo s (pGr b np s).2 := by
  unfold pGr at q ⊢
  obtain ⟨q1, q2⟩ := bnd_ne q
  rw [q2] at q ⊢
  have m1 := Mo_W h q1
  generalize (pW b 4 s).2 = t at *
  unfold pGe at q ⊢
  split at q
  · rename_i z1
    rw [if_pos z1]
    split at q
    · exact absurd rfl q
    · rename_i z2
      rw [if_neg z2]
      split at q
      · exact absurd rfl q
      · rename_i z3
        rw [if_neg z3]
        exact m1.tr (Mo_ad m1.1 rfl rfl rfl rfl)
  · exact absurd rfl q
theorem Mo_In {b : Int → Int} {s : Rs} (h : Pq s.1) (q : (pIn b s).1 ≠ 0) : Mo s (pIn b s).2 := by
  unfold pIn at q ⊢
  obtain ⟨a1, a2⟩ := bnd_ne q
  rw [a2] at q ⊢
  have m1 := Mo_Nw h a1
  generalize (pNw b s).2 = t1 at *
  obtain ⟨b1, b2⟩ := bnd_ne q
  rw [b2] at q ⊢
  have m2 := m1.tr (Mo_W m1.1 b1)
  generalize (pW b 1 t1).2 = t2 at *
  obtain ⟨c1, c2⟩ := bnd_ne q
  rw [c2] at q ⊢
  have m3 := m2.tr (Mo_Nm m2.1 c1)
  generalize (pNm b t2).2 = t3 at *
  obtain ⟨d1, d2⟩ := bnd_ne q
  rw [d2] at q ⊢
  have m4 := m3.tr (Mo_W m3.1 d1)
  generalize (pW b 2 t3).2 = t4 at *
  obtain ⟨e1, e2⟩ := bnd_ne q
  rw [e2] at q ⊢
  have m5 := m4.tr (Mo_Nm m4.1 e1)
  generalize (pNm b t4).2 = t5 at *
  unfold pIe at q ⊢
  split at q
  · rename_i z; rw [if_pos z]; exact m5
  · exact absurd rfl q
theorem Mo_Lt {b : Int → Int} {np : Int} {s : Rs} (h : Pq s.1) (q : (pLt b np s).1 ≠ 0) : Mo s (pLt b np s).2 := by
  unfold pLt at q ⊢
  obtain ⟨a1, a2⟩ := bnd_ne q
  rw [a2] at q ⊢
  have m1 := Mo_Nw h a1
  generalize (pNw b s).2 = t1 at *
  obtain ⟨b1, b2⟩ := bnd_ne q
  rw [b2] at q ⊢
  have m2 := m1.tr (Mo_Sg m1.1 b1)
  generalize (pSg b 61 t1).2 = t2 at *
  obtain ⟨c1, c2⟩ := bnd_ne q
  rw [c2] at q ⊢
  have m3 : Mo t2 (if wdR b t2.1 5 = true then pPk b t2 else pSm b t2).2 := by
    split at c1
    · rename_i z; rw [if_pos z]; exact Mo_Pk m2.1 c1
    · rename_i z; rw [if_neg z]; exact Mo_Sm m2.1 c1
  have m4 := m2.tr m3
  exact m4.tr (Mo_Gr m4.1 q)
theorem Mo_Ln {b : Int → Int} {s : Rs} (h : Pq s.1) (q : (pLn b s).1 ≠ 0) : Mo s (pLn b s).2 := by
  unfold pLn at q ⊢
  have m0 := Mo_ad (b := b) (s := s) (R := s.1) (S := s.2) h rfl rfl rfl rfl
  split at q
  · rename_i z
    rw [if_pos z]
    split at q
    · exact absurd rfl q
    · rename_i z2; rw [if_neg z2]; exact m0.tr (Mo_In m0.1 q)
  · rename_i z
    rw [if_neg z]
    split at q
    · rename_i z2
      rw [if_pos z2]
      split at q
      · exact absurd rfl q
      · rename_i z3; rw [if_neg z3]; exact m0.tr (Mo_Lt m0.1 q)
    · exact absurd rfl q
/-! answers taken apart -/
theorem OT_w1 {b : Int → Int} {k r : Int} {i : Nat} {s : Rs} {M1 : Mm} (o : OT b k (pW b i s) r M1) (h : r ≠ 0) : ∃ t, pW b i s = (1, t) ∧ RR b k M1 t ∧ t.2 = s.2 ∧ t.1 11 = s.1 11 ∧ t.1 12 = s.1 12 := by
  have e := pW_1 (b := b) (i := i) (s := s) (by rw [← o.1]; exact h)
  have R := o.2.1 h
  rw [e] at R
  exact ⟨_, e, R, rfl, rfl, rfl⟩
theorem OT_sg1 {b : Int → Int} {k r c : Int} {s : Rs} {M1 : Mm} (o : OT b k (pSg b c s) r M1) (h : r ≠ 0) : ∃ t, pSg b c s = (1, t) ∧ RR b k M1 t ∧ t.2 = s.2 ∧ t.1 11 = s.1 11 ∧ t.1 12 = s.1 12 := by
  have e := (pSg_1 (b := b) (c := c) (s := s) (by rw [← o.1]; exact h)).1
  have R := o.2.1 h
  rw [e] at R
  exact ⟨_, e, R, rfl, rfl, rfl⟩
theorem OT_nw1 {b : Int → Int} {k r : Int} {s : Rs} {M1 : Mm} (hI : RI k s) (o : OT b k (pNw b s) r M1) (h : r ≠ 0) : ∃ t, pNw b s = (1, t) ∧ RR b k M1 t ∧ t.2 = s.2 := by
  have e := pNw_I hI (b := b) (by rw [← o.1]; exact h)
  exact ⟨(pNw b s).2, Prod.ext e.1 rfl, o.2.1 h, e.2.2⟩
theorem OT_op1 {b : Int → Int} {k r : Int} {s : Rs} {M1 : Mm} (hI : RI k s) (o : OT b (k + 1) (pOp b k s) r M1) (h : r ≠ 0) : ∃ t, pOp b k s = (1, t) ∧ RR b (k + 1) M1 t ∧ KS s t := by
  have e := pOp_I hI (b := b) (by rw [← o.1]; exact h)
  exact ⟨(pOp b k s).2, Prod.ext e.1 rfl, o.2.1 h, e.2.2⟩
theorem sn_0 {b : Int → Int} {k r : Int} {t : Rs} {M1 : Mm} (z : (nmA b t.1 5 ≠ 3 ∧ r = 0 ∧ M1 (29, 0, 0) 20 = 1 ∧ M1 (29, 0, 0) 21 = nmA b t.1 6) ∨ (nmA b t.1 5 = 3 ∧ ¬ (-1000 ≤ nmV b t.1 ∧ nmV b t.1 ≤ 1000) ∧ r = 0 ∧ M1 (29, 0, 0) 20 = 2 ∧ M1 (29, 0, 0) 21 = nmA b t.1 6) ∨ (nmA b t.1 5 = 3 ∧ (-1000 ≤ nmV b t.1 ∧ nmV b t.1 ≤ 1000) ∧ r = 1 ∧ M1 (29, 0, 0) 26 = nmV b t.1 ∧ RR b k M1 (nmA b t.1, t.2))) (h : r = 0) : OT b k (pNm b t) 0 M1 := by
  rcases z with ⟨z1, -, z3, z4⟩ | ⟨z1, z6, -, z3, z4⟩ | z5
  · have e : pNm b t = (0, faR (nmA b t.1) 1 (nmA b t.1 6), t.2) := by unfold pNm; rw [if_neg z1]
    rw [e]
    exact ⟨rfl, fun q => absurd rfl q, fun _ => ⟨z3, z4⟩⟩
  · have e : pNm b t = (0, faR (nmB b t.1) 2 (nmA b t.1 6), t.2) := by unfold pNm; rw [if_pos z1, if_neg z6]
    rw [e]
    exact ⟨rfl, fun q => absurd rfl q, fun _ => ⟨z3, z4⟩⟩
  · exact absurd z5.2.2.1 (by omega)
theorem pNm_ok {b : Int → Int} {t : Rs} (q1 : nmA b t.1 5 = 3) (q2 : -1000 ≤ nmV b t.1 ∧ nmV b t.1 ≤ 1000) : pNm b t = (1, adR b (nmB b t.1), t.2) := by unfold pNm; rw [if_pos q1, if_pos q2]
theorem pIe_t {b : Int → Int} {a : Int} {u : Rs} (q1 : nmA b u.1 5 = 3) (a0 : -1000 ≤ a) (h1 : a ≤ nmV b u.1) (h2 : nmV b u.1 ≤ 1000) (h3 : (nmV b u.1 - a).tmod 2 = 0) : bnd (pNm b u) (pIe a) = (1, adR b (nmB b u.1), stS (tiS u.2 (u.1 11) a (nmV b u.1)) (u.2 11 0)) := by
  rw [pNm_ok q1 ⟨by omega, h2⟩, bnd_p1 (by decide)]
  unfold pIe
  rw [if_pos (show endO a ((adR b (nmB b u.1), u.2).1 9) from ⟨(show -1000 ≤ nmV b u.1 by omega), h2, h1, h3⟩)]
  show (1, adR b (nmB b u.1), stS (tiS u.2 (nmB b u.1 11) a (nmV b u.1)) (u.2 11 0)) = _
  rw [nmB_k (Or.inl rfl)]
theorem pIe_f {b : Int → Int} {a k : Int} {u : Rs} {M1 : Mm} (q1 : nmA b u.1 5 = 3) (h : ¬ (a ≤ nmV b u.1 ∧ nmV b u.1 ≤ 1000 ∧ (nmV b u.1 - a).tmod 2 = 0)) (a0 : -1000 ≤ a) (z3 : M1 (29, 0, 0) 20 = 2) (z4 : M1 (29, 0, 0) 21 = nmA b u.1 6) : OT b k (bnd (pNm b u) (pIe a)) 0 M1 := by
  by_cases q2 : -1000 ≤ nmV b u.1 ∧ nmV b u.1 ≤ 1000
  · rw [pNm_ok q1 q2, bnd_p1 (by decide)]
    unfold pIe
    rw [if_neg (show ¬ endO a ((adR b (nmB b u.1), u.2).1 9) from fun z => h ⟨z.2.2.1, z.2.1, z.2.2.2⟩)]
    exact ⟨rfl, fun q => absurd rfl q, fun _ => ⟨z3, z4⟩⟩
  · have e : pNm b u = (0, faR (nmB b u.1) 2 (nmA b u.1 6), u.2) := by unfold pNm; rw [if_pos q1, if_neg q2]
    rw [e, bnd_p0 rfl]
    exact ⟨rfl, fun q => absurd rfl q, fun _ => ⟨z3, z4⟩⟩
/-- a variable's rows in the reference -/
def PRv (base : Int) (S : Pg) (M : Mm) (v : Int) : Prop := M (30, 0, 7) (base + v) = S 0 v ∧ M (30, 0, 8) (base + v) = S 4 v ∧ (S 0 v = -2 → M (30, 0, 9) (base + v) = S 2 v ∧ M (30, 0, 10) (base + v) = S 3 v) ∧ (S 0 v ≠ -2 → ∀ k, 0 ≤ k → k < opn S v → M (30, 0, 11) (4 * (base + v) + k) = S 8 (4 * v + k) ∧ (S 8 (4 * v + k) < 0 → S 8 (4 * v + k) = -2 ∧ M (30, 0, 12) (4 * (base + v) + k) = S 9 (4 * v + k)))
theorem PR_told {c base : Int} {S S' : Pg} {M : Mm} (h : PR base c S M) (cg : Cg c S S') (hc : PRv base S' M c) (c0 : 0 ≤ c) : PR base (c + 1) S' M := by
  intro v v0 v1
  by_cases q : v = c
  · rw [q]; exact hc
  · obtain ⟨a0, a2, a3, a4, -, -, -⟩ := cg.1 v v0 (by omega)
    obtain ⟨p1, p2, p3, p4⟩ := h v v0 (by omega)
    rw [a0, a2, a3, a4, Cg_opn cg v0 (by omega)]
    refine ⟨p1, p2, p3, fun z k k0 k1 => ?_⟩
    have o4 := opn_le S v
    obtain ⟨b8, b9⟩ := cg.2 (4 * v + k) (by omega) (by omega)
    rw [b8, b9]
    exact p4 z k k0 k1
theorem RR_told {b : Int → Int} {k : Int} {M M3 : Mm} {R : Int → Int} {S S' : Pg} (h : RR b k M (R, S)) (f : Kr [22, 23] [] M M3) (e22 : M3 (29, 0, 0) 22 = S' 11 0) (e23 : M3 (29, 0, 0) 23 = S' 12 0) (e11 : S' 11 0 = S 11 0 + 1) (cg : Cg (S 11 0) S S') (e1 : ∀ v, v ≠ S 11 0 → S' 1 v = S 1 v) (hn : nmO b (M (30, 0, 24) (S 11 0)) (M (30, 0, 25) (S 11 0)) (S' 1 (S 11 0))) (hc : PRv 15 S' M (S 11 0)) (w : WF S') : RR b 0 M3 (R, S') := by
  obtain ⟨⟨c1, c2, c3, c4, c5, c6, c7⟩, h2, h3, h4, h5, h6, h7, h8⟩ := h
  refine ⟨⟨by rw [f.s 15 (by decide)]; exact c1, by rw [f.s 16 (by decide)]; exact c2, by rw [f.s 17 (by decide)]; exact c3, by rw [f.s 18 (by decide)]; exact c4, by rw [f.s 19 (by decide)]; exact c5, e22, e23⟩, h2, h3.k (f.a 4 (by decide)), ?_, ?_, fun j j0 j1 => absurd j1 (by omega), ⟨h7.1, w.dr, fun j j0 j1 => absurd j1 (by omega)⟩, w⟩
  · show nmR b S' M3
    intro v v0 v1
    rw [f.a 24 (by decide), f.a 25 (by decide)]
    by_cases q : v = S 11 0
    · rw [q]; exact hn
    · rw [e1 v q]; exact h4 v v0 (show v < S 11 0 by omega)
  · show PR 15 (S' 11 0) S' M3
    rw [e11]
    exact (PR_told h5 cg hc h8.1).k (f.a 7 (by decide)) (f.a 8 (by decide)) (f.a 9 (by decide)) (f.a 10 (by decide)) (f.a 11 (by decide)) (f.a 12 (by decide))
/-- what reading may touch -/
def FR (M M1 : Mm) : Prop := Kr [15, 16, 17, 18, 19, 20, 21, 22, 23, 26] [7, 8, 9, 10, 11, 12, 24, 25, 27] M M1 ∧ Lw M M1
theorem FR.rf {M : Mm} : FR M M := ⟨Kr.rf, Lw.rf⟩
theorem FR.tr {M M1 M2 : Mm} (h : FR M M1) (g : FR M1 M2) : FR M M2 := ⟨h.1.tr g.1, h.2.tr g.2⟩
theorem FR.of {K : List Int} {A : List Nat} {M M1 : Mm} (f : Kr K A M M1) (hk : ∀ j ∈ K, j ∈ [15, 16, 17, 18, 19, 20, 21, 22, 23, 26]) (ha : ∀ g ∈ A, g ∈ [24, 25, 27]) : FR M M1 :=
  ⟨f.up hk (fun g hg => by
    have := ha g hg
    simp only [List.mem_cons, List.not_mem_nil, or_false] at this ⊢
    omega), f.lw (fun z => absurd (ha _ z) (by decide)) (fun z => absurd (ha _ z) (by decide)) (fun z => absurd (ha _ z) (by decide)) (fun z => absurd (ha _ z) (by decide)) (fun z => absurd (ha _ z) (by decide)) (fun z => absurd (ha _ z) (by decide))⟩
theorem FR.of2 {K : List Int} {M M1 : Mm} (f : Kr K [11, 12] M M1) (hk : ∀ j ∈ K, j ∈ [15, 16, 17, 18, 19, 20, 21, 22, 23, 26]) (l : Lw M M1) : FR M M1 := ⟨f.up hk (by decide), l⟩
theorem FR.wa {M M1 : Mm} {f : Nat} {i x : Int} (h : FR M M1) (hf : (f = 7 ∨ f = 8 ∨ f = 9 ∨ f = 10) ∧ 15 ≤ i) : FR M (wr M1 (30, 0, f) i x) := ⟨h.1.wa (by rcases hf.1 with rfl | rfl | rfl | rfl <;> decide), h.2.wa (Or.inl hf)⟩
theorem FR.ws {M M1 : Mm} {i x : Int} (h : FR M M1) (hi : i ∈ [15, 16, 17, 18, 19, 20, 21, 22, 23, 26]) : FR M (wr M1 (29, 0, 0) i x) := ⟨h.1.ws hi, h.2.ws⟩
