/-! what ties the class to the reference between two calls -/
def IvT (M : Mm) : Prop := M (3, 0, 0) 8 = M (29, 0, 0) 5 ∧ 0 ≤ M (3, 0, 0) 8 ∧ M (3, 0, 0) 8 ≤ 500 ∧ tpR (M (4, 0, 0)) M ∧ M (3, 0, 0) 9 = M (29, 0, 0) 1 ∧ M (3, 0, 0) 10 = M (29, 0, 0) 2 ∧ (M (3, 0, 0) 9 = 4 → M (3, 0, 0) 11 = M (29, 0, 0) 3)
def IvN (p q : Nat) (N : Nn) : Prop := N (3, 0, 0) 6 = (18, p, 0) ∧ N (3, 0, 0) 7 = (18, q, 0) ∧ p ≠ q ∧ p ≠ 0 ∧ q ≠ 0
def IvS (p q : Nat) (M : Mm) (N : Nn) : Prop := IvN p q N ∧ WF (pgC M p) ∧ Fm M (pgC M p) ∧ hasF M ∧ QR (pgC M p) M ∧ Ai (pgC M p) (M (5, 0, 0)) (M (30, 0, 13)) ∧ IvT M
def Iv (M : Mm) (N : Nn) : Prop := ∃ p q, IvS p q M N
theorem pgC_cg {M M1 : Mm} {p : Nat} (h8 : M1 (18, p, 0) = M (18, p, 0)) (h9 : ∀ k : Nat, M1 (19, p, k) = M (19, p, k)) : pgC M1 p = pgC M p := by
  funext k i
  unfold pgC
  rw [h8, h9 k]
theorem Fm_fr {M M1 : Mm} {S : Pg} (h : Fm M S) (hf : ∀ a b : Nat, 7 ≤ a → a ≤ 16 → M1 (a, 0, b) = M (a, 0, b)) : Fm M1 S := by
  obtain ⟨φ, ma, h1, h2⟩ := h
  exact ⟨φ, ma, h1.fr hf, h2⟩
theorem Fm_ag {M : Mm} {S : Pg} {φ : Nat → FV} {ma : Int → Int} (hW : WF S) (h : Rk S (wB (-1)) (S 11 0) (sK S (wB (-1)) (S 11 0).toNat) φ ma) {v : Int} (v0 : 0 ≤ v) (v1 : v < S 11 0) : φ v.toNat = (sK S (wB (-1)) (S 11 0).toNat).1 v.toNat ∧ φ (15 + v.toNat) = (sK S (wB (-1)) (S 11 0).toNat).1 (15 + v.toNat) ∧ ma v = (sK S (wB (-1)) (S 11 0).toNat).2.2 v := by
  have h15 := hW.2.1
  have g := h v ⟨v0, v1, by
    by_cases y : S 0 v = -2
    · exact Or.inl y
    · exact Or.inr ⟨y, wB_all v0 (by omega), v1⟩⟩
  exact ⟨g.1.1, g.1.2, g.2⟩
theorem WF.wa {S : Pg} (hW : WF S) : ∀ v, 0 ≤ v → v < S 11 0 → wB (-1) v = true := fun v v0 v1 => wB_all v0 (by have := hW.2.1; omega)
theorem WF.ne {S : Pg} (hW : WF S) {W : Int → Bool} : ∀ v : Nat, (v : Int) < S 11 0 → NEq S (sK S W v).1 v := NE_all hW.rc (WF_WtO hW)
/-- the class has answered a question: its trouble is k, all else stands, the point apart -/
def Qg (p : Nat) (k : Int) (M M1 : Mm) : Prop := (∀ j, j ≠ 9 → M1 (3, 0, 0) j = M (3, 0, 0) j) ∧ M1 (3, 0, 0) 9 = k ∧ M1 (4, 0, 0) = M (4, 0, 0) ∧ (∀ n : Nm, 29 ≤ n.1 → M1 n = M n) ∧ pgC M1 p = pgC M p ∧ (∀ a b : Nat, 7 ≤ a → a ≤ 16 → M1 (a, 0, b) = M (a, 0, b)) ∧ (hasF M → hasF M1)
def Qk (p : Nat) (k : Int) (M M1 : Mm) : Prop := Qg p k M M1 ∧ M1 (5, 0, 0) = M (5, 0, 0)
theorem Qg_of {p : Nat} {k : Int} {M M1 : Mm} (h : ∀ n : Nm, (n.1 ≤ 16 ∧ n.2.1 = 0) ∨ n = (18, p, 0) ∨ (n.1 = 19 ∧ n.2.1 = p) ∨ 29 ≤ n.1 → n ≠ (5, 0, 0) → M1 n = tr M k n) (hF : hasF M → hasF M1) : Qg p k M M1 := by
  have g : ∀ n : Nm, n ≠ (3, 0, 0) → tr M k n = M n := fun n hn => wr_nf hn
  refine ⟨fun j hj => ?_, ?_, ?_, fun n hn => ?_, pgC_cg ?_ (fun x => ?_), fun a b a0 a1 => ?_, hF⟩
  · rw [h _ (Or.inl ⟨by decide, rfl⟩) (nm_ne1 (by decide))]; exact wr_nk hj
  · rw [h _ (Or.inl ⟨by decide, rfl⟩) (nm_ne1 (by decide))]; exact wr_eq _ _ _ _
  · rw [h _ (Or.inl ⟨by decide, rfl⟩) (nm_ne1 (by decide)), g _ (nm_ne1 (by decide))]
  · rw [h n (Or.inr (Or.inr (Or.inr hn))) (fun e => by rw [e] at hn; exact absurd hn (by decide)), g n (fun e => by rw [e] at hn; exact absurd hn (by decide))]
  · rw [h _ (Or.inr (Or.inl rfl)) (nm_ne1 (by decide)), g _ (nm_ne1 (by decide))]
  · rw [h _ (Or.inr (Or.inr (Or.inl ⟨rfl, rfl⟩))) (nm_ne1 (by decide)), g _ (nm_ne1 (by decide))]
  · rw [h (a, 0, b) (Or.inl ⟨a1, rfl⟩) (nm_ne1 (by omega)), g _ (nm_ne1 (by omega))]
theorem Qk_of {p : Nat} {k : Int} {M M1 : Mm} (h : ∀ n : Nm, (n.1 ≤ 16 ∧ n.2.1 = 0) ∨ n = (18, p, 0) ∨ (n.1 = 19 ∧ n.2.1 = p) ∨ 29 ≤ n.1 → M1 n = tr M k n) (hF : hasF M → hasF M1) : Qk p k M M1 :=
  ⟨Qg_of (fun n a _ => h n a) hF, (h _ (Or.inl ⟨by decide, rfl⟩)).trans (wr_nf (nm_ne1 (by decide)))⟩
theorem hasF_tr {M : Mm} {k : Int} (h : hasF M) : hasF (tr M k) := h.fr (fun a b a0 a1 => wr_nf (nm_ne1 (by omega)))
theorem Qk_tr {p : Nat} {k : Int} {M : Mm} : Qk p k M (tr M k) := Qk_of (fun _ _ => rfl) hasF_tr
theorem Qk_Sf {p : Nat} {k : Int} {M M1 : Mm} (h : Sf (tr M k) M1) : Qk p k M M1 := by
  refine Qk_of (fun n hn => h n ?_ ?_ ?_ ?_ ?_) (fun hF => (hasF_tr (k := k) hF).fr (fun a b a0 a1 => h _ (nm_ne1 (by omega)) (nm_ne1 (by omega)) (nm_ne1 (by omega)) (nm_ne1 (by omega)) (nm_ne1 (by omega))))
  all_goals
    rintro rfl
    rcases hn with hn | hn | hn | hn
    · exact absurd hn.1 (by decide)
    · cases hn
    · exact absurd hn.1 (by decide)
    · exact absurd hn (by decide)
theorem Qk_Vf {p : Nat} {k : Int} {M M1 : Mm} (h : Vf (tr M k) M1) : Qk p k M M1 := Qk_Sf (fun n a b c d e => h n c d e)
theorem Qk_Kf {p : Nat} {k : Int} {M M1 : Mm} (hp : p ≠ 0) (h : Kf (tr M k) M1) (hF : hasF M1) : Qk p k M M1 := by
  refine Qk_of (fun n hn => h n (fun z => ?_)) (fun _ => hF)
  obtain ⟨a, b, c⟩ := n
  unfold PcN at z
  simp only [Prod.mk.injEq] at z hn
  omega
theorem Qk_Qf {p q : Nat} {k : Int} {M M1 : Mm} (hpq : p ≠ q) (h : Qf q (tr M k) M1) (hF : hasF M1) : Qk p k M M1 := by
  refine Qk_of (fun n hn => h n ?_ ?_ ?_) (fun _ => hF)
  all_goals
    obtain ⟨a, b, c⟩ := n
    simp only [Prod.mk.injEq, ne_eq] at hn ⊢
    omega
theorem Qk_Pf {p q : Nat} {k : Int} {M M0 : Mm} (hpq : p ≠ q) (h : Pf q M M0) : Qk p k M (tr M0 k) := by
  have h' : ∀ n : Nm, n ≠ (18, q, 0) → ¬ (n.1 = 19 ∧ n.2.1 = q) → tr M0 k n = tr M k n := fun n a b => by
    funext j
    unfold tr
    by_cases z : n = (3, 0, 0) ∧ j = 9
    · obtain ⟨rfl, rfl⟩ := z
      rw [wr_eq, wr_eq]
    · rw [wr_ne z, wr_ne z, h n a b]
  refine Qk_of (fun n hn => h' n ?_ ?_) (fun hF => (hasF_tr (k := k) hF).fr (fun a b a0 a1 => h' _ (nm_ne1 (by omega)) (fun z => absurd z.1 (by show ¬ a = 19; omega))))
  all_goals
    obtain ⟨a, b, c⟩ := n
    simp only [Prod.mk.injEq, ne_eq] at hn ⊢
    omega
theorem QR_m {S : Pg} {M M1 : Mm} (h : QR S M) (g : ∀ n : Nm, 29 ≤ n.1 → M1 n = M n) : QR S M1 := by
  obtain ⟨a, b, c, d, e⟩ := h
  exact ⟨by rw [g _ (by decide)]; exact a, b, c, by rw [g _ (by decide)]; exact d, e.k (g _ (by decide)) (g _ (by decide)) (g _ (by decide)) (g _ (by decide)) (g _ (by decide)) (g _ (by decide))⟩
theorem Qk.m {p : Nat} {k : Int} {M M1 : Mm} (h : Qk p k M M1) : ∀ n : Nm, 29 ≤ n.1 → M1 n = M n := h.1.2.2.2.1
theorem Iv_g {p q : Nat} {k : Int} {M M1 M2 : Mm} {N N1 : Nn} (hI : IvS p q M N) (hQ : Qg p k M M1) (k4 : k ≠ 4) (hF : Kr [15, 16, 17, 18, 19, 20, 21, 22, 23, 26, 34, 37, 42, 47, 48, 50] [13, 24, 25, 27, 28, 29, 30, 31, 32, 33, 35, 36, 38, 39, 40, 41, 43, 44, 45, 46, 49, 51] (rfM M1 k) M2) (hA : Ai (pgC M p) (M1 (5, 0, 0)) (M2 (30, 0, 13))) (hN : N1 (3, 0, 0) = N (3, 0, 0)) : IvS p q M2 N1 := by
  obtain ⟨hP, hW, hFm, hF1, hQR, -, t1, t2, t3, t4, t5, t6, t7⟩ := hI
  obtain ⟨c1, c2, c3, c5, c6, c7, c8⟩ := hQ
  have o : ∀ n : Nm, n.1 < 29 → M2 n = M1 n := fun n hn => (hF.o n hn).trans (rfM_K.o n hn)
  have r : ∀ f : Nat, f ∉ [13, 24, 25, 27, 28, 29, 30, 31, 32, 33, 35, 36, 38, 39, 40, 41, 43, 44, 45, 46, 49, 51] → M2 (30, 0, f) = M (30, 0, f) := fun f hf => (hF.a f hf).trans ((rfM_K.a f List.not_mem_nil).trans (c5 _ (by show 29 ≤ 30; decide)))
  have s5 : M2 (29, 0, 0) 5 = M (29, 0, 0) 5 := (hF.s 5 (by decide)).trans ((rfM_K.s 5 (by decide)).trans (by rw [c5 _ (by decide)]))
  have s2 : M2 (29, 0, 0) 2 = M (29, 0, 0) 2 := (hF.s 2 (by decide)).trans ((rfM_K.s 2 (by decide)).trans (by rw [c5 _ (by decide)]))
  have s1 : M2 (29, 0, 0) 1 = k := (hF.s 1 (by decide)).trans (wr_eq _ _ _ _)
  have e : pgC M2 p = pgC M p := (pgC_cg (o _ (by show 18 < 29; decide)) (fun x => o _ (by show 19 < 29; decide))).trans c6
  have x3 : M2 (3, 0, 0) = M1 (3, 0, 0) := o _ (by decide)
  refine ⟨⟨by rw [hN]; exact hP.1, by rw [hN]; exact hP.2.1, hP.2.2⟩, by rw [e]; exact hW, ?_, ?_, ?_, ?_, ?_⟩
  · rw [e]
    exact Fm_fr hFm (fun a b a0 a1 => (o (a, 0, b) (by show a < 29; omega)).trans (c7 a b a0 a1))
  · exact (c8 hF1).fr (fun a b a0 a1 => o (a, 1, b) (by show a < 29; omega))
  · rw [e]
    exact (rfM_Q (QR_m hQR c5)).k hF (by decide) (by decide) (by decide) (by decide) (by decide) (by decide) (by decide) (by decide)
  · rw [e, o (5, 0, 0) (by decide)]
    exact hA
  · unfold IvT
    rw [x3, s5, s1, s2, c1 8 (by decide), c1 10 (by decide), c2, o (4, 0, 0) (by decide), c3]
    refine ⟨t1, t2, t3, ?_, rfl, t6, fun z => absurd z k4⟩
    unfold tpR
    rw [r 4 (by decide)]
    exact t4
theorem Iv_q {p q : Nat} {k : Int} {M M1 M2 : Mm} {N N1 : Nn} (hI : IvS p q M N) (hQ : Qk p k M M1) (k4 : k ≠ 4) (hF : F8 (rfM M1 k) M2) (hN : N1 (3, 0, 0) = N (3, 0, 0)) : IvS p q M2 N1 :=
  Iv_g hI hQ.1 k4 (Kr.up hF (fun _ h => h) (fun _ h => List.mem_cons_of_mem _ h)) (by
    have e : M2 (30, 0, 13) = M (30, 0, 13) := (Kr.a hF 13 (by decide)).trans ((rfM_K.a 13 List.not_mem_nil).trans (hQ.m _ (by decide)))
    rw [e, hQ.2]
    exact hI.2.2.2.2.2.1) hN
/-- a question that tells no trouble -/
theorem Iv_k {p q : Nat} {K : List Int} {A : List Nat} {M M2 : Mm} {N : Nn} (hI : IvS p q M N) (hF : Kr K A M M2) (hK : ∀ j ∈ ([1, 2, 3, 5, 6, 14] : List Int), j ∉ K) (hA : ∀ f ∈ ([4, 7, 8, 9, 10, 11, 12, 13] : List Nat), f ∉ A) : IvS p q M2 N := by
  obtain ⟨hP, hW, hFm, hF1, hQR, hAi, t1, t2, t3, t4, t5, t6, t7⟩ := hI
  have o : ∀ n : Nm, n.1 < 29 → M2 n = M n := fun n hn => hF.o n hn
  have e : pgC M2 p = pgC M p := pgC_cg (o _ (by show 18 < 29; decide)) (fun x => o _ (by show 19 < 29; decide))
  refine ⟨hP, by rw [e]; exact hW, ?_, ?_, ?_, ?_, ?_⟩
  · rw [e]
    exact Fm_fr hFm (fun a b a0 a1 => o (a, 0, b) (by show a < 29; omega))
  · exact hF1.fr (fun a b a0 a1 => o (a, 1, b) (by show a < 29; omega))
  · rw [e]
    exact hQR.k hF (hK 6 (by decide)) (hK 14 (by decide)) (hA 7 (by decide)) (hA 8 (by decide)) (hA 9 (by decide)) (hA 10 (by decide)) (hA 11 (by decide)) (hA 12 (by decide))
  · rw [e, o (5, 0, 0) (by decide), hF.a 13 (hA 13 (by decide))]
    exact hAi
  · unfold IvT
    rw [o (3, 0, 0) (by decide), hF.s 5 (hK 5 (by decide)), hF.s 1 (hK 1 (by decide)), hF.s 2 (hK 2 (by decide)), hF.s 3 (hK 3 (by decide)), o (4, 0, 0) (by decide)]
    refine ⟨t1, t2, t3, ?_, t5, t6, t7⟩
    unfold tpR
    rw [hF.a 4 (hA 4 (by decide))]
    exact t4
theorem F8_rf {M : Mm} : F8 M M := Kr.rf
