theorem iX_c {S : Pg} (hW : WF S) : iX S (S 11 0) = (S 12 0).toNat := by
  have := hW.2.2.2.2.1
  unfold iX
  rw [this]; omega
theorem dq_dpc {S : Pg} {pt qt : Int → Int} {s : Int} (hW : WF S) : (dqS S pt s (S 11 0).toNat).2 = (dpS S qt s (S 12 0).toNat).2 ∧ ∀ k : Int, 0 ≤ k → k < S 11 0 → S 0 k = -2 → (dqS S pt s (S 11 0).toNat).1 k = (dpS S qt s (S 12 0).toNat).1 k := by
  have c0 := hW.1
  have h := dq_dp (pt := pt) (qt := qt) (s := s) hW (S 11 0).toNat (by omega)
  rw [Int.toNat_of_nonneg c0, iX_c hW] at h
  exact h
theorem wyP_cg {S : Pg} {a : Int} {pt qt : Int → Int} (h : ∀ k : Int, 0 ≤ k → k < a + 1 → S 0 k = -2 → pt k = qt k) : wyP S pt a = wyP S qt a := by
  have := tb_cg (S := S) (a := pt) (b := qt) (a + 1).toNat (fun v v0 v1 q => h v v0 (by omega) q)
  unfold wyP
  rw [this.1, this.2]
theorem fp_eq {S : Pg} {a : Int} (hW : WF S) (a1 : a < S 11 0) : ∀ (n : Nat) (k : Int) (pt qt : Int → Int) (s : Int), fpS S a n k qt s = fpR S a n k pt s
  | 0, _, _, _, _ => rfl
  | n + 1, k, pt, qt, s => by
    obtain ⟨e, c⟩ := dq_dpc (pt := pt) (qt := qt) (s := s) hW
    have ih := fp_eq hW a1 n (k + 1) (dqS S pt s (S 11 0).toNat).1 (dpS S qt s (S 12 0).toNat).1 (dqS S pt s (S 11 0).toNat).2
    have w := wyP_cg (S := S) (a := a) (pt := (dqS S pt s (S 11 0).toNat).1) (qt := (dpS S qt s (S 12 0).toNat).1) (fun j j0 j1 q => c j j0 (by omega) q)
    show _ = (if wyP S (dqS S pt s (S 11 0).toNat).1 a = 1 ∨ wyP S (dqS S pt s (S 11 0).toNat).1 a = 2 then k else fpR S a n (k + 1) (dqS S pt s (S 11 0).toNat).1 (dqS S pt s (S 11 0).toNat).2)
    rw [w, ← ih, e]
    rfl
