/-! drawing: the class by its row of inputs, the reference by the variables -/
theorem iX_i {S : Pg} (hW : WF S) {v : Int} (v0 : 0 ≤ v) (v1 : v < S 11 0) (q : S 0 v = -2) : iX S (v + 1) = iX S v + 1 ∧ S 10 (iX S v : Int) = v := by
  obtain ⟨i1, i2, i3⟩ := in_at hW v0 v1 q
  refine ⟨?_, ?_⟩
  · unfold iX
    rw [cnS_s v0, if_neg (fun z => z q)]; omega
  · unfold iX
    rw [Int.toNat_of_nonneg i1, i3]
theorem dq_dp {S : Pg} {pt qt : Int → Int} {s : Int} (hW : WF S) : ∀ v : Nat, (v : Int) ≤ S 11 0 → (dqS S pt s v).2 = (dpS S qt s (iX S v)).2 ∧ ∀ k : Int, 0 ≤ k → k < v → S 0 k = -2 → (dqS S pt s v).1 k = (dpS S qt s (iX S v)).1 k
  | 0, _ => ⟨rfl, fun k k0 k1 => absurd k1 (by omega)⟩
  | v + 1, hv => by
    obtain ⟨a, c⟩ := dq_dp (pt := pt) (qt := qt) (s := s) hW v (by omega)
    have e := dqS_s S pt s (v := v) (by omega)
    rw [show ((v : Int) + 1).toNat = v + 1 by omega, Int.toNat_natCast] at e
    rw [e, show ((v + 1 : Nat) : Int) = (v : Int) + 1 by omega]
    by_cases q : S 0 v = -2
    · obtain ⟨i1, i2⟩ := iX_i hW (v := v) (by omega) (by omega) q
      have d : dpS S qt s (iX S v + 1) = (upI (dpS S qt s (iX S v)).1 (S 10 (iX S v : Int)) (S 2 (S 10 (iX S v : Int)) + drw (sdN (dpS S qt s (iX S v)).2) (S 3 (S 10 (iX S v : Int)) - S 2 (S 10 (iX S v : Int)) + 1)), sdN (dpS S qt s (iX S v)).2) := rfl
      rw [i1, d, i2, if_pos q, a]
      refine ⟨rfl, fun k k0 k1 kq => ?_⟩
      show upI _ _ _ k = upI _ _ _ k
      by_cases z : k = v
      · rw [z, upI_eq, upI_eq]
      · rw [upI_ne z, upI_ne z]; exact c k k0 (by omega) kq
    · rw [iX_n (by omega) q, if_neg q]
      refine ⟨a, fun k k0 k1 kq => ?_⟩
      show upI _ _ _ k = _
      by_cases z : k = v
      · rw [z] at kq; exact absurd kq q
      · rw [upI_ne z]; exact c k k0 (by omega) kq
