theorem tkS_bd {b : Int → Int} {n p : Int} (h0 : 0 ≤ p) (h1 : p ≤ 500) (hn : n ≤ 500) : 0 ≤ (tkS b n p).2.1 ∧ (tkS b n p).2.1 ≤ 500 := by
  have r1 := ruS_bd b n 97 122 27 1 (n - p).toNat p 0
  have r2 := ruS_bd b n 48 57 10 0 (n - p).toNat p 0
  unfold tkS
  split
  · exact ⟨h0, h1⟩
  · split
    · show 0 ≤ (ruS b n 97 122 27 1 (n - p).toNat p 0).1 ∧ (ruS b n 97 122 27 1 (n - p).toNat p 0).1 ≤ 500; omega
    · split
      · show 0 ≤ (ruS b n 48 57 10 0 (n - p).toNat p 0).1 ∧ (ruS b n 48 57 10 0 (n - p).toNat p 0).1 ≤ 500; omega
      · show 0 ≤ p + 1 ∧ p + 1 ≤ 500; omega
theorem adR_3 (b R : Int → Int) : adR b R 3 = R 3 := rfl
theorem adR_7 {b R : Int → Int} (h3 : R 3 ≤ 500) (h0 : 0 ≤ R 7) (h1 : R 7 ≤ 500) : 0 ≤ adR b R 7 ∧ adR b R 7 ≤ 500 := by
  have hp := bkS_bd b (R 3) (R 3 - R 7).toNat (R 7) (by omega)
  have e : adR b R 7 = (tkS b (R 3) (adP b R)).2.1 := rfl
  rw [e]
  exact tkS_bd (by unfold adP; omega) (by unfold adP; omega) h3
theorem RdO.ad {M M1 : Mm} {N : Nn} (h : RdO M N) (e : M1 (6, 0, 0) = adR (M (4, 0, 0)) (M (6, 0, 0))) : RdO M1 N := by
  refine ⟨h.1, ?_, ?_, ?_⟩
  · rw [e, adR_3]; exact h.2.1
  · rw [e]; exact (adR_7 h.2.1 h.2.2.1 h.2.2.2).1
  · rw [e]; exact (adR_7 h.2.1 h.2.2.1 h.2.2.2).2
