/-! the tape, the text, new grids and ranges: class beside reference -/
theorem and_255 (x : Int32) : (x &&& 255).toInt = x.toInt % 256 := by
  have h1 : (x &&& 255).toBitVec.toNat = x.toBitVec.toNat % 256 := by
    rw [Int32.toBitVec_and, BitVec.toNat_and]
    exact Nat.and_two_pow_sub_one_eq_mod _ 8
  have h2 : (x &&& 255).toInt = (x &&& 255).toBitVec.toInt := rfl
  have h3 : x.toInt = x.toBitVec.toInt := rfl
  have h4 := x.toBitVec.isLt
  rw [h2, h3, BitVec.toInt_eq_toNat_cond, BitVec.toInt_eq_toNat_cond, h1]
  split <;> split <;> omega
theorem and_31 (x : Int32) : (x &&& 31).toInt = x.toInt % 32 := by
  have h1 : (x &&& 31).toBitVec.toNat = x.toBitVec.toNat % 32 := by
    rw [Int32.toBitVec_and, BitVec.toNat_and]
    exact Nat.and_two_pow_sub_one_eq_mod _ 5
  have h2 : (x &&& 31).toInt = (x &&& 31).toBitVec.toInt := rfl
  have h3 : x.toInt = x.toBitVec.toInt := rfl
  have h4 := x.toBitVec.isLt
  rw [h2, h3, BitVec.toInt_eq_toNat_cond, BitVec.toInt_eq_toNat_cond, h1]
  split <;> split <;> omega
theorem iand_255 {y : Int} (h : R32 y) : iand y 255 = y % 256 := by
  unfold iand
  rw [show Int32.ofInt 255 = 255 from rfl, and_255, i32 h]
theorem iand_31 {y : Int} (h : R32 y) : iand y 31 = y % 32 := by
  unfold iand
  rw [show Int32.ofInt 31 = 31 from rfl, and_31, i32 h]
def tpS (b t : Int → Int) : Prop := ∀ i, 0 ≤ i → i < 500 → t i = b i % 256 ∧ -128 ≤ b i ∧ b i < 128
theorem tpS_up {b t : Int → Int} {l y : Int} (h : tpS b t) (hy : R32 y) : tpS (upI b l (ib8 (ib8 y))) (upI t l (iand y 255)) := by
  intro i i0 i1
  unfold upI
  by_cases z : i = l
  · rw [if_pos z, if_pos z, iand_255 hy]
    unfold ib8
    omega
  · rw [if_neg z, if_neg z]
    exact h i i0 i1
theorem tpS_w {b t : Int → Int} {x l : Int} (h : tpS b t) : tpS (pb1 x b l) (lwW x t l) := by
  have e : lwW x t l = upI (upI (upI (upI t l (iand (ishr x 24) 255)) (l + 1) (iand (ishr x 16) 255)) (l + 1 + 1) (iand (ishr x 8) 255)) (l + 1 + 1 + 1) (iand (ishr x 0) 255) := by
    show upI (upI (upI (upI t (l + ((0 : Nat) : Int)) (iand (ishr x (24 - 8 * ((0 : Nat) : Int))) 255)) (l + ((1 : Nat) : Int)) (iand (ishr x (24 - 8 * ((1 : Nat) : Int))) 255)) (l + ((2 : Nat) : Int)) (iand (ishr x (24 - 8 * ((2 : Nat) : Int))) 255)) (l + ((3 : Nat) : Int)) (iand (ishr x (24 - 8 * ((3 : Nat) : Int))) 255) = _
    rw [show l + ((0 : Nat) : Int) = l by omega, show l + ((1 : Nat) : Int) = l + 1 by omega, show l + ((2 : Nat) : Int) = l + 1 + 1 by omega, show l + ((3 : Nat) : Int) = l + 1 + 1 + 1 by omega]
    rfl
  have r : ∀ s, R32 (ishr x s) := fun s => R32_of _
  rw [e]
  exact tpS_up (tpS_up (tpS_up (tpS_up h (r 24)) (r 16)) (r 8)) (r 0)
theorem Iv_t {p q : Nat} {M M1 M2 : Mm} {N : Nn} (hI : IvS p q M N) (hT : Tf M M1) (hF : Kr [0, 5] [4] M1 M2) (h8 : M1 (3, 0, 0) 8 = M2 (29, 0, 0) 5) (b0 : 0 ≤ M1 (3, 0, 0) 8) (b1 : M1 (3, 0, 0) 8 ≤ 500) (hp : tpS (M1 (4, 0, 0)) (M2 (30, 0, 4))) : IvS p q M2 N := by
  obtain ⟨hP, hW, hFm, hF1, hQR, hAi, t1, t2, t3, t4, t5, t6, t7⟩ := hI
  have o1 : ∀ n : Nm, n.1 < 29 → M2 n = M1 n := fun n hn => hF.o n hn
  have o2 : ∀ n : Nm, n ≠ (3, 0, 0) → n ≠ (4, 0, 0) → M1 n = M n := hT.1
  have e : pgC M2 p = pgC M p := pgC_cg ((o1 _ (by show 18 < 29; decide)).trans (o2 _ (nm_ne1 (by decide)) (nm_ne1 (by decide)))) (fun x => (o1 _ (by show 19 < 29; decide)).trans (o2 _ (nm_ne1 (by decide)) (nm_ne1 (by decide))))
  refine ⟨hP, by rw [e]; exact hW, ?_, ?_, ?_, ?_, ?_⟩
  · rw [e]
    exact Fm_fr hFm (fun a b a0 a1 => (o1 (a, 0, b) (by show a < 29; omega)).trans (o2 _ (nm_ne1 (by omega)) (nm_ne1 (by omega))))
  · exact hF1.fr (fun a b a0 a1 => (o1 (a, 1, b) (by show a < 29; omega)).trans (o2 _ (nm_ne1 (by omega)) (nm_ne1 (by omega))))
  · rw [e]
    have g : QR (pgC M p) M1 := QR_m hQR (fun n hn => o2 n (fun z => by rw [z] at hn; exact absurd hn (by decide)) (fun z => by rw [z] at hn; exact absurd hn (by decide)))
    exact g.k hF (by decide) (by decide) (by decide) (by decide) (by decide) (by decide) (by decide) (by decide)
  · rw [e, o1 (5, 0, 0) (by decide), o2 _ (nm_ne1 (by decide)) (nm_ne1 (by decide)), hF.a 13 (by decide), o2 (30, 0, 13) (nm_ne1 (by decide)) (nm_ne1 (by decide))]
    exact hAi
  · unfold IvT
    rw [o1 (3, 0, 0) (by decide), ← h8, hF.s 1 (by decide), hF.s 2 (by decide), hF.s 3 (by decide), o1 (4, 0, 0) (by decide), hT.2 9 (by decide), hT.2 10 (by decide), hT.2 11 (by decide), o2 (29, 0, 0) (nm_ne1 (by decide)) (nm_ne1 (by decide))]
    exact ⟨rfl, b0, b1, hp, t5, t6, t7⟩
/-- a new program is taken -/
theorem Iv_n {p q : Nat} {A : List Nat} {S : Pg} {M M1 M2 : Mm} {N N1 : Nn} (hI : IvS p q M N) (hW : WF S) (e : pgC M1 q = S) (hFm : Fm M1 S) (hf : ∀ a b : Nat, 7 ≤ a → a ≤ 16 → M1 (a, 1, b) = M (a, 1, b)) (h4 : M1 (4, 0, 0) = M (4, 0, 0)) (h3 : ∀ j, j ≠ 9 → M1 (3, 0, 0) j = M (3, 0, 0) j) (h9 : M1 (3, 0, 0) 9 = 0) (hm : ∀ n : Nm, 29 ≤ n.1 → M1 n = M n) (n6 : N1 (3, 0, 0) 6 = (18, q, 0)) (n7 : N1 (3, 0, 0) 7 = (18, p, 0)) (hK : Kr [] A (rfM M1 0) M2) (h4A : 4 ∉ A) (hQ : QR S M2) (hA : Ai S (M1 (5, 0, 0)) (M2 (30, 0, 13))) : IvS q p M2 N1 := by
  obtain ⟨hP, -, -, hF1, -, -, t1, t2, t3, t4, t5, t6, t7⟩ := hI
  have o : ∀ n : Nm, n.1 < 29 → M2 n = M1 n := fun n hn => (hK.o n hn).trans (rfM_K.o n hn)
  have e2 : pgC M2 q = S := (pgC_cg (o _ (by show 18 < 29; decide)) (fun x => o _ (by show 19 < 29; decide))).trans e
  refine ⟨⟨n6, n7, fun z => hP.2.2.1 z.symm, hP.2.2.2.2, hP.2.2.2.1⟩, by rw [e2]; exact hW, ?_, ?_, by rw [e2]; exact hQ, ?_, ?_⟩
  · rw [e2]
    exact Fm_fr hFm (fun a b a0 a1 => o (a, 0, b) (by show a < 29; omega))
  · exact hF1.fr (fun a b a0 a1 => (o (a, 1, b) (by show a < 29; omega)).trans (hf a b a0 a1))
  · rw [e2, o (5, 0, 0) (by decide)]
    exact hA
  · have s5 : M2 (29, 0, 0) 5 = M (29, 0, 0) 5 := (hK.s 5 List.not_mem_nil).trans ((rfM_K.s 5 (by decide)).trans (by rw [hm _ (by decide)]))
    have s2 : M2 (29, 0, 0) 2 = M (29, 0, 0) 2 := (hK.s 2 List.not_mem_nil).trans ((rfM_K.s 2 (by decide)).trans (by rw [hm _ (by decide)]))
    have s1 : M2 (29, 0, 0) 1 = 0 := (hK.s 1 List.not_mem_nil).trans (wr_eq _ _ _ _)
    have r4 : M2 (30, 0, 4) = M (30, 0, 4) := (hK.a 4 h4A).trans ((rfM_K.a 4 List.not_mem_nil).trans (hm _ (by decide)))
    unfold IvT
    rw [o (3, 0, 0) (by decide), s5, s1, s2, h3 8 (by decide), h3 10 (by decide), h9, o (4, 0, 0) (by decide), h4]
    refine ⟨t1, t2, t3, ?_, rfl, t6, fun z => absurd z (by decide)⟩
    unfold tpR
    rw [r4]
    exact t4
theorem stA_k {S : Pg} {f : Nat} (h5 : f ≠ 5) (h6 : f ≠ 6) (h7 : f ≠ 7) : ∀ k : Nat, stA S k f = S f
  | 0 => rfl
  | k + 1 => by
    show stS (stA S k) (k : Int) f = S f
    rw [stS_raw h5 h6 h7, stA_k h5 h6 h7 k]
theorem Ai_cg {S S' : Pg} {pt qt : Int → Int} (h : Ai S pt qt) (e0 : S' 0 = S 0) (e11 : S' 11 = S 11) : Ai S' pt qt := by
  unfold Ai
  rw [e0, e11]
  exact h
theorem cs_feed {E : Ev} {M : Mm} {N : Nn} {a b c d e : Int} (hI : Iv M N) : ∃ P7 : Int → Mm → Nn → Prop, Ct E yX7_feed cX7_feed 6 ((some .int)) (rmH 2) [vr (3, 0, 0), vi a, vi b, vi c, vi d, vi e] M N (qi P7) ∧ ∀ r1 M1 N1, P7 r1 M1 N1 → ∃ P8 : Int → Mm → Nn → Prop, Ct E yX8_feed cX8_feed 6 ((some .int)) (rmH 2) [vr (29, 0, 0), vi a, vi b, vi c, vi d, vi e] M1 N1 (qi P8) ∧ ∀ r2 M2 N2, P8 r2 M2 N2 → r1 = r2 ∧ Iv M2 N2 := by
  obtain ⟨p, q, hI⟩ := hI
  obtain ⟨-, -, -, -, -, -, t1, t2, t3, t4, t5, t6, t7⟩ := id hI
  refine ⟨_, ct_X7_feed t2 t3, fun r1 M1 N1 h1 => ?_⟩
  obtain ⟨h1, rfl⟩ := h1
  have hT : Tf M M1 := by
    rcases h1 with h1 | h1
    · exact h1.2.2.2.2
    · rw [← h1.2.2]; exact Tf.rf
  have m29 : M1 (29, 0, 0) = M (29, 0, 0) := hT.1 _ (nm_ne1 (by decide)) (nm_ne1 (by decide))
  have m4 : M1 (30, 0, 4) = M (30, 0, 4) := hT.1 _ (nm_ne1 (by decide)) (nm_ne1 (by decide))
  refine ⟨_, ct_X8_feed (by rw [m29, ← t1]; exact t2), fun r2 M2 N2 h2 => ?_⟩
  obtain ⟨h2, b0, bK, rfl⟩ := h2
  rw [m29, m4, ← t1] at h2
  rcases h1 with ⟨a1, a2, a3, a4, -⟩ | ⟨a1, a2, a3⟩
  · rcases h2 with ⟨b1, b2, b3, b4⟩ | ⟨b1, b2, b3, b4⟩
    · refine ⟨a2.trans b2.symm, p, q, Iv_t hI hT bK (a4.trans b4.symm) (by omega) (by omega) ?_⟩
      rw [a3, b3]
      exact tpS_w (tpS_w (tpS_w (tpS_w (tpS_w t4))))
    · exact absurd a1 (by omega)
  · rcases h2 with ⟨b1, b2, b3, b4⟩ | ⟨b1, b2, b3, b4⟩
    · exact absurd a1 (by omega)
    · subst a3
      refine ⟨a2.trans b2.symm, p, q, Iv_t hI hT bK b4.symm t2 t3 ?_⟩
      rw [b3]
      exact t4
theorem cs_grid {E : Ev} {M : Mm} {N : Nn} {v k : Int} (hI : Iv M N) : ∃ P7 : Int → Mm → Nn → Prop, Ct E yX7_grid cX7_grid 4 ((some .int)) (rmH 8) [vr (3, 0, 0), vi v, vi k] M N (qi P7) ∧ ∀ r1 M1 N1, P7 r1 M1 N1 → ∃ P8 : Int → Mm → Nn → Prop, Ct E yX8_grid cX8_grid 4 ((some .int)) (rmH 4) [vr (29, 0, 0), vi v, vi k] M1 N1 (qi P8) ∧ ∀ r2 M2 N2, P8 r2 M2 N2 → r1 = r2 ∧ Iv M2 N2 := by
  obtain ⟨p, q, hI⟩ := hI
  have hC := hI.1.1
  have hD := hI.1.2.1
  have hpq := hI.1.2.2.1
  have hW := hI.2.1
  have hQ := hI.2.2.2.2.1
  have hA := hI.2.2.2.2.2.1
  have hc := hW.2.1
  obtain ⟨φ, ma, fs, rk⟩ := hI.2.2.1
  refine ⟨_, ct_X7_grid hC hc hD hpq fs (fun k0 k1 => hW.gdW k0 k1) (fun k0 k1 ok => (hW.gd k0 k1 ok).rc), fun r1 M1 N1 h1 => ?_⟩
  rcases h1 with ⟨a1, ok, a2, a5, aq, aF, aC, a3, a9, aN⟩ | ⟨a1, ok, a2, ⟨M0, a3, a4⟩, rfl⟩ | ⟨a1, a2, a3, rfl⟩ | ⟨a1, a2, a3, rfl⟩
  · have hm : ∀ n : Nm, 29 ≤ n.1 → M1 n = M n := fun n hn => aC n (fun z => by rw [z] at hn; exact absurd hn (by decide)) (fun z => by rw [z] at hn; exact absurd hn (by decide)) (fun z => by rw [z] at hn; exact absurd hn (by show ¬ 29 ≤ 18; decide)) (fun z => by omega) (fun z => by omega)
    refine ⟨_, ct_X8_grid (QR_m hQ hm) hW, fun r2 M2 N2 h2 => ?_⟩
    obtain ⟨h2, rfl⟩ := h2
    rcases h2 with ⟨b1, bk, b2, bQ, b3⟩ | ⟨b1, bk, b2, b3⟩ | ⟨b1, b2, b3⟩ | ⟨b1, b2, b3⟩
    · refine ⟨a2.trans b2.symm, q, p, Iv_n hI (hW.gd a1.2.2.2.1 a1.2.2.2.2 ok) aq aF (fun a b a0 a1 => aC _ (nm_ne1 (by omega)) (nm_ne1 (by omega)) (nm_ne1 (by omega)) (fun z => absurd z.1 (by show ¬ a = 19; omega)) (fun z => absurd z.1 (by show ¬ 1 = 0; decide))) (aC _ (nm_ne1 (by decide)) (nm_ne1 (by decide)) (nm_ne1 (by decide)) (fun z => absurd z.1 (by decide)) (fun z => absurd z.2.1 (by decide))) a3 a9 hm aN.1 aN.2.1 b3 (by decide) bQ ?_⟩
      have e13 : M2 (30, 0, 13) = M (30, 0, 13) := (b3.a 13 (by decide)).trans ((rfM_K.a 13 List.not_mem_nil).trans (hm _ (by decide)))
      rw [a5, e13]
      exact Ai_cg hA ((stA_k (by decide) (by decide) (by decide) _).trans (pst_ne (by decide))) ((stA_k (by decide) (by decide) (by decide) _).trans (pst_ne (by decide)))
    · exact absurd ok bk
    · exact absurd a1 (by clear a2 a3 b2 b3 aq aF aC ok; omega)
    · exact absurd a1 (by clear a2 a3 b2 b3 aq aF aC ok; omega)
  · have k1 : Qk p 5 M M1 := by rw [a4]; exact Qk_Pf hpq a3
    refine ⟨_, ct_X8_grid (QR_m hQ k1.m) hW, fun r2 M2 N2 h2 => ?_⟩
    obtain ⟨h2, rfl⟩ := h2
    rcases h2 with ⟨b1, bk, b2, bQ, b3⟩ | ⟨b1, bk, b2, b3⟩ | ⟨b1, b2, b3⟩ | ⟨b1, b2, b3⟩
    · exact absurd bk ok
    · exact ⟨a2.trans b2.symm, p, q, Iv_q hI k1 (by decide) b3 rfl⟩
    · exact absurd a1 (by clear a2 a3 a4 b2 b3 ok k1; omega)
    · exact absurd a1 (by clear a2 a3 a4 b2 b3 ok k1; omega)
  · have k1 : Qk p 2 M M1 := by rw [a3]; exact Qk_tr
    refine ⟨_, ct_X8_grid (QR_m hQ k1.m) hW, fun r2 M2 N2 h2 => ?_⟩
    obtain ⟨h2, rfl⟩ := h2
    rcases h2 with ⟨b1, bk, b2, bQ, b3⟩ | ⟨b1, bk, b2, b3⟩ | ⟨b1, b2, b3⟩ | ⟨b1, b2, b3⟩
    · exact absurd a1 (by clear a2 a3 b2 b3 k1; omega)
    · exact absurd a1 (by clear a2 a3 b2 b3 k1; omega)
    · exact ⟨a2.trans b2.symm, p, q, Iv_q hI k1 (by decide) b3 rfl⟩
    · exact absurd a1 (by clear a2 a3 b2 b3 k1; omega)
  · have k1 : Qk p 1 M M1 := by rw [a3]; exact Qk_tr
    refine ⟨_, ct_X8_grid (QR_m hQ k1.m) hW, fun r2 M2 N2 h2 => ?_⟩
    obtain ⟨h2, rfl⟩ := h2
    rcases h2 with ⟨b1, bk, b2, bQ, b3⟩ | ⟨b1, bk, b2, b3⟩ | ⟨b1, b2, b3⟩ | ⟨b1, b2, b3⟩
    · exact absurd a1 (by clear a2 a3 b2 b3 k1; omega)
    · exact absurd a1 (by clear a2 a3 b2 b3 k1; omega)
    · exact absurd a1 (by clear a2 a3 b2 b3 k1; omega)
    · exact ⟨a2.trans b2.symm, p, q, Iv_q hI k1 (by decide) b3 rfl⟩
theorem cs_range {E : Ev} {M : Mm} {N : Nn} {v a b : Int} (hI : Iv M N) : ∃ P7 : Int → Mm → Nn → Prop, Ct E yX7_range cX7_range 4 ((some .boolean)) (rmH 8) [vr (3, 0, 0), vi v, vi a, vi b] M N (qi P7) ∧ ∀ r1 M1 N1, P7 r1 M1 N1 → ∃ P8 : Int → Mm → Nn → Prop, Ct E yX8_range cX8_range 7 ((some .boolean)) (rmH 4) [vr (29, 0, 0), vi v, vi a, vi b] M1 N1 (qi P8) ∧ ∀ r2 M2 N2, P8 r2 M2 N2 → r1 = r2 ∧ Iv M2 N2 := by
  obtain ⟨p, q, hI⟩ := hI
  have hC := hI.1.1
  have hD := hI.1.2.1
  have hpq := hI.1.2.2.1
  have hW := hI.2.1
  have hQ := hI.2.2.2.2.1
  have hA := hI.2.2.2.2.2.1
  have hc := hW.2.1
  obtain ⟨φ, ma, fs, rk⟩ := hI.2.2.1
  refine ⟨_, ct_X7_range hC hc hD hpq fs (fun z => hW.rgW z.2.2.2.1 z.2.2.2.2.2.2.2.1 z.2.2.2.2.2.2.1) (fun z ok => (hW.rg z.2.2.2.1 z.2.2.2.2.2.2.2.1 z.2.2.2.2.2.2.1 ok).rc), fun r1 M1 N1 h1 => ?_⟩
  rcases h1 with ⟨a1, ok, a2, a5, aq, aF, aC, a3, a9, aN⟩ | ⟨a1, ok, a2, ⟨M0, a3, a4⟩, rfl⟩ | ⟨a1, a2, a3, rfl⟩ | ⟨a1, a2, a3, rfl⟩
  · have hm : ∀ n : Nm, 29 ≤ n.1 → M1 n = M n := fun n hn => aC n (fun z => by rw [z] at hn; exact absurd hn (by decide)) (fun z => by rw [z] at hn; exact absurd hn (by decide)) (fun z => by rw [z] at hn; exact absurd hn (by show ¬ 29 ≤ 18; decide)) (fun z => by omega) (fun z => by omega)
    refine ⟨_, ct_X8_range (QR_m hQ hm) hW, fun r2 M2 N2 h2 => ?_⟩
    obtain ⟨h2, rfl⟩ := h2
    rcases h2 with ⟨b1, bk, b2, bQ, b5, b3⟩ | ⟨b1, bk, b2, b3⟩ | ⟨b1, b2, b3⟩ | ⟨b1, b2, b3⟩
    · refine ⟨a2.trans b2.symm, q, p, Iv_n hI (hW.rg a1.2.2.2.1 a1.2.2.2.2.2.2.2.1 a1.2.2.2.2.2.2.1 ok) aq aF (fun a b a0 a1 => aC _ (nm_ne1 (by omega)) (nm_ne1 (by omega)) (nm_ne1 (by omega)) (fun z => absurd z.1 (by show ¬ a = 19; omega)) (fun z => absurd z.1 (by show ¬ 1 = 0; decide))) (aC _ (nm_ne1 (by decide)) (nm_ne1 (by decide)) (nm_ne1 (by decide)) (fun z => absurd z.1 (by decide)) (fun z => absurd z.2.1 (by decide))) a3 a9 hm aN.1 aN.2.1 b3 (by decide) bQ ?_⟩
      rw [a5, b5, hm (30, 0, 13) (by decide)]
      exact Ai_cg hA.up ((stA_k (by decide) (by decide) (by decide) _).trans ((pst_ne (by decide)).trans (pst_ne (by decide)))) ((stA_k (by decide) (by decide) (by decide) _).trans ((pst_ne (by decide)).trans (pst_ne (by decide))))
    · exact absurd ok bk
    · exact absurd a1 (by clear a2 a3 b2 b3 aq aF aC ok; omega)
    · exact absurd a1 (by clear a2 a3 b2 b3 aq aF aC ok; omega)
  · have k1 : Qk p 5 M M1 := by rw [a4]; exact Qk_Pf hpq a3
    refine ⟨_, ct_X8_range (QR_m hQ k1.m) hW, fun r2 M2 N2 h2 => ?_⟩
    obtain ⟨h2, rfl⟩ := h2
    rcases h2 with ⟨b1, bk, b2, bQ, b5, b3⟩ | ⟨b1, bk, b2, b3⟩ | ⟨b1, b2, b3⟩ | ⟨b1, b2, b3⟩
    · exact absurd bk ok
    · exact ⟨a2.trans b2.symm, p, q, Iv_q hI k1 (by decide) b3 rfl⟩
    · exact absurd a1 (by clear a2 a3 a4 b2 b3 ok k1; omega)
    · exact absurd a1 (by clear a2 a3 a4 b2 b3 ok k1; omega)
  · have k1 : Qk p 2 M M1 := by rw [a3]; exact Qk_tr
    refine ⟨_, ct_X8_range (QR_m hQ k1.m) hW, fun r2 M2 N2 h2 => ?_⟩
    obtain ⟨h2, rfl⟩ := h2
    rcases h2 with ⟨b1, bk, b2, bQ, b5, b3⟩ | ⟨b1, bk, b2, b3⟩ | ⟨b1, b2, b3⟩ | ⟨b1, b2, b3⟩
    · exact absurd a1 (by clear a2 a3 b2 b3 k1; omega)
    · exact absurd a1 (by clear a2 a3 b2 b3 k1; omega)
    · exact ⟨a2.trans b2.symm, p, q, Iv_q hI k1 (by decide) b3 rfl⟩
    · exact absurd a1 (by clear a2 a3 b2 b3 k1; omega)
  · have k1 : Qk p 1 M M1 := by rw [a3]; exact Qk_tr
    refine ⟨_, ct_X8_range (QR_m hQ k1.m) hW, fun r2 M2 N2 h2 => ?_⟩
    obtain ⟨h2, rfl⟩ := h2
    rcases h2 with ⟨b1, bk, b2, bQ, b5, b3⟩ | ⟨b1, bk, b2, b3⟩ | ⟨b1, b2, b3⟩ | ⟨b1, b2, b3⟩
    · exact absurd a1 (by clear a2 a3 b2 b3 k1; omega)
    · exact absurd a1 (by clear a2 a3 b2 b3 k1; omega)
    · exact absurd a1 (by clear a2 a3 b2 b3 k1; omega)
    · exact ⟨a2.trans b2.symm, p, q, Iv_q hI k1 (by decide) b3 rfl⟩
theorem cs_program {E : Ev} {M : Mm} {N : Nn} {n : Int} (hN : EN E) (hE : ES E) (hI : Iv M N) : ∃ P7 : Int → Mm → Nn → Prop, Ct E yX7_program cX7_program 5 ((some .int)) (rmH 11) [vr (3, 0, 0), vi n] M N (qi P7) ∧ ∀ r1 M1 N1, P7 r1 M1 N1 → ∃ P8 : Int → Mm → Nn → Prop, Ct E yX8_program cX8_program 4 ((some .int)) (rmH 13) [vr (29, 0, 0), vi n] M1 N1 (qi P8) ∧ ∀ r2 M2 N2, P8 r2 M2 N2 → r1 = r2 ∧ Iv M2 N2 := by
  obtain ⟨p, q, hI⟩ := hI
  obtain ⟨⟨hC, hD, hpq, hp, hq⟩, hW, hFm, hF1, hQ, hA, t1, t2, t3, t4, t5, t6, t7⟩ := id hI
  obtain ⟨φ, ma, fs, rk⟩ := id hFm
  refine ⟨_, ct_X7_program hN hE hC hD fs t3 (fun n5 h => (rd_V n5 h).1.rc), fun r1 M1 N1 h1 => ?_⟩
  rcases h1 with ⟨a1, a2, a3, rfl⟩ | ⟨a1, a2, a3, a4, a5, a6, a7, aN⟩ | ⟨a1, a2, a3, a4, a5, a6, a7, a8, aN⟩
  · have k1 : Qk p 2 M M1 := by rw [a3]; exact Qk_tr
    have m29 : M1 (29, 0, 0) = M (29, 0, 0) := k1.m _ (by decide)
    have m4 : M1 (30, 0, 4) = M (30, 0, 4) := k1.m _ (by decide)
    refine ⟨_, ct_X8_program (b := M (4, 0, 0)) (s := sR M q) hE (by unfold tpR; rw [m4]; exact t4) (by rw [m29, ← t1]; exact t3), fun r2 M2 N2 h2 => ?_⟩
    rw [m29, ← t1] at h2
    rcases h2 with ⟨b1, b2, b3, rfl⟩ | ⟨b1, b2⟩ | ⟨b1, b2⟩
    · exact ⟨a2.trans b2.symm, p, q, Iv_q hI k1 (by decide) (by rw [b3]; exact F8_rf) rfl⟩
    · exact absurd b1 a1
    · exact absurd b1 a1
  · have m : ∀ n : Nm, 29 ≤ n.1 → M1 n = M n := fun n hn => a7 n (fun z => by rw [z] at hn; exact absurd hn (by decide)) (fun z => by rw [z] at hn; exact absurd hn (by decide)) (fun z => by rw [z] at hn; exact absurd hn (by decide)) (fun z => by rw [z] at hn; exact absurd hn (by show ¬ 29 ≤ 18; decide)) (fun z => by omega) (fun z => by omega)
    have m29 : M1 (29, 0, 0) = M (29, 0, 0) := m _ (by decide)
    have m4 : M1 (30, 0, 4) = M (30, 0, 4) := m _ (by decide)
    have c4 : M1 (4, 0, 0) = M (4, 0, 0) := a7 _ (nm_ne1 (by decide)) (nm_ne1 (by decide)) (nm_ne1 (by decide)) (nm_ne1 (by decide)) (fun z => absurd z.1 (by decide)) (fun z => absurd z.2.1 (by decide))
    refine ⟨_, ct_X8_program (b := M (4, 0, 0)) (s := sR M q) hE (by unfold tpR; rw [m4]; exact t4) (by rw [m29, ← t1]; exact t3), fun r2 M2 N2 h2 => ?_⟩
    rw [m29, ← t1] at h2
    rcases h2 with ⟨b1, b2⟩ | ⟨b1, b2, b3, b5, b6, b7, b8, b9, bL, bK, rfl⟩ | ⟨b1, b2, b3⟩
    · exact absurd a1 b1
    · refine ⟨a3.trans b3.symm, p, q, ?_⟩
      have o : ∀ n : Nm, n.1 < 29 → M2 n = M1 n := fun n hn => bK.o n hn
      have e : pgC M2 p = pgC M p := pgC_cg ((o _ (by show 18 < 29; decide)).trans (a7 _ (nm_ne1 (by decide)) (nm_ne1 (by decide)) (nm_ne1 (by decide)) (nm_ne2 hpq) (fun z => absurd z.1 (by show ¬ 18 = 19; decide)) (fun z => absurd z.2.2 (by show ¬ 18 ≤ 16; decide)))) (fun x => (o _ (by show 19 < 29; decide)).trans (a7 _ (nm_ne1 (by decide)) (nm_ne1 (by decide)) (nm_ne1 (by decide)) (nm_ne1 (by decide)) (fun z => hpq z.2) (fun z => absurd z.2.2 (by show ¬ 19 ≤ 16; decide))))
      refine ⟨?_, by rw [e]; exact hW, ?_, ?_, ?_, ?_, ?_⟩
      · rw [← aN]
        unfold rdN IvN
        rw [wrN_nf (nm_ne1 (by decide)), wrN_nf (nm_ne1 (by decide))]
        exact ⟨hC, hD, hpq, hp, hq⟩
      · rw [e]
        exact ⟨φ, ma, (a6 0 _ _ _ fs).fr (fun a b a0 a1 => o (a, 0, b) (by show a < 29; omega)), rk⟩
      · obtain ⟨φ', ν', ma', f'⟩ := hF1
        exact ⟨φ', ν', ma', (a6 1 _ _ _ f').fr (fun a b a0 a1 => o (a, 1, b) (by show a < 29; omega))⟩
      · rw [e]
        obtain ⟨q1, q2, q3, q4, q5⟩ := QR_m hQ m
        refine ⟨by rw [bK.s 6 (by decide)]; exact q1, q2, q3, by rw [bK.s 14 (by decide)]; exact q4, fun v v0 v1 => ?_⟩
        obtain ⟨l1, l2⟩ := bL
        obtain ⟨g1, g2, g3, g4⟩ := l1 (0 + v) (by omega)
        obtain ⟨w1, w2, w3, w4⟩ := q5 v v0 v1
        have o4 := opn_le (pgC M p) v
        refine ⟨by rw [g1]; exact w1, by rw [g2]; exact w2, by rw [g3, g4]; exact w3, fun z k k0 k1 => ?_⟩
        obtain ⟨x1, x2⟩ := l2 (4 * (0 + v) + k) (by omega)
        rw [x1, x2]
        exact w4 z k k0 k1
      · rw [e, o (5, 0, 0) (by decide), a5, bK.a 13 (by decide), m _ (by decide)]
        exact hA
      · have r4 : M2 (30, 0, 4) = M (30, 0, 4) := (bK.a 4 (by decide)).trans m4
        unfold IvT
        rw [o (3, 0, 0) (by decide), a4, b5, b6, b7, b8, o (4, 0, 0) (by decide), c4]
        refine ⟨rfl, by show (0 : Int) ≤ 0; omega, by show (0 : Int) ≤ 500; omega, ?_, rfl, rfl, fun _ => rfl⟩
        unfold tpR
        rw [r4]
        exact t4
    · exact absurd a2 b2
  · have m : ∀ n : Nm, 29 ≤ n.1 → M1 n = M n := fun n hn => a8 n (fun z => by rw [z] at hn; exact absurd hn (by decide)) (fun z => by rw [z] at hn; exact absurd hn (by decide)) (fun z => by rw [z] at hn; exact absurd hn (by decide)) (fun z => by rw [z] at hn; exact absurd hn (by show ¬ 29 ≤ 18; decide)) (fun z => by omega) (fun z => by omega)
    have m29 : M1 (29, 0, 0) = M (29, 0, 0) := m _ (by decide)
    have m4 : M1 (30, 0, 4) = M (30, 0, 4) := m _ (by decide)
    have c4 : M1 (4, 0, 0) = M (4, 0, 0) := a8 _ (nm_ne1 (by decide)) (nm_ne1 (by decide)) (nm_ne1 (by decide)) (nm_ne1 (by decide)) (fun z => absurd z.1 (by decide)) (fun z => absurd z.2.1 (by decide))
    have f0 := (rd_V (b := M (4, 0, 0)) (n := n) (s := sR M q) (by omega) a2).2
    refine ⟨_, ct_X8_program (b := M (4, 0, 0)) (s := sR M q) hE (by unfold tpR; rw [m4]; exact t4) (by rw [m29, ← t1]; exact t3), fun r2 M2 N2 h2 => ?_⟩
    rw [m29, ← t1] at h2
    rcases h2 with ⟨b1, b2⟩ | ⟨b1, b2, b3⟩ | ⟨b1, b2, b3, bQ, bW, b5, b6, b7, b8, b9, bK, rfl⟩
    · exact absurd a1 b1
    · exact absurd b2 a2
    · refine ⟨a3.trans b3.symm, q, p, ?_⟩
      generalize (pAl (M (4, 0, 0)) 501 (rdS (M (4, 0, 0)) n (sR M q))).2.2 = S at *
      have o : ∀ n : Nm, n.1 < 29 → M2 n = M1 n := fun n hn => bK.o n hn
      have e : pgC M2 q = S := (pgC_cg (o _ (by show 18 < 29; decide)) (fun x => o _ (by show 19 < 29; decide))).trans a4
      refine ⟨⟨aN.1, aN.2.1, fun z => hpq z.symm, hq, hp⟩, by rw [e]; exact bW, ?_, ?_, by rw [e]; exact bQ, ?_, ?_⟩
      · rw [e]
        exact Fm_fr a5 (fun a b a0 a1 => o (a, 0, b) (by show a < 29; omega))
      · exact hF1.fr (fun a b a0 a1 => (o (a, 1, b) (by show a < 29; omega)).trans (a8 _ (nm_ne1 (by omega)) (nm_ne1 (by omega)) (nm_ne1 (by omega)) (nm_ne1 (by omega)) (fun z => absurd z.1 (by show ¬ a = 19; omega)) (fun z => absurd z.1 (by show ¬ 1 = 0; decide))))
      · rw [e, o (5, 0, 0) (by decide), a7]
        intro k k0 k1 kz
        obtain ⟨i, i0, i1, ie⟩ := bW.2.2.2.2.2.2.2.2.1 k k0 k1 kz
        rw [b9 k k0 k1 kz, ← ie]
        exact frS_at bW (S 12 0).toNat (by omega) i i0 (by omega)
      · have r4 : M2 (30, 0, 4) = M (30, 0, 4) := (bK.a 4 (by decide)).trans m4
        unfold IvT
        rw [o (3, 0, 0) (by decide), a6, b5, b6, b7, o (4, 0, 0) (by decide), c4]
        refine ⟨rfl, by show (0 : Int) ≤ 0; omega, by show (0 : Int) ≤ 500; omega, ?_, rfl, f0, fun z => absurd z (by show ¬ (0 : Int) = 4; decide)⟩
        unfold tpR
        rw [r4]
        exact t4
