/-! what is read stands: without any memory -/
def Vv1 (k : Int) (S : Pg) : Prop := WF S ∧ ∀ j, 0 ≤ j → j < k → WFo S (S 11 0) (4 * S 11 0 + j)
theorem Vv1_to {S : Pg} {k w x : Int} (h : Vv1 k S) (k0 : 0 ≤ k) (hw : (0 ≤ w → w < S 11 0) ∧ (w < 0 → w = -2 ∧ -1000 ≤ x ∧ x ≤ 1000)) : Vv1 (k + 1) (toS S k w x) := by
  refine ⟨WF_toS h.1 k0, fun j j0 j1 => ?_⟩
  rw [toS_11]
  unfold WFo
  rw [toS_8, toS_9]
  by_cases q : j = k
  · subst q
    rw [if_pos rfl, if_pos rfl]
    exact hw
  · rw [if_neg (by omega), if_neg (by omega)]
    exact h.2 j j0 (by omega)
theorem pOp_V {b : Int → Int} {k : Int} {s : Rs} (hI : RI k s) (hV : Vv1 k s.2) (k0 : 0 ≤ k) (h : (pOp b k s).1 ≠ 0) : Vv1 (k + 1) (pOp b k s).2.2 := by
  unfold pOp at h ⊢
  split at h
  · rename_i q
    rw [if_pos q]
    split at h
    · exact absurd rfl h
    · rename_i q2
      rw [if_neg q2]
      have := nmF_bd (S := s.2) (x := s.1 8) hI.2.1.1
      exact Vv1_to hV k0 ⟨fun _ => by omega, fun _ => by omega⟩
  · rename_i q
    rw [if_neg q]
    obtain ⟨h1, h2⟩ := bnd_ne h
    rw [h2]
    obtain ⟨g0, g1, g2, g3, g4, g5⟩ := pNm_I hI h1
    have hV2 : Vv1 k (pNm b s).2.2 := by rw [g3]; exact hV
    exact Vv1_to hV2 k0 ⟨fun q => absurd q (by decide), fun _ => ⟨rfl, g4, g5⟩⟩
theorem pSg_V {b : Int → Int} {c k : Int} {s : Rs} (hV : Vv1 k s.2) (h : (pSg b c s).1 ≠ 0) : Vv1 k (pSg b c s).2.2 := by rw [(pSg_1 h).1]; exact hV
theorem pW_V {b : Int → Int} {i : Nat} {k : Int} {s : Rs} (hV : Vv1 k s.2) (h : (pW b i s).1 ≠ 0) : Vv1 k (pW b i s).2.2 := by rw [pW_1 h]; exact hV
theorem pNw_V {b : Int → Int} {k : Int} {s : Rs} (hI : RI k s) (hV : Vv1 k s.2) (h : (pNw b s).1 ≠ 0) : Vv1 k (pNw b s).2.2 := by rw [(pNw_I hI h).2.2]; exact hV
theorem pNm_V {b : Int → Int} {k : Int} {s : Rs} (hI : RI k s) (hV : Vv1 k s.2) (h : (pNm b s).1 ≠ 0) : Vv1 k (pNm b s).2.2 := by rw [(pNm_I hI h).2.2.2.1]; exact hV
def Gv1 (s : Rs) : Prop := Vv1 (if s.1 12 = 3 then 4 else 2) s.2
theorem pSm_V {b : Int → Int} {s : Rs} (hI : RI 0 s) (hV : Vv1 0 s.2) (h : (pSm b s).1 ≠ 0) : Gv1 (pSm b s).2 := by
  unfold pSm at h ⊢
  obtain ⟨h1, h2⟩ := bnd_ne h
  rw [h2] at h ⊢
  obtain ⟨g0, g1, g2⟩ := pOp_I hI h1
  have v1 := pOp_V hI hV (Int.le_refl 0) h1
  split at h
  · rename_i q
    rw [if_pos q]
    have hI2 : RI 1 (adR b (upI (pOp b 0 s).2.1 12 (byC ((pOp b 0 s).2.1 5))), (pOp b 0 s).2.2) := ⟨adR_B (rdA_up g1.1.1 (by decide) (by decide)), g1.2⟩
    obtain ⟨k0, k1, k2⟩ := pOp_I hI2 h
    have v2 := pOp_V hI2 v1 (by decide) h
    have e12' : (pOp b 1 (adR b (upI (pOp b 0 s).2.1 12 (byC ((pOp b 0 s).2.1 5))), (pOp b 0 s).2.2)).2.1 12 = byC ((pOp b 0 s).2.1 5) := k2.2.2.1
    have hb := byC_bd (c := (pOp b 0 s).2.1 5)
    unfold Gv1
    rw [if_neg (by omega)]
    exact v2
  · exact absurd rfl h
theorem pPk_V {b : Int → Int} {s : Rs} (hI : RI 0 s) (hV : Vv1 0 s.2) (h : (pPk b s).1 ≠ 0) : Gv1 (pPk b s).2 := by
  unfold pPk at h ⊢
  have hI0 : RI 0 (adR b (upI s.1 12 3), s.2) := ⟨adR_B (rdA_up hI.1.1 (by decide) (by decide)), hI.2⟩
  obtain ⟨a1, a2⟩ := bnd_ne h
  rw [a2] at h ⊢
  obtain ⟨-, i1, k1⟩ := pOp_I hI0 a1
  have v1 := pOp_V hI0 hV (Int.le_refl 0) a1
  generalize (pOp b 0 (adR b (upI s.1 12 3), s.2)).2 = t1 at *
  have i1 : RI 1 t1 := i1
  have v1 : Vv1 1 t1.2 := v1
  obtain ⟨b1, b2⟩ := bnd_ne h
  rw [b2] at h ⊢
  obtain ⟨-, i2, k2⟩ := pSg_I i1 b1
  have v2 := pSg_V v1 b1
  generalize (pSg b 60 t1).2 = t2 at *
  obtain ⟨c1, c2⟩ := bnd_ne h
  rw [c2] at h ⊢
  obtain ⟨-, i3, k3⟩ := pOp_I i2 c1
  have v3 := pOp_V i2 v2 (by decide) c1
  generalize (pOp b 1 t2).2 = t3 at *
  have i3 : RI 2 t3 := i3
  have v3 : Vv1 2 t3.2 := v3
  obtain ⟨d1, d2⟩ := bnd_ne h
  rw [d2] at h ⊢
  obtain ⟨-, i4, k4⟩ := pW_I i3 d1
  have v4 := pW_V v3 d1
  generalize (pW b 6 t3).2 = t4 at *
  obtain ⟨e1, e2⟩ := bnd_ne h
  rw [e2] at h ⊢
  obtain ⟨-, i5, k5⟩ := pOp_I i4 e1
  have v5 := pOp_V i4 v4 (by decide) e1
  generalize (pOp b 2 t4).2 = t5 at *
  have i5 : RI 3 t5 := i5
  have v5 : Vv1 3 t5.2 := v5
  obtain ⟨f1, f2⟩ := bnd_ne h
  rw [f2] at h ⊢
  obtain ⟨-, i6, k6⟩ := pW_I i5 f1
  have v6 := pW_V v5 f1
  generalize (pW b 7 t5).2 = t6 at *
  obtain ⟨g0, i7, k7⟩ := pOp_I i6 h
  have v7 := pOp_V i6 v6 (by decide) h
  have kk := ((((((k1.tr k2).tr k3).tr k4).tr k5).tr k6).tr k7)
  have e12 : (pOp b 3 t6).2.1 12 = 3 := kk.2.2.1
  unfold Gv1
  rw [if_pos e12]
  exact v7
theorem pGe_V {b : Int → Int} {np : Int} {s : Rs} (hI : GI s) (hV : Gv1 s) (h15 : s.2 11 0 < 15) (h12 : s.2 11 0 - s.2 12 0 < 12) (h : (pGe b np s).1 ≠ 0) : WF (pGe b np s).2.2 := by
  unfold pGe at h ⊢
  split at h
  · rename_i q
    rw [if_pos q]
    split at h
    · exact absurd rfl h
    · rename_i q2
      rw [if_neg q2]
      split at h
      · exact absurd rfl h
      · rename_i q3
        rw [if_neg q3]
        have hg := hI.1.1.2.2.2 q
        obtain ⟨-, wf⟩ := WF_ts (nm := s.1 11) (c := s.1 12) (g := s.1 8) hV.1 h15 h12 hI.2.1 hI.2.2 (by omega) (by omega) hV.2
        exact wf (by unfold pGs at q3; omega)
  · exact absurd rfl h
theorem pGr_V {b : Int → Int} {np : Int} {s : Rs} (hI : GI s) (hV : Gv1 s) (h15 : s.2 11 0 < 15) (h12 : s.2 11 0 - s.2 12 0 < 12) (h : (pGr b np s).1 ≠ 0) : WF (pGr b np s).2.2 := by
  unfold pGr at h ⊢
  obtain ⟨h1, h2⟩ := bnd_ne h
  rw [h2] at h ⊢
  have e := pW_1 h1
  rw [e] at h ⊢
  exact pGe_V (s := (adR b s.1, s.2)) ⟨RI_ad hI.1, hI.2⟩ hV h15 h12 h
theorem pIe_V {a : Int} {s : Rs} (hV : WF s.2) (h15 : s.2 11 0 < 15) (h3 : s.2 12 0 < 3) (ha : -1000 ≤ a) (h : (pIe a s).1 ≠ 0) : WF (pIe a s).2.2 := by
  unfold pIe at h ⊢
  split at h
  · rename_i q
    rw [if_pos q]
    exact WF_in hV h15 h3 ha q.2.2.1 q.2.1
  · exact absurd rfl h
theorem pIn_V {b : Int → Int} {s : Rs} (hI : RI 0 s) (hV : Vv1 0 s.2) (h15 : s.2 11 0 < 15) (h3 : s.2 12 0 < 3) (h : (pIn b s).1 ≠ 0) : WF (pIn b s).2.2 := by
  unfold pIn at h ⊢
  obtain ⟨a1, a2⟩ := bnd_ne h
  rw [a2] at h ⊢
  obtain ⟨-, i1, k1⟩ := pNw_I hI a1
  have v1 := pNw_V hI hV a1
  generalize (pNw b s).2 = t1 at *
  obtain ⟨b1, b2⟩ := bnd_ne h
  rw [b2] at h ⊢
  obtain ⟨-, i2, k2⟩ := pW_I i1 b1
  have v2 := pW_V v1 b1
  generalize (pW b 1 t1).2 = t2 at *
  obtain ⟨c1, c2⟩ := bnd_ne h
  rw [c2] at h ⊢
  obtain ⟨-, i3, k3, e3, n1, n2⟩ := pNm_I i2 c1
  have v3 := pNm_V i2 v2 c1
  generalize (pNm b t2).2 = t3 at *
  obtain ⟨d1, d2⟩ := bnd_ne h
  rw [d2] at h ⊢
  obtain ⟨-, i4, k4⟩ := pW_I i3 d1
  have v4 := pW_V v3 d1
  generalize (pW b 2 t3).2 = t4 at *
  obtain ⟨e1, e2⟩ := bnd_ne h
  rw [e2] at h ⊢
  obtain ⟨-, i5, k5, -⟩ := pNm_I i4 e1
  have v5 := pNm_V i4 v4 e1
  generalize (pNm b t4).2 = t5 at *
  have q := (k2.tr k3).tr (k4.tr k5)
  exact pIe_V v5.1 (by rw [q.1, k1]; exact h15) (by rw [q.2.1, k1]; exact h3) n1 h
theorem pLt_V {b : Int → Int} {np : Int} {s : Rs} (hI : RI 0 s) (hV : Vv1 0 s.2) (h15 : s.2 11 0 < 15) (h12 : s.2 11 0 - s.2 12 0 < 12) (h : (pLt b np s).1 ≠ 0) : WF (pLt b np s).2.2 := by
  unfold pLt at h ⊢
  obtain ⟨a1, a2⟩ := bnd_ne h
  rw [a2] at h ⊢
  obtain ⟨-, i1, k1⟩ := pNw_I hI a1
  have v1 := pNw_V hI hV a1
  generalize (pNw b s).2 = t1 at *
  obtain ⟨b1, b2⟩ := bnd_ne h
  rw [b2] at h ⊢
  obtain ⟨-, i2, k2⟩ := pSg_I i1 b1
  have v2 := pSg_V v1 b1
  generalize (pSg b 61 t1).2 = t2 at *
  obtain ⟨c1, c2⟩ := bnd_ne h
  rw [c2] at h ⊢
  have g : GI (if wdR b t2.1 5 = true then pPk b t2 else pSm b t2).2 ∧ (if wdR b t2.1 5 = true then pPk b t2 else pSm b t2).2.2 11 0 = t2.2 11 0 ∧ (if wdR b t2.1 5 = true then pPk b t2 else pSm b t2).2.2 12 0 = t2.2 12 0 := by
    split at c1
    · rename_i q; rw [if_pos q]; exact (pPk_I i2 c1).2
    · rename_i q; rw [if_neg q]; exact (pSm_I i2 c1).2
  have gv : Gv1 (if wdR b t2.1 5 = true then pPk b t2 else pSm b t2).2 := by
    split at c1
    · rename_i q; rw [if_pos q]; exact pPk_V i2 v2 c1
    · rename_i q; rw [if_neg q]; exact pSm_V i2 v2 c1
  exact pGr_V g.1 gv (by rw [g.2.1, k2.1, k1]; exact h15) (by rw [g.2.1, g.2.2, k2.1, k2.2.1, k1]; exact h12) h
theorem pLn_V {b : Int → Int} {s : Rs} (hI : RI 0 s) (hV : WF s.2) (h : (pLn b s).1 ≠ 0) : WF (pLn b s).2.2 := by
  have d := hI.2.1
  have hV : Vv1 0 s.2 := ⟨hV, fun j j0 j1 => absurd j1 (by omega)⟩
  unfold DrO at d
  unfold pLn at h ⊢
  split at h
  · rename_i q
    rw [if_pos q]
    split at h
    · exact absurd rfl h
    · rename_i q2
      rw [if_neg q2]
      exact pIn_V (RI_ad hI) hV (show s.2 11 0 < 15 by omega) (show s.2 12 0 < 3 by omega) h
  · rename_i q
    rw [if_neg q]
    split at h
    · rename_i q2
      rw [if_pos q2]
      split at h
      · exact absurd rfl h
      · rename_i q3
        rw [if_neg q3]
        exact pLt_V (RI_ad hI) hV (show s.2 11 0 < 15 by omega) (show s.2 11 0 - s.2 12 0 < 12 by omega) h
    · exact absurd rfl h
/-- a text that is read: the program stands, no fault is told -/
theorem pAl_V {b : Int → Int} : ∀ (k : Nat) {s : Rs}, RI 0 s → WF s.2 → Pq s.1 → (pAl b k s).1 ≠ 0 → WF (pAl b k s).2.2 ∧ (pAl b k s).2.1 0 = s.1 0
  | 0, s, _, _, _, h => absurd rfl h
  | k + 1, s, hI, hV, hP, h => by
    have h : (bnd (pLn b s) (fun t => if t.1 5 = 0 then pEn t else bnd (pSg b 59 t) (pAl b k))).1 ≠ 0 := h
    show WF (bnd (pLn b s) (fun t => if t.1 5 = 0 then pEn t else bnd (pSg b 59 t) (pAl b k))).2.2 ∧ (bnd (pLn b s) (fun t => if t.1 5 = 0 then pEn t else bnd (pSg b 59 t) (pAl b k))).2.1 0 = s.1 0
    obtain ⟨h1, h2⟩ := bnd_ne h
    rw [h2] at h ⊢
    have w1 := pLn_V hI hV h1
    have i1 := (pLn_I hI h1).2
    have m1 := Mo_Ln hP h1
    split at h
    · rename_i q
      rw [if_pos q]
      unfold pEn at h ⊢
      split at h
      · rename_i q2
        rw [if_pos q2]
        exact ⟨w1, m1.2.2⟩
      · exact absurd rfl h
    · rename_i q
      rw [if_neg q]
      obtain ⟨h3, h4⟩ := bnd_ne h
      rw [h4] at h ⊢
      have m2 := Mo_Sg m1.1 h3
      have i2 := (pSg_I i1 h3).2.1
      have w2 : WF (pSg b 59 (pLn b s).2).2.2 := by rw [(pSg_1 h3).1]; exact w1
      obtain ⟨r1, r2⟩ := pAl_V k i2 w2 m2.1 h
      exact ⟨r1, r2.trans (m2.2.2.trans m1.2.2)⟩
theorem rd_V {b : Int → Int} {n : Int} {s : Rs} (h1 : n ≤ 500) (h : (pAl b 501 (rdS b n s)).1 ≠ 0) : WF (pAl b 501 (rdS b n s)).2.2 ∧ (pAl b 501 (rdS b n s)).2.1 0 = 0 := by
  have w : WF (rdS b n s).2 := WF_0 rfl rfl
  have hA : rdA (rd0 n s).1 := ⟨h1, Int.le_refl 0, show (0 : Int) ≤ 500 by decide⟩
  have hl := tkS_len (b := b) (n := (rd0 n s).1 3) (p := adP b (rd0 n s).1)
  have p : Pq (rdS b n s).1 := ⟨(adR_B hA).1, hl.1, hl.2⟩
  exact pAl_V 501 (rdS_I h1) w p h
