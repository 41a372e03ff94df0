def Rf (q : Nat) (M M1 : Mm) : Prop := ∀ n : Nm, n ≠ (6, 0, 0) → n ≠ (18, q, 0) → ¬ (n.1 = 19 ∧ n.2.1 = q) → M1 n = M n
theorem Rf.rf {q : Nat} {M : Mm} : Rf q M M := fun _ _ _ _ => rfl
theorem Rf.tr {q : Nat} {M M1 M2 : Mm} (h : Rf q M M1) (h2 : Rf q M1 M2) : Rf q M M2 := fun n a b c => (h2 n a b c).trans (h n a b c)
theorem Zf.Rf {q : Nat} {M M1 : Mm} (h : Zf M M1) : Rf q M M1 := fun n a _ _ => h n a
theorem Pf.Rf {q : Nat} {M M1 : Mm} (h : Pf q M M1) : Rf q M M1 := fun n _ b c => h n b c
theorem Zf.pg {q : Nat} {M M1 : Mm} (h : Zf M M1) : pgC M1 q = pgC M q := by
  funext k i
  unfold pgC
  rw [h (18, q, 0) (nm_ne1 (by decide)), h (19, q, k) (nm_ne1 (by decide))]
/-- the reader's references and the tape -/
def RH (M : Mm) (N : Nn) (q : Nat) (b : Int → Int) : Prop := N (6, 0, 0) 2 = (4, 0, 0) ∧ N (6, 0, 0) 4 = (18, q, 0) ∧ M (4, 0, 0) = b
theorem RH.nx {M M1 : Mm} {N : Nn} {q : Nat} {b : Int → Int} (h : RH M N q b) (f : Rf q M M1) : RH M1 N q b := ⟨h.1, h.2.1, (f (4, 0, 0) (nm_ne1 (by decide)) (nm_ne1 (by decide)) (fun z => by have := z.1; omega)).trans h.2.2⟩
def sR (M : Mm) (q : Nat) : Rs := (M (6, 0, 0), pgC M q)
theorem sR_Z {M M1 : Mm} {q : Nat} {g : Int → Int} (e : M1 (6, 0, 0) = g) (h : Zf M M1) : sR M1 q = (g, pgC M q) := by unfold sR; rw [e, h.pg]
theorem sR_P {M M1 : Mm} {q : Nat} {S : Pg} (e : pgC M1 q = S) (h : Pf q M M1) : sR M1 q = (M (6, 0, 0), S) := by unfold sR; rw [e, h (6, 0, 0) (nm_ne1 (by decide)) (fun z => by have := z.1; omega)]
theorem rd_O {M : Mm} {N : Nn} {q : Nat} {b : Int → Int} {k : Int} (hH : RH M N q b) (hI : RI k (sR M q)) : RdO M N := ⟨hH.1, hI.1.1.1, hI.1.1.2.1, hI.1.1.2.2⟩
theorem rd_if {b R : Int → Int} {i : Nat} {r : Int} (h : (Wd b (R 5) (R 6) (R 7) i ∧ r = 1) ∨ (¬ Wd b (R 5) (R 6) (R 7) i ∧ r = 0)) : (wdR b R i = true ∧ r = 1) ∨ (wdR b R i = false ∧ r = 0) := by
  rcases h with ⟨h1, h2⟩ | ⟨h1, h2⟩
  · exact Or.inl ⟨wdb_iff.mpr h1, h2⟩
  · refine Or.inr ⟨?_, h2⟩
    cases q : wdR b R i with
    | false => rfl
    | true => exact absurd (wdb_iff.mp q) h1
theorem bnd_p1 {r : Int} {t : Rs} {f : Rs → Rr} (h : r ≠ 0) : bnd (r, t) f = f t := if_neg h
theorem bnd_p0 {r : Int} {t : Rs} {f : Rs → Rr} (h : r = 0) : bnd (r, t) f = (0, t) := by
  subst h; exact if_pos rfl
theorem cv_sg {M M1 : Mm} {q : Nat} {b : Int → Int} {c r : Int} (hb : M (4, 0, 0) = b) (h : ((M (6, 0, 0) 5 = c ∧ r = 1 ∧ M1 (6, 0, 0) = adR (M (4, 0, 0)) (M (6, 0, 0))) ∨ (M (6, 0, 0) 5 ≠ c ∧ r = 0 ∧ M1 (6, 0, 0) = faR (M (6, 0, 0)) 1 (M (6, 0, 0) 6))) ∧ Zf M M1) : (r, sR M1 q) = pSg b c (sR M q) ∧ Rf q M M1 := by
  subst hb
  refine ⟨?_, h.2.Rf⟩
  unfold pSg
  rcases h.1 with ⟨h1, h2, h3⟩ | ⟨h1, h2, h3⟩
  · rw [if_pos (show (sR M q).1 5 = c from h1), h2, sR_Z h3 h.2]; rfl
  · rw [if_neg (show ¬ (sR M q).1 5 = c from h1), h2, sR_Z h3 h.2]; rfl
theorem cv_nm {M M1 : Mm} {q : Nat} {b : Int → Int} {r : Int} (hb : M (4, 0, 0) = b) (h : (((nmA (M (4, 0, 0)) (M (6, 0, 0))) 5 ≠ 3 ∧ r = 0 ∧ M1 (6, 0, 0) = faR (nmA (M (4, 0, 0)) (M (6, 0, 0))) 1 ((nmA (M (4, 0, 0)) (M (6, 0, 0))) 6)) ∨ ((nmA (M (4, 0, 0)) (M (6, 0, 0))) 5 = 3 ∧ ¬ (-1000 ≤ (nmV (M (4, 0, 0)) (M (6, 0, 0))) ∧ (nmV (M (4, 0, 0)) (M (6, 0, 0))) ≤ 1000) ∧ r = 0 ∧ M1 (6, 0, 0) = faR (nmB (M (4, 0, 0)) (M (6, 0, 0))) 2 ((nmA (M (4, 0, 0)) (M (6, 0, 0))) 6)) ∨ ((nmA (M (4, 0, 0)) (M (6, 0, 0))) 5 = 3 ∧ (-1000 ≤ (nmV (M (4, 0, 0)) (M (6, 0, 0))) ∧ (nmV (M (4, 0, 0)) (M (6, 0, 0))) ≤ 1000) ∧ r = 1 ∧ M1 (6, 0, 0) = adR (M (4, 0, 0)) (nmB (M (4, 0, 0)) (M (6, 0, 0))))) ∧ Zf M M1) : (r, sR M1 q) = pNm b (sR M q) ∧ Rf q M M1 := by
  subst hb
  refine ⟨?_, h.2.Rf⟩
  unfold pNm
  rcases h.1 with ⟨h1, h2, h3⟩ | ⟨h1, h4, h2, h3⟩ | ⟨h1, h4, h2, h3⟩
  · rw [if_neg (show ¬ nmA (M (4, 0, 0)) (sR M q).1 5 = 3 from h1), h2, sR_Z h3 h.2]; rfl
  · rw [if_pos (show nmA (M (4, 0, 0)) (sR M q).1 5 = 3 from h1), if_neg (show ¬ (-1000 ≤ nmV (M (4, 0, 0)) (sR M q).1 ∧ nmV (M (4, 0, 0)) (sR M q).1 ≤ 1000) from h4), h2, sR_Z h3 h.2]; rfl
  · rw [if_pos (show nmA (M (4, 0, 0)) (sR M q).1 5 = 3 from h1), if_pos (show (-1000 ≤ nmV (M (4, 0, 0)) (sR M q).1 ∧ nmV (M (4, 0, 0)) (sR M q).1 ≤ 1000) from h4), h2, sR_Z h3 h.2]; rfl
theorem cv_nd {M M1 : Mm} {N N1 : Nn} {q : Nat} {r x : Int} (h0 : 0 ≤ pgC M q 11 0) (h : ((0 ≤ r ∧ r < pgC M q 11 0 ∧ pgC M q 1 r = x ∧ ∀ w, 0 ≤ w → w < r → pgC M q 1 w ≠ x) ∨ (r = -1 ∧ ∀ w, 0 ≤ w → w < pgC M q 11 0 → pgC M q 1 w ≠ x)) ∧ M = M1 ∧ N = N1) : r = nmF (pgC M q) x := by
  unfold nmF
  exact (nmU_spec _ 0 r (by omega) h.1).symm
theorem nx_op {b : Int → Int} {k r : Int} {s t : Rs} (hI : RI k s) (e : (r, t) = pOp b k s) (h : r ≠ 0) : r = 1 ∧ RI (k + 1) t ∧ KS s t := by
  have := pOp_I hI (by rw [← e]; exact h)
  rw [← e] at this
  exact this
theorem nx_sg {b : Int → Int} {k c r : Int} {s t : Rs} (hI : RI k s) (e : (r, t) = pSg b c s) (h : r ≠ 0) : r = 1 ∧ RI k t ∧ KS s t := by
  have := pSg_I hI (by rw [← e]; exact h)
  rw [← e] at this
  exact this
theorem nx_w {b : Int → Int} {i : Nat} {k r : Int} {s t : Rs} (hI : RI k s) (e : (r, t) = pW b i s) (h : r ≠ 0) : r = 1 ∧ RI k t ∧ KS s t := by
  have := pW_I hI (by rw [← e]; exact h)
  rw [← e] at this
  exact this
theorem nx_nm {b : Int → Int} {k r : Int} {s t : Rs} (hI : RI k s) (e : (r, t) = pNm b s) (h : r ≠ 0) : r = 1 ∧ RI k t ∧ KS s t ∧ t.2 = s.2 ∧ -1000 ≤ t.1 9 ∧ t.1 9 ≤ 1000 := by
  have := pNm_I hI (by rw [← e]; exact h)
  rw [← e] at this
  exact this
theorem nx_nw {b : Int → Int} {k r : Int} {s t : Rs} (hI : RI k s) (e : (r, t) = pNw b s) (h : r ≠ 0) : r = 1 ∧ RI k t ∧ t.2 = s.2 := by
  have := pNw_I hI (by rw [← e]; exact h)
  rw [← e] at this
  exact this
set_option maxRecDepth 100000 in
set_option maxHeartbeats 4000000 in
theorem ct_X4_seesName {E : Ev} {M : Mm} {N : Nn} {q : Nat} {k : Int} {b : Int → Int} (hE : ES E) (hH : RH M N q b) (hI : RI k (sR M q)) : Ct E yX4_seesName cX4_seesName 1 ((some .boolean)) (rmH 6) [vr (6, 0, 0)] M N (qi (fun r M1 N1 => r = (if snb b (M (6, 0, 0)) = true then 1 else 0) ∧ M = M1 ∧ N = N1)) := by
  refine ct_of (own := RX4) (L0 := [vr (6, 0, 0)]) rfl (by decide +kernel) rfl rfl ?_
  refine go_aload_n dX4_seesName_0 rfl rfl ?_
  refine g4_47 dX4_seesName_1 ?_
  refine go_iconst dX4_seesName_4 (R32_lit rfl) ?_
  refine go_icmp_ne (tgt := 84) dX4_seesName_5 rfl (fun h5 => ?_) (fun h5 => ?_)
  · refine go_iconst dX4_seesName_84 (R32_lit rfl) ?_
    refine go_retz dX4_seesName_85 (by first | exact Or.inl rfl | exact Or.inr rfl | omega) ?_
    refine ⟨?_, rfl, rfl⟩
    rw [← hH.2.2]
    first
    | (rw [if_pos (by unfold snb; rw [u0, u1, u2, u3, u4, u5, u6, u7, decide_eq_true h5]; rfl)])
    | (have u : wdR (M (4, 0, 0)) (M (6, 0, 0)) 7 = true := w7.elim (fun q => q.1) (fun q => absurd q.2 (by omega))
       rw [if_neg (by unfold snb; rw [u]; simp)])
    | (have u : wdR (M (4, 0, 0)) (M (6, 0, 0)) 6 = true := w6.elim (fun q => q.1) (fun q => absurd q.2 (by omega))
       rw [if_neg (by unfold snb; rw [u]; simp)])
    | (have u : wdR (M (4, 0, 0)) (M (6, 0, 0)) 5 = true := w5.elim (fun q => q.1) (fun q => absurd q.2 (by omega))
       rw [if_neg (by unfold snb; rw [u]; simp)])
    | (have u : wdR (M (4, 0, 0)) (M (6, 0, 0)) 4 = true := w4.elim (fun q => q.1) (fun q => absurd q.2 (by omega))
       rw [if_neg (by unfold snb; rw [u]; simp)])
    | (have u : wdR (M (4, 0, 0)) (M (6, 0, 0)) 3 = true := w3.elim (fun q => q.1) (fun q => absurd q.2 (by omega))
       rw [if_neg (by unfold snb; rw [u]; simp)])
    | (have u : wdR (M (4, 0, 0)) (M (6, 0, 0)) 2 = true := w2.elim (fun q => q.1) (fun q => absurd q.2 (by omega))
       rw [if_neg (by unfold snb; rw [u]; simp)])
    | (have u : wdR (M (4, 0, 0)) (M (6, 0, 0)) 1 = true := w1.elim (fun q => q.1) (fun q => absurd q.2 (by omega))
       rw [if_neg (by unfold snb; rw [u]; simp)])
    | (have u : wdR (M (4, 0, 0)) (M (6, 0, 0)) 0 = true := w0.elim (fun q => q.1) (fun q => absurd q.2 (by omega))
       rw [if_neg (by unfold snb; rw [u]; simp)])
    | (rw [if_neg (by unfold snb; rw [decide_eq_false h5]; simp)])
  · refine go_aload_n dX4_seesName_8 rfl rfl ?_
    refine s4_65 hE dX4_seesName_9 ?_
    refine v4_67 dX4_seesName_11 rfl ⟨rfl, rfl⟩ ⟨rfl, rfl⟩ (ct_X4_reads hE (w := 0) (by decide) hH.1 hI.1.2.1 hI.1.2.2.1 hI.1.1.2.1 hI.1.1.2.2) (fun r0 M0 N0 hr0 hq0 => ?_)
    obtain ⟨z0, rfl, rfl⟩ := hq0
    have w0 := rd_if (R := M (6, 0, 0)) z0
    refine go_if_ne (tgt := 84) dX4_seesName_14 rfl (fun h14 => ?_) (fun h14 => ?_)
    · refine go_iconst dX4_seesName_84 (R32_lit rfl) ?_
      refine go_retz dX4_seesName_85 (by first | exact Or.inl rfl | exact Or.inr rfl | omega) ?_
      refine ⟨?_, rfl, rfl⟩
      rw [← hH.2.2]
      first
      | (rw [if_pos (by unfold snb; rw [u0, u1, u2, u3, u4, u5, u6, u7, decide_eq_true h5]; rfl)])
      | (have u : wdR (M (4, 0, 0)) (M (6, 0, 0)) 7 = true := w7.elim (fun q => q.1) (fun q => absurd q.2 (by omega))
         rw [if_neg (by unfold snb; rw [u]; simp)])
      | (have u : wdR (M (4, 0, 0)) (M (6, 0, 0)) 6 = true := w6.elim (fun q => q.1) (fun q => absurd q.2 (by omega))
         rw [if_neg (by unfold snb; rw [u]; simp)])
      | (have u : wdR (M (4, 0, 0)) (M (6, 0, 0)) 5 = true := w5.elim (fun q => q.1) (fun q => absurd q.2 (by omega))
         rw [if_neg (by unfold snb; rw [u]; simp)])
      | (have u : wdR (M (4, 0, 0)) (M (6, 0, 0)) 4 = true := w4.elim (fun q => q.1) (fun q => absurd q.2 (by omega))
         rw [if_neg (by unfold snb; rw [u]; simp)])
      | (have u : wdR (M (4, 0, 0)) (M (6, 0, 0)) 3 = true := w3.elim (fun q => q.1) (fun q => absurd q.2 (by omega))
         rw [if_neg (by unfold snb; rw [u]; simp)])
      | (have u : wdR (M (4, 0, 0)) (M (6, 0, 0)) 2 = true := w2.elim (fun q => q.1) (fun q => absurd q.2 (by omega))
         rw [if_neg (by unfold snb; rw [u]; simp)])
      | (have u : wdR (M (4, 0, 0)) (M (6, 0, 0)) 1 = true := w1.elim (fun q => q.1) (fun q => absurd q.2 (by omega))
         rw [if_neg (by unfold snb; rw [u]; simp)])
      | (have u : wdR (M (4, 0, 0)) (M (6, 0, 0)) 0 = true := w0.elim (fun q => q.1) (fun q => absurd q.2 (by omega))
         rw [if_neg (by unfold snb; rw [u]; simp)])
      | (rw [if_neg (by unfold snb; rw [decide_eq_false h5]; simp)])
    · have u0 : wdR (M (4, 0, 0)) (M (6, 0, 0)) 0 = false := w0.elim (fun q => absurd q.2 (by omega)) (fun q => q.1)
      refine go_aload_n dX4_seesName_17 rfl rfl ?_
      refine s4_91 hE dX4_seesName_18 ?_
      refine v4_67 dX4_seesName_20 rfl ⟨rfl, rfl⟩ ⟨rfl, rfl⟩ (ct_X4_reads hE (w := 1) (by decide) hH.1 hI.1.2.1 hI.1.2.2.1 hI.1.1.2.1 hI.1.1.2.2) (fun r1 M1 N1 hr1 hq1 => ?_)
      obtain ⟨z1, rfl, rfl⟩ := hq1
      have w1 := rd_if (R := M (6, 0, 0)) z1
      refine go_if_ne (tgt := 84) dX4_seesName_23 rfl (fun h23 => ?_) (fun h23 => ?_)
      · refine go_iconst dX4_seesName_84 (R32_lit rfl) ?_
        refine go_retz dX4_seesName_85 (by first | exact Or.inl rfl | exact Or.inr rfl | omega) ?_
        refine ⟨?_, rfl, rfl⟩
        rw [← hH.2.2]
        first
        | (rw [if_pos (by unfold snb; rw [u0, u1, u2, u3, u4, u5, u6, u7, decide_eq_true h5]; rfl)])
        | (have u : wdR (M (4, 0, 0)) (M (6, 0, 0)) 7 = true := w7.elim (fun q => q.1) (fun q => absurd q.2 (by omega))
           rw [if_neg (by unfold snb; rw [u]; simp)])
        | (have u : wdR (M (4, 0, 0)) (M (6, 0, 0)) 6 = true := w6.elim (fun q => q.1) (fun q => absurd q.2 (by omega))
           rw [if_neg (by unfold snb; rw [u]; simp)])
        | (have u : wdR (M (4, 0, 0)) (M (6, 0, 0)) 5 = true := w5.elim (fun q => q.1) (fun q => absurd q.2 (by omega))
           rw [if_neg (by unfold snb; rw [u]; simp)])
        | (have u : wdR (M (4, 0, 0)) (M (6, 0, 0)) 4 = true := w4.elim (fun q => q.1) (fun q => absurd q.2 (by omega))
           rw [if_neg (by unfold snb; rw [u]; simp)])
        | (have u : wdR (M (4, 0, 0)) (M (6, 0, 0)) 3 = true := w3.elim (fun q => q.1) (fun q => absurd q.2 (by omega))
           rw [if_neg (by unfold snb; rw [u]; simp)])
        | (have u : wdR (M (4, 0, 0)) (M (6, 0, 0)) 2 = true := w2.elim (fun q => q.1) (fun q => absurd q.2 (by omega))
           rw [if_neg (by unfold snb; rw [u]; simp)])
        | (have u : wdR (M (4, 0, 0)) (M (6, 0, 0)) 1 = true := w1.elim (fun q => q.1) (fun q => absurd q.2 (by omega))
           rw [if_neg (by unfold snb; rw [u]; simp)])
        | (have u : wdR (M (4, 0, 0)) (M (6, 0, 0)) 0 = true := w0.elim (fun q => q.1) (fun q => absurd q.2 (by omega))
           rw [if_neg (by unfold snb; rw [u]; simp)])
        | (rw [if_neg (by unfold snb; rw [decide_eq_false h5]; simp)])
      · have u1 : wdR (M (4, 0, 0)) (M (6, 0, 0)) 1 = false := w1.elim (fun q => absurd q.2 (by omega)) (fun q => q.1)
        refine go_aload_n dX4_seesName_26 rfl rfl ?_
        refine s4_102 hE dX4_seesName_27 ?_
        refine v4_67 dX4_seesName_29 rfl ⟨rfl, rfl⟩ ⟨rfl, rfl⟩ (ct_X4_reads hE (w := 2) (by decide) hH.1 hI.1.2.1 hI.1.2.2.1 hI.1.1.2.1 hI.1.1.2.2) (fun r2 M2 N2 hr2 hq2 => ?_)
        obtain ⟨z2, rfl, rfl⟩ := hq2
        have w2 := rd_if (R := M (6, 0, 0)) z2
        refine go_if_ne (tgt := 84) dX4_seesName_32 rfl (fun h32 => ?_) (fun h32 => ?_)
        · refine go_iconst dX4_seesName_84 (R32_lit rfl) ?_
          refine go_retz dX4_seesName_85 (by first | exact Or.inl rfl | exact Or.inr rfl | omega) ?_
          refine ⟨?_, rfl, rfl⟩
          rw [← hH.2.2]
          first
          | (rw [if_pos (by unfold snb; rw [u0, u1, u2, u3, u4, u5, u6, u7, decide_eq_true h5]; rfl)])
          | (have u : wdR (M (4, 0, 0)) (M (6, 0, 0)) 7 = true := w7.elim (fun q => q.1) (fun q => absurd q.2 (by omega))
             rw [if_neg (by unfold snb; rw [u]; simp)])
          | (have u : wdR (M (4, 0, 0)) (M (6, 0, 0)) 6 = true := w6.elim (fun q => q.1) (fun q => absurd q.2 (by omega))
             rw [if_neg (by unfold snb; rw [u]; simp)])
          | (have u : wdR (M (4, 0, 0)) (M (6, 0, 0)) 5 = true := w5.elim (fun q => q.1) (fun q => absurd q.2 (by omega))
             rw [if_neg (by unfold snb; rw [u]; simp)])
          | (have u : wdR (M (4, 0, 0)) (M (6, 0, 0)) 4 = true := w4.elim (fun q => q.1) (fun q => absurd q.2 (by omega))
             rw [if_neg (by unfold snb; rw [u]; simp)])
          | (have u : wdR (M (4, 0, 0)) (M (6, 0, 0)) 3 = true := w3.elim (fun q => q.1) (fun q => absurd q.2 (by omega))
             rw [if_neg (by unfold snb; rw [u]; simp)])
          | (have u : wdR (M (4, 0, 0)) (M (6, 0, 0)) 2 = true := w2.elim (fun q => q.1) (fun q => absurd q.2 (by omega))
             rw [if_neg (by unfold snb; rw [u]; simp)])
          | (have u : wdR (M (4, 0, 0)) (M (6, 0, 0)) 1 = true := w1.elim (fun q => q.1) (fun q => absurd q.2 (by omega))
             rw [if_neg (by unfold snb; rw [u]; simp)])
          | (have u : wdR (M (4, 0, 0)) (M (6, 0, 0)) 0 = true := w0.elim (fun q => q.1) (fun q => absurd q.2 (by omega))
             rw [if_neg (by unfold snb; rw [u]; simp)])
          | (rw [if_neg (by unfold snb; rw [decide_eq_false h5]; simp)])
        · have u2 : wdR (M (4, 0, 0)) (M (6, 0, 0)) 2 = false := w2.elim (fun q => absurd q.2 (by omega)) (fun q => q.1)
          refine go_aload_n dX4_seesName_35 rfl rfl ?_
          refine s4_74 hE dX4_seesName_36 ?_
          refine v4_67 dX4_seesName_38 rfl ⟨rfl, rfl⟩ ⟨rfl, rfl⟩ (ct_X4_reads hE (w := 3) (by decide) hH.1 hI.1.2.1 hI.1.2.2.1 hI.1.1.2.1 hI.1.1.2.2) (fun r3 M3 N3 hr3 hq3 => ?_)
          obtain ⟨z3, rfl, rfl⟩ := hq3
          have w3 := rd_if (R := M (6, 0, 0)) z3
          refine go_if_ne (tgt := 84) dX4_seesName_41 rfl (fun h41 => ?_) (fun h41 => ?_)
          · refine go_iconst dX4_seesName_84 (R32_lit rfl) ?_
            refine go_retz dX4_seesName_85 (by first | exact Or.inl rfl | exact Or.inr rfl | omega) ?_
            refine ⟨?_, rfl, rfl⟩
            rw [← hH.2.2]
            first
            | (rw [if_pos (by unfold snb; rw [u0, u1, u2, u3, u4, u5, u6, u7, decide_eq_true h5]; rfl)])
            | (have u : wdR (M (4, 0, 0)) (M (6, 0, 0)) 7 = true := w7.elim (fun q => q.1) (fun q => absurd q.2 (by omega))
               rw [if_neg (by unfold snb; rw [u]; simp)])
            | (have u : wdR (M (4, 0, 0)) (M (6, 0, 0)) 6 = true := w6.elim (fun q => q.1) (fun q => absurd q.2 (by omega))
               rw [if_neg (by unfold snb; rw [u]; simp)])
            | (have u : wdR (M (4, 0, 0)) (M (6, 0, 0)) 5 = true := w5.elim (fun q => q.1) (fun q => absurd q.2 (by omega))
               rw [if_neg (by unfold snb; rw [u]; simp)])
            | (have u : wdR (M (4, 0, 0)) (M (6, 0, 0)) 4 = true := w4.elim (fun q => q.1) (fun q => absurd q.2 (by omega))
               rw [if_neg (by unfold snb; rw [u]; simp)])
            | (have u : wdR (M (4, 0, 0)) (M (6, 0, 0)) 3 = true := w3.elim (fun q => q.1) (fun q => absurd q.2 (by omega))
               rw [if_neg (by unfold snb; rw [u]; simp)])
            | (have u : wdR (M (4, 0, 0)) (M (6, 0, 0)) 2 = true := w2.elim (fun q => q.1) (fun q => absurd q.2 (by omega))
               rw [if_neg (by unfold snb; rw [u]; simp)])
            | (have u : wdR (M (4, 0, 0)) (M (6, 0, 0)) 1 = true := w1.elim (fun q => q.1) (fun q => absurd q.2 (by omega))
               rw [if_neg (by unfold snb; rw [u]; simp)])
            | (have u : wdR (M (4, 0, 0)) (M (6, 0, 0)) 0 = true := w0.elim (fun q => q.1) (fun q => absurd q.2 (by omega))
               rw [if_neg (by unfold snb; rw [u]; simp)])
            | (rw [if_neg (by unfold snb; rw [decide_eq_false h5]; simp)])
          · have u3 : wdR (M (4, 0, 0)) (M (6, 0, 0)) 3 = false := w3.elim (fun q => absurd q.2 (by omega)) (fun q => q.1)
            refine go_aload_n dX4_seesName_44 rfl rfl ?_
            refine s4_127 hE dX4_seesName_45 ?_
            refine v4_67 dX4_seesName_47 rfl ⟨rfl, rfl⟩ ⟨rfl, rfl⟩ (ct_X4_reads hE (w := 4) (by decide) hH.1 hI.1.2.1 hI.1.2.2.1 hI.1.1.2.1 hI.1.1.2.2) (fun r4 M4 N4 hr4 hq4 => ?_)
            obtain ⟨z4, rfl, rfl⟩ := hq4
            have w4 := rd_if (R := M (6, 0, 0)) z4
            refine go_if_ne (tgt := 84) dX4_seesName_50 rfl (fun h50 => ?_) (fun h50 => ?_)
            · refine go_iconst dX4_seesName_84 (R32_lit rfl) ?_
              refine go_retz dX4_seesName_85 (by first | exact Or.inl rfl | exact Or.inr rfl | omega) ?_
              refine ⟨?_, rfl, rfl⟩
              rw [← hH.2.2]
              first
              | (rw [if_pos (by unfold snb; rw [u0, u1, u2, u3, u4, u5, u6, u7, decide_eq_true h5]; rfl)])
              | (have u : wdR (M (4, 0, 0)) (M (6, 0, 0)) 7 = true := w7.elim (fun q => q.1) (fun q => absurd q.2 (by omega))
                 rw [if_neg (by unfold snb; rw [u]; simp)])
              | (have u : wdR (M (4, 0, 0)) (M (6, 0, 0)) 6 = true := w6.elim (fun q => q.1) (fun q => absurd q.2 (by omega))
                 rw [if_neg (by unfold snb; rw [u]; simp)])
              | (have u : wdR (M (4, 0, 0)) (M (6, 0, 0)) 5 = true := w5.elim (fun q => q.1) (fun q => absurd q.2 (by omega))
                 rw [if_neg (by unfold snb; rw [u]; simp)])
              | (have u : wdR (M (4, 0, 0)) (M (6, 0, 0)) 4 = true := w4.elim (fun q => q.1) (fun q => absurd q.2 (by omega))
                 rw [if_neg (by unfold snb; rw [u]; simp)])
              | (have u : wdR (M (4, 0, 0)) (M (6, 0, 0)) 3 = true := w3.elim (fun q => q.1) (fun q => absurd q.2 (by omega))
                 rw [if_neg (by unfold snb; rw [u]; simp)])
              | (have u : wdR (M (4, 0, 0)) (M (6, 0, 0)) 2 = true := w2.elim (fun q => q.1) (fun q => absurd q.2 (by omega))
                 rw [if_neg (by unfold snb; rw [u]; simp)])
              | (have u : wdR (M (4, 0, 0)) (M (6, 0, 0)) 1 = true := w1.elim (fun q => q.1) (fun q => absurd q.2 (by omega))
                 rw [if_neg (by unfold snb; rw [u]; simp)])
              | (have u : wdR (M (4, 0, 0)) (M (6, 0, 0)) 0 = true := w0.elim (fun q => q.1) (fun q => absurd q.2 (by omega))
                 rw [if_neg (by unfold snb; rw [u]; simp)])
              | (rw [if_neg (by unfold snb; rw [decide_eq_false h5]; simp)])
            · have u4 : wdR (M (4, 0, 0)) (M (6, 0, 0)) 4 = false := w4.elim (fun q => absurd q.2 (by omega)) (fun q => q.1)
              refine go_aload_n dX4_seesName_53 rfl rfl ?_
              refine s4_79 hE dX4_seesName_54 ?_
              refine v4_67 dX4_seesName_56 rfl ⟨rfl, rfl⟩ ⟨rfl, rfl⟩ (ct_X4_reads hE (w := 5) (by decide) hH.1 hI.1.2.1 hI.1.2.2.1 hI.1.1.2.1 hI.1.1.2.2) (fun r5 M5 N5 hr5 hq5 => ?_)
              obtain ⟨z5, rfl, rfl⟩ := hq5
              have w5 := rd_if (R := M (6, 0, 0)) z5
              refine go_if_ne (tgt := 84) dX4_seesName_59 rfl (fun h59 => ?_) (fun h59 => ?_)
              · refine go_iconst dX4_seesName_84 (R32_lit rfl) ?_
                refine go_retz dX4_seesName_85 (by first | exact Or.inl rfl | exact Or.inr rfl | omega) ?_
                refine ⟨?_, rfl, rfl⟩
                rw [← hH.2.2]
                first
                | (rw [if_pos (by unfold snb; rw [u0, u1, u2, u3, u4, u5, u6, u7, decide_eq_true h5]; rfl)])
                | (have u : wdR (M (4, 0, 0)) (M (6, 0, 0)) 7 = true := w7.elim (fun q => q.1) (fun q => absurd q.2 (by omega))
                   rw [if_neg (by unfold snb; rw [u]; simp)])
                | (have u : wdR (M (4, 0, 0)) (M (6, 0, 0)) 6 = true := w6.elim (fun q => q.1) (fun q => absurd q.2 (by omega))
                   rw [if_neg (by unfold snb; rw [u]; simp)])
                | (have u : wdR (M (4, 0, 0)) (M (6, 0, 0)) 5 = true := w5.elim (fun q => q.1) (fun q => absurd q.2 (by omega))
                   rw [if_neg (by unfold snb; rw [u]; simp)])
                | (have u : wdR (M (4, 0, 0)) (M (6, 0, 0)) 4 = true := w4.elim (fun q => q.1) (fun q => absurd q.2 (by omega))
                   rw [if_neg (by unfold snb; rw [u]; simp)])
                | (have u : wdR (M (4, 0, 0)) (M (6, 0, 0)) 3 = true := w3.elim (fun q => q.1) (fun q => absurd q.2 (by omega))
                   rw [if_neg (by unfold snb; rw [u]; simp)])
                | (have u : wdR (M (4, 0, 0)) (M (6, 0, 0)) 2 = true := w2.elim (fun q => q.1) (fun q => absurd q.2 (by omega))
                   rw [if_neg (by unfold snb; rw [u]; simp)])
                | (have u : wdR (M (4, 0, 0)) (M (6, 0, 0)) 1 = true := w1.elim (fun q => q.1) (fun q => absurd q.2 (by omega))
                   rw [if_neg (by unfold snb; rw [u]; simp)])
                | (have u : wdR (M (4, 0, 0)) (M (6, 0, 0)) 0 = true := w0.elim (fun q => q.1) (fun q => absurd q.2 (by omega))
                   rw [if_neg (by unfold snb; rw [u]; simp)])
                | (rw [if_neg (by unfold snb; rw [decide_eq_false h5]; simp)])
              · have u5 : wdR (M (4, 0, 0)) (M (6, 0, 0)) 5 = false := w5.elim (fun q => absurd q.2 (by omega)) (fun q => q.1)
                refine go_aload_n dX4_seesName_62 rfl rfl ?_
                refine s4_123 hE dX4_seesName_63 ?_
                refine v4_67 dX4_seesName_65 rfl ⟨rfl, rfl⟩ ⟨rfl, rfl⟩ (ct_X4_reads hE (w := 6) (by decide) hH.1 hI.1.2.1 hI.1.2.2.1 hI.1.1.2.1 hI.1.1.2.2) (fun r6 M6 N6 hr6 hq6 => ?_)
                obtain ⟨z6, rfl, rfl⟩ := hq6
                have w6 := rd_if (R := M (6, 0, 0)) z6
                refine go_if_ne (tgt := 84) dX4_seesName_68 rfl (fun h68 => ?_) (fun h68 => ?_)
                · refine go_iconst dX4_seesName_84 (R32_lit rfl) ?_
                  refine go_retz dX4_seesName_85 (by first | exact Or.inl rfl | exact Or.inr rfl | omega) ?_
                  refine ⟨?_, rfl, rfl⟩
                  rw [← hH.2.2]
                  first
                  | (rw [if_pos (by unfold snb; rw [u0, u1, u2, u3, u4, u5, u6, u7, decide_eq_true h5]; rfl)])
                  | (have u : wdR (M (4, 0, 0)) (M (6, 0, 0)) 7 = true := w7.elim (fun q => q.1) (fun q => absurd q.2 (by omega))
                     rw [if_neg (by unfold snb; rw [u]; simp)])
                  | (have u : wdR (M (4, 0, 0)) (M (6, 0, 0)) 6 = true := w6.elim (fun q => q.1) (fun q => absurd q.2 (by omega))
                     rw [if_neg (by unfold snb; rw [u]; simp)])
                  | (have u : wdR (M (4, 0, 0)) (M (6, 0, 0)) 5 = true := w5.elim (fun q => q.1) (fun q => absurd q.2 (by omega))
                     rw [if_neg (by unfold snb; rw [u]; simp)])
                  | (have u : wdR (M (4, 0, 0)) (M (6, 0, 0)) 4 = true := w4.elim (fun q => q.1) (fun q => absurd q.2 (by omega))
                     rw [if_neg (by unfold snb; rw [u]; simp)])
                  | (have u : wdR (M (4, 0, 0)) (M (6, 0, 0)) 3 = true := w3.elim (fun q => q.1) (fun q => absurd q.2 (by omega))
                     rw [if_neg (by unfold snb; rw [u]; simp)])
                  | (have u : wdR (M (4, 0, 0)) (M (6, 0, 0)) 2 = true := w2.elim (fun q => q.1) (fun q => absurd q.2 (by omega))
                     rw [if_neg (by unfold snb; rw [u]; simp)])
                  | (have u : wdR (M (4, 0, 0)) (M (6, 0, 0)) 1 = true := w1.elim (fun q => q.1) (fun q => absurd q.2 (by omega))
                     rw [if_neg (by unfold snb; rw [u]; simp)])
                  | (have u : wdR (M (4, 0, 0)) (M (6, 0, 0)) 0 = true := w0.elim (fun q => q.1) (fun q => absurd q.2 (by omega))
                     rw [if_neg (by unfold snb; rw [u]; simp)])
                  | (rw [if_neg (by unfold snb; rw [decide_eq_false h5]; simp)])
                · have u6 : wdR (M (4, 0, 0)) (M (6, 0, 0)) 6 = false := w6.elim (fun q => absurd q.2 (by omega)) (fun q => q.1)
                  refine go_aload_n dX4_seesName_71 rfl rfl ?_
                  refine s4_125 hE dX4_seesName_72 ?_
                  refine v4_67 dX4_seesName_74 rfl ⟨rfl, rfl⟩ ⟨rfl, rfl⟩ (ct_X4_reads hE (w := 7) (by decide) hH.1 hI.1.2.1 hI.1.2.2.1 hI.1.1.2.1 hI.1.1.2.2) (fun r7 M7 N7 hr7 hq7 => ?_)
                  obtain ⟨z7, rfl, rfl⟩ := hq7
                  have w7 := rd_if (R := M (6, 0, 0)) z7
                  refine go_if_ne (tgt := 84) dX4_seesName_77 rfl (fun h77 => ?_) (fun h77 => ?_)
                  · refine go_iconst dX4_seesName_84 (R32_lit rfl) ?_
                    refine go_retz dX4_seesName_85 (by first | exact Or.inl rfl | exact Or.inr rfl | omega) ?_
                    refine ⟨?_, rfl, rfl⟩
                    rw [← hH.2.2]
                    first
                    | (rw [if_pos (by unfold snb; rw [u0, u1, u2, u3, u4, u5, u6, u7, decide_eq_true h5]; rfl)])
                    | (have u : wdR (M (4, 0, 0)) (M (6, 0, 0)) 7 = true := w7.elim (fun q => q.1) (fun q => absurd q.2 (by omega))
                       rw [if_neg (by unfold snb; rw [u]; simp)])
                    | (have u : wdR (M (4, 0, 0)) (M (6, 0, 0)) 6 = true := w6.elim (fun q => q.1) (fun q => absurd q.2 (by omega))
                       rw [if_neg (by unfold snb; rw [u]; simp)])
                    | (have u : wdR (M (4, 0, 0)) (M (6, 0, 0)) 5 = true := w5.elim (fun q => q.1) (fun q => absurd q.2 (by omega))
                       rw [if_neg (by unfold snb; rw [u]; simp)])
                    | (have u : wdR (M (4, 0, 0)) (M (6, 0, 0)) 4 = true := w4.elim (fun q => q.1) (fun q => absurd q.2 (by omega))
                       rw [if_neg (by unfold snb; rw [u]; simp)])
                    | (have u : wdR (M (4, 0, 0)) (M (6, 0, 0)) 3 = true := w3.elim (fun q => q.1) (fun q => absurd q.2 (by omega))
                       rw [if_neg (by unfold snb; rw [u]; simp)])
                    | (have u : wdR (M (4, 0, 0)) (M (6, 0, 0)) 2 = true := w2.elim (fun q => q.1) (fun q => absurd q.2 (by omega))
                       rw [if_neg (by unfold snb; rw [u]; simp)])
                    | (have u : wdR (M (4, 0, 0)) (M (6, 0, 0)) 1 = true := w1.elim (fun q => q.1) (fun q => absurd q.2 (by omega))
                       rw [if_neg (by unfold snb; rw [u]; simp)])
                    | (have u : wdR (M (4, 0, 0)) (M (6, 0, 0)) 0 = true := w0.elim (fun q => q.1) (fun q => absurd q.2 (by omega))
                       rw [if_neg (by unfold snb; rw [u]; simp)])
                    | (rw [if_neg (by unfold snb; rw [decide_eq_false h5]; simp)])
                  · have u7 : wdR (M (4, 0, 0)) (M (6, 0, 0)) 7 = false := w7.elim (fun q => absurd q.2 (by omega)) (fun q => q.1)
                    refine go_iconst dX4_seesName_80 (R32_lit rfl) ?_
                    refine go_goto (tgt := 85) dX4_seesName_81 rfl ?_
                    refine go_retz dX4_seesName_85 (by first | exact Or.inl rfl | exact Or.inr rfl | omega) ?_
                    refine ⟨?_, rfl, rfl⟩
                    rw [← hH.2.2]
                    first
                    | (rw [if_pos (by unfold snb; rw [u0, u1, u2, u3, u4, u5, u6, u7, decide_eq_true h5]; rfl)])
                    | (have u : wdR (M (4, 0, 0)) (M (6, 0, 0)) 7 = true := w7.elim (fun q => q.1) (fun q => absurd q.2 (by omega))
                       rw [if_neg (by unfold snb; rw [u]; simp)])
                    | (have u : wdR (M (4, 0, 0)) (M (6, 0, 0)) 6 = true := w6.elim (fun q => q.1) (fun q => absurd q.2 (by omega))
                       rw [if_neg (by unfold snb; rw [u]; simp)])
                    | (have u : wdR (M (4, 0, 0)) (M (6, 0, 0)) 5 = true := w5.elim (fun q => q.1) (fun q => absurd q.2 (by omega))
                       rw [if_neg (by unfold snb; rw [u]; simp)])
                    | (have u : wdR (M (4, 0, 0)) (M (6, 0, 0)) 4 = true := w4.elim (fun q => q.1) (fun q => absurd q.2 (by omega))
                       rw [if_neg (by unfold snb; rw [u]; simp)])
                    | (have u : wdR (M (4, 0, 0)) (M (6, 0, 0)) 3 = true := w3.elim (fun q => q.1) (fun q => absurd q.2 (by omega))
                       rw [if_neg (by unfold snb; rw [u]; simp)])
                    | (have u : wdR (M (4, 0, 0)) (M (6, 0, 0)) 2 = true := w2.elim (fun q => q.1) (fun q => absurd q.2 (by omega))
                       rw [if_neg (by unfold snb; rw [u]; simp)])
                    | (have u : wdR (M (4, 0, 0)) (M (6, 0, 0)) 1 = true := w1.elim (fun q => q.1) (fun q => absurd q.2 (by omega))
                       rw [if_neg (by unfold snb; rw [u]; simp)])
                    | (have u : wdR (M (4, 0, 0)) (M (6, 0, 0)) 0 = true := w0.elim (fun q => q.1) (fun q => absurd q.2 (by omega))
                       rw [if_neg (by unfold snb; rw [u]; simp)])
                    | (rw [if_neg (by unfold snb; rw [decide_eq_false h5]; simp)])
set_option maxRecDepth 100000 in
set_option maxHeartbeats 4000000 in
theorem ct_X4_skipWord {E : Ev} {M : Mm} {N : Nn} {q : Nat} {k : Int} {b : Int → Int} {w : Nat} (hE : ES E) (hH : RH M N q b) (hI : RI k (sR M q)) (hw : w < 8) : Ct E yX4_skipWord cX4_skipWord 2 ((some .boolean)) (rmH 6) [vr (6, 0, 0), vr (2, w, 0)] M N (qi (fun r M1 N1 => (r, sR M1 q) = pW b w (sR M q) ∧ Rf q M M1 ∧ N = N1)) := by
  refine ct_of (own := RX4) (L0 := [vr (6, 0, 0), vr (2, w, 0)]) rfl (by decide +kernel) rfl rfl ?_
  refine go_aload_n dX4_skipWord_0 rfl rfl ?_
  refine go_aload_n dX4_skipWord_1 rfl rfl ?_
  refine v4_67 dX4_skipWord_2 rfl ⟨rfl, rfl⟩ ⟨rfl, rfl⟩ (ct_X4_reads hE hw hH.1 hI.1.2.1 hI.1.2.2.1 hI.1.1.2.1 hI.1.1.2.2) (fun r1 M1 N1 hr1 hq1 => ?_)
  obtain ⟨z1, rfl, rfl⟩ := hq1
  have w1 := rd_if (R := M (6, 0, 0)) z1
  rw [hH.2.2] at w1
  refine go_if_ne (tgt := 18) dX4_skipWord_5 rfl (fun h5 => ?_) (fun h5 => ?_)
  · refine go_aload_n dX4_skipWord_18 rfl rfl ?_
    refine v4_40 dX4_skipWord_19 rfl ⟨rfl, rfl⟩ ⟨rfl, rfl⟩ (ct_X4_advance (rd_O hH hI).1 (rd_O hH hI).2.1 (rd_O hH hI).2.2.1 (rd_O hH hI).2.2.2) (fun M3 N3 hq3 => ?_)
    refine go_iconst dX4_skipWord_22 (R32_lit rfl) ?_
    refine go_retz dX4_skipWord_23 (by first | exact Or.inl rfl | exact Or.inr rfl | omega) ?_
    obtain ⟨y2, y3, rfl⟩ := hq3
    refine ⟨?_, y3.Rf, rfl⟩
    unfold pW
    rw [if_pos (show wdR b (sR M q).1 w = true from w1.elim (fun q => q.1) (fun q => absurd q.2 (by omega))), sR_Z y2 y3, hH.2.2]
    rfl
  · refine go_aload_n dX4_skipWord_8 rfl rfl ?_
    refine go_iconst dX4_skipWord_9 (R32_lit rfl) ?_
    refine go_aload_n dX4_skipWord_10 rfl rfl ?_
    refine g4_54 dX4_skipWord_11 ?_
    refine v4_57 dX4_skipWord_14 rfl ⟨rfl, rfl⟩ ⟨rfl, rfl⟩ ct_X4_fail (fun r2 M2 N2 hr2 hq2 => ?_)
    refine go_retz dX4_skipWord_17 (by first | exact Or.inl rfl | exact Or.inr rfl | omega) ?_
    obtain ⟨y1, y2, y3, rfl⟩ := hq2
    refine ⟨?_, y3.Rf, rfl⟩
    unfold pW
    rw [if_neg (show ¬ wdR b (sR M q).1 w = true from w1.elim (fun q => absurd q.2 (by omega)) (fun q => by rw [show (sR M _).1 = M (6, 0, 0) from rfl, q.1]; decide)), sR_Z y2 y3, y1]
    rfl
set_option maxRecDepth 100000 in
set_option maxHeartbeats 4000000 in
theorem ct_X4_readOperand {E : Ev} {M : Mm} {N : Nn} {q : Nat} {k : Int} {b : Int → Int} (hN : EN E) (hE : ES E) (hH : RH M N q b) (hI : RI k (sR M q)) (h15 : pgC M q 11 0 < 15) (k0 : 0 ≤ k) (k1 : k < 4) : Ct E yX4_readOperand cX4_readOperand 3 ((some .boolean)) (rmH 7) [vr (6, 0, 0), vi k] M N (qi (fun r M1 N1 => (r, sR M1 q) = pOp b k (sR M q) ∧ Rf q M M1 ∧ N = N1)) := by
  refine ct_of (own := RX4) (L0 := [vr (6, 0, 0), vi k, vn]) rfl (by decide +kernel) rfl rfl ?_
  refine go_aload_n dX4_readOperand_0 rfl rfl ?_
  refine v4_136 dX4_readOperand_1 rfl ⟨rfl, rfl⟩ ⟨rfl, rfl⟩ (ct_X4_seesName hE hH hI) (fun r1 M1 N1 hr1 hq1 => ?_)
  obtain ⟨z1, rfl, rfl⟩ := hq1
  refine go_if_ne (tgt := 32) dX4_readOperand_4 rfl (fun h4 => ?_) (fun h4 => ?_)
  · have sb : snb b (sR M q).1 = true := (b1_iff z1).mp h4
    refine go_aload_n dX4_readOperand_32 rfl rfl ?_
    refine g4_19 dX4_readOperand_33 ?_
    rw [hH.2.1]
    refine go_aload_n dX4_readOperand_36 rfl rfl ?_
    refine g4_129 dX4_readOperand_37 ?_
    refine v4_139 dX4_readOperand_40 rfl ⟨rfl, rfl⟩ ⟨rfl, rfl⟩ (ct_X3_named (p := q) hI.2.1.1 hI.2.1.2.1) (fun r3 M3 N3 hr3 hq3 => ?_)
    have e3 := cv_nd (q := q) hI.2.1.1 hq3
    obtain ⟨-, rfl, rfl⟩ := hq3
    refine go_ist2 dX4_readOperand_43 rfl rfl ?_
    refine go_iload_n dX4_readOperand_44 rfl ?_
    refine go_iconst dX4_readOperand_45 (R32_lit rfl) ?_
    refine go_icmp_ne (tgt := 59) dX4_readOperand_46 rfl (fun h46 => ?_) (fun h46 => ?_)
    · refine go_aload_n dX4_readOperand_59 rfl rfl ?_
      refine g4_19 dX4_readOperand_60 ?_
      rw [hH.2.1]
      refine go_iload_n dX4_readOperand_63 rfl ?_
      refine go_iload_n dX4_readOperand_64 rfl ?_
      refine go_iconst dX4_readOperand_65 (R32_lit rfl) ?_
      refine v4_143 dX4_readOperand_66 rfl ⟨rfl, rfl⟩ ⟨rfl, rfl⟩ (ct_X3_tellOperand (p := q) ⟨hI.2.1.1, h15⟩ k0 k1) (fun M6 N6 hq6 => ?_)
      obtain ⟨g6, h6, rfl⟩ := hq6
      have s6 : M6 (6, 0, 0) = M (6, 0, 0) := congrArg Prod.fst (sR_P g6 h6)
      have I6 : rdA (M6 (6, 0, 0)) := by rw [s6]; exact hI.1.1
      have H6 := hH.nx h6.Rf
      refine go_aload_n dX4_readOperand_69 rfl rfl ?_
      refine v4_40 dX4_readOperand_70 rfl ⟨rfl, rfl⟩ ⟨rfl, rfl⟩ (ct_X4_advance H6.1 I6.1 I6.2.1 I6.2.2) (fun M7 N7 hq7 => ?_)
      refine go_iconst dX4_readOperand_73 (R32_lit rfl) ?_
      refine go_retz dX4_readOperand_74 (by first | exact Or.inl rfl | exact Or.inr rfl | omega) ?_
      obtain ⟨y2, y3, rfl⟩ := hq7
      refine ⟨?_, h6.Rf.tr y3.Rf, rfl⟩
      unfold pOp
      rw [if_pos sb, if_neg (show ¬ nmF (sR M q).2 ((sR M q).1 8) = -1 from fun z => h46 (e3.trans z)), sR_Z y2 y3, g6, H6.2.2, s6, e3]
      rfl
    · refine go_aload_n dX4_readOperand_49 rfl rfl ?_
      refine go_iconst dX4_readOperand_50 (R32_lit rfl) ?_
      refine go_aload_n dX4_readOperand_51 rfl rfl ?_
      refine g4_54 dX4_readOperand_52 ?_
      refine v4_57 dX4_readOperand_55 rfl ⟨rfl, rfl⟩ ⟨rfl, rfl⟩ ct_X4_fail (fun r5 M5 N5 hr5 hq5 => ?_)
      refine go_retz dX4_readOperand_58 (by first | exact Or.inl rfl | exact Or.inr rfl | omega) ?_
      obtain ⟨y1, y2, y3, rfl⟩ := hq5
      refine ⟨?_, y3.Rf, rfl⟩
      unfold pOp
      rw [if_pos sb, if_pos (show nmF (sR M q).2 ((sR M q).1 8) = -1 from by rw [← h46]; exact e3.symm), sR_Z y2 y3, y1]
      rfl
  · have sn : ¬ snb b (sR M q).1 = true := fun z => (b1_iff z1).mpr z h4
    refine go_aload_n dX4_readOperand_7 rfl rfl ?_
    refine v4_96 dX4_readOperand_8 rfl ⟨rfl, rfl⟩ ⟨rfl, rfl⟩ (ct_X4_readNumber hN (rd_O hH hI)) (fun r2 M2 N2 hr2 hq2 => ?_)
    obtain ⟨g1, g2, rfl⟩ := hq2
    obtain ⟨e2, f2⟩ := cv_nm (q := q) hH.2.2 ⟨g1, g2⟩
    refine go_if_ne (tgt := 16) dX4_readOperand_11 rfl (fun h11 => ?_) (fun h11 => ?_)
    · obtain ⟨a2, I2, K2, E2, v2, v3⟩ := nx_nm hI e2 h11
      have H2 := hH.nx f2
      refine go_aload_n dX4_readOperand_16 rfl rfl ?_
      refine g4_19 dX4_readOperand_17 ?_
      rw [hH.2.1]
      refine go_iload_n dX4_readOperand_20 rfl ?_
      refine go_bipush dX4_readOperand_21 ⟨by decide, by decide⟩ ?_
      refine go_aload_n dX4_readOperand_23 rfl rfl ?_
      refine g4_99 dX4_readOperand_24 ?_
      refine v4_143 dX4_readOperand_27 rfl ⟨rfl, rfl⟩ ⟨rfl, rfl⟩ (ct_X3_tellOperand (p := q) ⟨I2.2.1.1, by rw [show pgC M2 q = pgC M q from E2]; exact h15⟩ k0 k1) (fun M4 N4 hq4 => ?_)
      refine go_iconst dX4_readOperand_30 (R32_lit rfl) ?_
      refine go_retz dX4_readOperand_31 (by first | exact Or.inl rfl | exact Or.inr rfl | omega) ?_
      obtain ⟨g4, h4, rfl⟩ := hq4
      refine ⟨?_, f2.tr h4.Rf, rfl⟩
      unfold pOp
      rw [if_neg sn, ← e2, bnd_p1 h11, sR_P g4 h4]
      rfl
    · refine go_iconst dX4_readOperand_14 (R32_lit rfl) ?_
      refine go_retz dX4_readOperand_15 (by first | exact Or.inl rfl | exact Or.inr rfl | omega) ?_
      refine ⟨?_, f2, rfl⟩
      unfold pOp
      rw [if_neg sn, ← e2, bnd_p0 h11]
set_option maxRecDepth 100000 in
set_option maxHeartbeats 4000000 in
theorem ct_X4_readNewName {E : Ev} {M : Mm} {N : Nn} {q : Nat} {k : Int} {b : Int → Int} (hE : ES E) (hH : RH M N q b) (hI : RI k (sR M q)) : Ct E yX4_readNewName cX4_readNewName 1 ((some .boolean)) (rmH 7) [vr (6, 0, 0)] M N (qi (fun r M1 N1 => (r, sR M1 q) = pNw b (sR M q) ∧ Rf q M M1 ∧ N = N1)) := by
  refine ct_of (own := RX4) (L0 := [vr (6, 0, 0)]) rfl (by decide +kernel) rfl rfl ?_
  refine go_aload_n dX4_readNewName_0 rfl rfl ?_
  refine v4_136 dX4_readNewName_1 rfl ⟨rfl, rfl⟩ ⟨rfl, rfl⟩ (ct_X4_seesName hE hH hI) (fun r1 M1 N1 hr1 hq1 => ?_)
  obtain ⟨z1, rfl, rfl⟩ := hq1
  refine go_if_ne (tgt := 17) dX4_readNewName_4 rfl (fun h4 => ?_) (fun h4 => ?_)
  · have sb : snb b (sR M q).1 = true := (b1_iff z1).mp h4
    refine go_aload_n dX4_readNewName_17 rfl rfl ?_
    refine g4_19 dX4_readNewName_18 ?_
    rw [hH.2.1]
    refine go_aload_n dX4_readNewName_21 rfl rfl ?_
    refine g4_129 dX4_readNewName_22 ?_
    refine v4_139 dX4_readNewName_25 rfl ⟨rfl, rfl⟩ ⟨rfl, rfl⟩ (ct_X3_named (p := q) hI.2.1.1 hI.2.1.2.1) (fun r3 M3 N3 hr3 hq3 => ?_)
    have e3 := cv_nd (q := q) hI.2.1.1 hq3
    obtain ⟨-, rfl, rfl⟩ := hq3
    refine go_iconst dX4_readNewName_28 (R32_lit rfl) ?_
    refine go_icmp_eq (tgt := 42) dX4_readNewName_29 rfl (fun h29 => ?_) (fun h29 => ?_)
    · refine go_aload_n dX4_readNewName_42 rfl rfl ?_
      refine go_aload_n dX4_readNewName_43 rfl rfl ?_
      refine g4_129 dX4_readNewName_44 ?_
      refine p4_110 dX4_readNewName_47 ?_
      refine go_nmM (fun Mc eMc => ?_)
      have hZ : Zf M Mc := by rw [eMc]; exact Zf.rf.w6
      have s6 : Mc (6, 0, 0) = upI (M (6, 0, 0)) 11 (M (6, 0, 0) 8) := by rw [eMc, upI_wr]
      have I6 : rdA (Mc (6, 0, 0)) := by rw [s6]; exact rdA_up hI.1.1 (by decide) (by decide)
      have H6 := hH.nx (hZ.Rf (q := q))
      clear eMc
      refine go_aload_n dX4_readNewName_50 rfl rfl ?_
      refine v4_40 dX4_readNewName_51 rfl ⟨rfl, rfl⟩ ⟨rfl, rfl⟩ (ct_X4_advance H6.1 I6.1 I6.2.1 I6.2.2) (fun M5 N5 hq5 => ?_)
      refine go_iconst dX4_readNewName_54 (R32_lit rfl) ?_
      refine go_retz dX4_readNewName_55 (by first | exact Or.inl rfl | exact Or.inr rfl | omega) ?_
      obtain ⟨y2, y3, rfl⟩ := hq5
      refine ⟨?_, hZ.Rf.tr y3.Rf, rfl⟩
      unfold pNw
      rw [if_pos sb, if_pos (show nmF (sR M q).2 ((sR M q).1 8) = -1 from by rw [← h29]; exact e3.symm), sR_Z y2 y3, H6.2.2, s6, hZ.pg]
      rfl
    · refine go_aload_n dX4_readNewName_32 rfl rfl ?_
      refine go_iconst dX4_readNewName_33 (R32_lit rfl) ?_
      refine go_aload_n dX4_readNewName_34 rfl rfl ?_
      refine g4_54 dX4_readNewName_35 ?_
      refine v4_57 dX4_readNewName_38 rfl ⟨rfl, rfl⟩ ⟨rfl, rfl⟩ ct_X4_fail (fun r4 M4 N4 hr4 hq4 => ?_)
      refine go_retz dX4_readNewName_41 (by first | exact Or.inl rfl | exact Or.inr rfl | omega) ?_
      obtain ⟨y1, y2, y3, rfl⟩ := hq4
      refine ⟨?_, y3.Rf, rfl⟩
      unfold pNw
      rw [if_pos sb, if_neg (show ¬ nmF (sR M q).2 ((sR M q).1 8) = -1 from fun z => h29 (e3.trans z)), sR_Z y2 y3, y1]
      rfl
  · have sn : ¬ snb b (sR M q).1 = true := fun z => (b1_iff z1).mpr z h4
    refine go_aload_n dX4_readNewName_7 rfl rfl ?_
    refine go_iconst dX4_readNewName_8 (R32_lit rfl) ?_
    refine go_aload_n dX4_readNewName_9 rfl rfl ?_
    refine g4_54 dX4_readNewName_10 ?_
    refine v4_57 dX4_readNewName_13 rfl ⟨rfl, rfl⟩ ⟨rfl, rfl⟩ ct_X4_fail (fun r2 M2 N2 hr2 hq2 => ?_)
    refine go_retz dX4_readNewName_16 (by first | exact Or.inl rfl | exact Or.inr rfl | omega) ?_
    obtain ⟨y1, y2, y3, rfl⟩ := hq2
    refine ⟨?_, y3.Rf, rfl⟩
    unfold pNw
    rw [if_neg sn, sR_Z y2 y3, y1]
    rfl
set_option maxRecDepth 100000 in
set_option maxHeartbeats 4000000 in
theorem ct_X4_readSum {E : Ev} {M : Mm} {N : Nn} {q : Nat} {b : Int → Int} (hN : EN E) (hE : ES E) (hH : RH M N q b) (hI : RI 0 (sR M q)) (h15 : pgC M q 11 0 < 15) : Ct E yX4_readSum cX4_readSum 1 ((some .boolean)) (rmH 8) [vr (6, 0, 0)] M N (qi (fun r M1 N1 => (r, sR M1 q) = pSm b (sR M q) ∧ Rf q M M1 ∧ N = N1)) := by
  refine ct_of (own := RX4) (L0 := [vr (6, 0, 0)]) rfl (by decide +kernel) rfl rfl ?_
  refine go_aload_n dX4_readSum_0 rfl rfl ?_
  refine go_iconst dX4_readSum_1 (R32_lit rfl) ?_
  refine v4_120 dX4_readSum_2 rfl ⟨rfl, rfl⟩ ⟨rfl, rfl⟩ (ct_X4_readOperand hN hE hH hI h15 (by decide) (by decide)) (fun r1 M1 N1 hr1 hq1 => ?_)
  obtain ⟨e1, f1, rfl⟩ := hq1
  refine go_if_ne (tgt := 10) dX4_readSum_5 rfl (fun h5 => ?_) (fun h5 => ?_)
  · obtain ⟨a1, I1, K1⟩ := nx_op hI e1 h5
    have I1 : RI 1 (sR M1 q) := I1
    have H1 := hH.nx f1
    refine go_aload_n dX4_readSum_10 rfl rfl ?_
    refine g4_47 dX4_readSum_11 ?_
    refine go_bipush dX4_readSum_14 ⟨by decide, by decide⟩ ?_
    refine go_icmp_ne (tgt := 27) dX4_readSum_16 rfl (fun h16 => ?_) (fun h16 => ?_)
    · refine go_aload_n dX4_readSum_27 rfl rfl ?_
      refine g4_47 dX4_readSum_28 ?_
      refine go_bipush dX4_readSum_31 ⟨by decide, by decide⟩ ?_
      refine go_icmp_ne (tgt := 44) dX4_readSum_33 rfl (fun h33 => ?_) (fun h33 => ?_)
      · refine go_aload_n dX4_readSum_44 rfl rfl ?_
        refine g4_47 dX4_readSum_45 ?_
        refine go_bipush dX4_readSum_48 ⟨by decide, by decide⟩ ?_
        refine go_icmp_ne (tgt := 61) dX4_readSum_50 rfl (fun h50 => ?_) (fun h50 => ?_)
        · refine go_aload_n dX4_readSum_61 rfl rfl ?_
          refine go_iconst dX4_readSum_62 (R32_lit rfl) ?_
          refine go_aload_n dX4_readSum_63 rfl rfl ?_
          refine g4_54 dX4_readSum_64 ?_
          refine v4_57 dX4_readSum_67 rfl ⟨rfl, rfl⟩ ⟨rfl, rfl⟩ ct_X4_fail (fun r2 M2 N2 hr2 hq2 => ?_)
          refine go_retz dX4_readSum_70 (by first | exact Or.inl rfl | exact Or.inr rfl | omega) ?_
          obtain ⟨y1, y2, y3, rfl⟩ := hq2
          refine ⟨?_, f1.tr y3.Rf, rfl⟩
          unfold pSm
          rw [← e1, bnd_p1 h5, if_neg (show ¬ ((sR M1 q).1 5 = 43 ∨ (sR M1 q).1 5 = 45 ∨ (sR M1 q).1 5 = 42) from by show ¬ (M1 (6, 0, 0) 5 = 43 ∨ M1 (6, 0, 0) 5 = 45 ∨ M1 (6, 0, 0) 5 = 42); omega), sR_Z y2 y3, y1]
          rfl
        · refine go_aload_n dX4_readSum_53 rfl rfl ?_
          refine go_iconst dX4_readSum_54 (R32_lit rfl) ?_
          refine p4_117 dX4_readSum_55 ?_
          refine go_goto (tgt := 71) dX4_readSum_58 rfl ?_
          refine go_nmM (fun Mc eMc => ?_)
          have hZ : Zf M1 Mc := by rw [eMc]; exact Zf.rf.w6
          have s6 : Mc (6, 0, 0) = upI (M1 (6, 0, 0)) 12 (byC (M1 (6, 0, 0) 5)) := by
            rw [eMc, upI_wr]
            unfold byC
            first
            | (rw [if_pos (by omega)]; done)
            | (rw [if_neg (by omega), if_pos (by omega)]; done)
            | (rw [if_neg (by omega), if_neg (by omega)]; done)
          have c6 : (sR M1 q).1 5 = 43 ∨ (sR M1 q).1 5 = 45 ∨ (sR M1 q).1 5 = 42 := by show M1 (6, 0, 0) 5 = 43 ∨ M1 (6, 0, 0) 5 = 45 ∨ M1 (6, 0, 0) 5 = 42; omega
          have I6 : rdA (Mc (6, 0, 0)) := by rw [s6]; exact rdA_up I1.1.1 (by decide) (by decide)
          have H6 := H1.nx (hZ.Rf (q := q))
          clear eMc
          refine go_aload_n dX4_readSum_71 rfl rfl ?_
          refine v4_40 dX4_readSum_72 rfl ⟨rfl, rfl⟩ ⟨rfl, rfl⟩ (ct_X4_advance H6.1 I6.1 I6.2.1 I6.2.2) (fun M3 N3 hq3 => ?_)
          obtain ⟨y2, y3, rfl⟩ := hq3
          have s3 := sR_Z (q := q) y2 y3
          rw [H6.2.2, s6, hZ.pg] at s3
          have s3 : sR M3 q = (adR b (upI (sR M1 q).1 12 (byC ((sR M1 q).1 5))), (sR M1 q).2) := s3
          have I3 : RI 1 (sR M3 q) := by rw [s3]; exact ⟨adR_B (rdA_up I1.1.1 (by decide) (by decide)), I1.2⟩
          have H3 := H6.nx (y3.Rf (q := q))
          refine go_aload_n dX4_readSum_75 rfl rfl ?_
          refine go_iconst dX4_readSum_76 (R32_lit rfl) ?_
          refine v4_120 dX4_readSum_77 rfl ⟨rfl, rfl⟩ ⟨rfl, rfl⟩ (ct_X4_readOperand hN hE H3 I3 (by rw [show pgC M3 q = pgC M1 q from congrArg Prod.snd s3, show pgC M1 q 11 0 = pgC M q 11 0 from K1.1]; exact h15) (by decide) (by decide)) (fun r4 M4 N4 hr4 hq4 => ?_)
          obtain ⟨e4, f4, rfl⟩ := hq4
          have z4 := pOp_01 (b := b) I3
          rw [← e4] at z4
          have z4 : r4 = 0 ∨ r4 = 1 := z4
          refine go_retz dX4_readSum_80 (by first | exact Or.inl rfl | exact Or.inr rfl | omega) ?_
          refine ⟨?_, ((f1.tr hZ.Rf).tr y3.Rf).tr f4, rfl⟩
          unfold pSm
          rw [← e1, bnd_p1 h5, if_pos c6, ← s3]
          exact e4
      · refine go_aload_n dX4_readSum_36 rfl rfl ?_
        refine go_iconst dX4_readSum_37 (R32_lit rfl) ?_
        refine p4_117 dX4_readSum_38 ?_
        refine go_goto (tgt := 71) dX4_readSum_41 rfl ?_
        refine go_nmM (fun Mc eMc => ?_)
        have hZ : Zf M1 Mc := by rw [eMc]; exact Zf.rf.w6
        have s6 : Mc (6, 0, 0) = upI (M1 (6, 0, 0)) 12 (byC (M1 (6, 0, 0) 5)) := by
          rw [eMc, upI_wr]
          unfold byC
          first
          | (rw [if_pos (by omega)]; done)
          | (rw [if_neg (by omega), if_pos (by omega)]; done)
          | (rw [if_neg (by omega), if_neg (by omega)]; done)
        have c6 : (sR M1 q).1 5 = 43 ∨ (sR M1 q).1 5 = 45 ∨ (sR M1 q).1 5 = 42 := by show M1 (6, 0, 0) 5 = 43 ∨ M1 (6, 0, 0) 5 = 45 ∨ M1 (6, 0, 0) 5 = 42; omega
        have I6 : rdA (Mc (6, 0, 0)) := by rw [s6]; exact rdA_up I1.1.1 (by decide) (by decide)
        have H6 := H1.nx (hZ.Rf (q := q))
        clear eMc
        refine go_aload_n dX4_readSum_71 rfl rfl ?_
        refine v4_40 dX4_readSum_72 rfl ⟨rfl, rfl⟩ ⟨rfl, rfl⟩ (ct_X4_advance H6.1 I6.1 I6.2.1 I6.2.2) (fun M3 N3 hq3 => ?_)
        obtain ⟨y2, y3, rfl⟩ := hq3
        have s3 := sR_Z (q := q) y2 y3
        rw [H6.2.2, s6, hZ.pg] at s3
        have s3 : sR M3 q = (adR b (upI (sR M1 q).1 12 (byC ((sR M1 q).1 5))), (sR M1 q).2) := s3
        have I3 : RI 1 (sR M3 q) := by rw [s3]; exact ⟨adR_B (rdA_up I1.1.1 (by decide) (by decide)), I1.2⟩
        have H3 := H6.nx (y3.Rf (q := q))
        refine go_aload_n dX4_readSum_75 rfl rfl ?_
        refine go_iconst dX4_readSum_76 (R32_lit rfl) ?_
        refine v4_120 dX4_readSum_77 rfl ⟨rfl, rfl⟩ ⟨rfl, rfl⟩ (ct_X4_readOperand hN hE H3 I3 (by rw [show pgC M3 q = pgC M1 q from congrArg Prod.snd s3, show pgC M1 q 11 0 = pgC M q 11 0 from K1.1]; exact h15) (by decide) (by decide)) (fun r4 M4 N4 hr4 hq4 => ?_)
        obtain ⟨e4, f4, rfl⟩ := hq4
        have z4 := pOp_01 (b := b) I3
        rw [← e4] at z4
        have z4 : r4 = 0 ∨ r4 = 1 := z4
        refine go_retz dX4_readSum_80 (by first | exact Or.inl rfl | exact Or.inr rfl | omega) ?_
        refine ⟨?_, ((f1.tr hZ.Rf).tr y3.Rf).tr f4, rfl⟩
        unfold pSm
        rw [← e1, bnd_p1 h5, if_pos c6, ← s3]
        exact e4
    · refine go_aload_n dX4_readSum_19 rfl rfl ?_
      refine go_iconst dX4_readSum_20 (R32_lit rfl) ?_
      refine p4_117 dX4_readSum_21 ?_
      refine go_goto (tgt := 71) dX4_readSum_24 rfl ?_
      refine go_nmM (fun Mc eMc => ?_)
      have hZ : Zf M1 Mc := by rw [eMc]; exact Zf.rf.w6
      have s6 : Mc (6, 0, 0) = upI (M1 (6, 0, 0)) 12 (byC (M1 (6, 0, 0) 5)) := by
        rw [eMc, upI_wr]
        unfold byC
        first
        | (rw [if_pos (by omega)]; done)
        | (rw [if_neg (by omega), if_pos (by omega)]; done)
        | (rw [if_neg (by omega), if_neg (by omega)]; done)
      have c6 : (sR M1 q).1 5 = 43 ∨ (sR M1 q).1 5 = 45 ∨ (sR M1 q).1 5 = 42 := by show M1 (6, 0, 0) 5 = 43 ∨ M1 (6, 0, 0) 5 = 45 ∨ M1 (6, 0, 0) 5 = 42; omega
      have I6 : rdA (Mc (6, 0, 0)) := by rw [s6]; exact rdA_up I1.1.1 (by decide) (by decide)
      have H6 := H1.nx (hZ.Rf (q := q))
      clear eMc
      refine go_aload_n dX4_readSum_71 rfl rfl ?_
      refine v4_40 dX4_readSum_72 rfl ⟨rfl, rfl⟩ ⟨rfl, rfl⟩ (ct_X4_advance H6.1 I6.1 I6.2.1 I6.2.2) (fun M3 N3 hq3 => ?_)
      obtain ⟨y2, y3, rfl⟩ := hq3
      have s3 := sR_Z (q := q) y2 y3
      rw [H6.2.2, s6, hZ.pg] at s3
      have s3 : sR M3 q = (adR b (upI (sR M1 q).1 12 (byC ((sR M1 q).1 5))), (sR M1 q).2) := s3
      have I3 : RI 1 (sR M3 q) := by rw [s3]; exact ⟨adR_B (rdA_up I1.1.1 (by decide) (by decide)), I1.2⟩
      have H3 := H6.nx (y3.Rf (q := q))
      refine go_aload_n dX4_readSum_75 rfl rfl ?_
      refine go_iconst dX4_readSum_76 (R32_lit rfl) ?_
      refine v4_120 dX4_readSum_77 rfl ⟨rfl, rfl⟩ ⟨rfl, rfl⟩ (ct_X4_readOperand hN hE H3 I3 (by rw [show pgC M3 q = pgC M1 q from congrArg Prod.snd s3, show pgC M1 q 11 0 = pgC M q 11 0 from K1.1]; exact h15) (by decide) (by decide)) (fun r4 M4 N4 hr4 hq4 => ?_)
      obtain ⟨e4, f4, rfl⟩ := hq4
      have z4 := pOp_01 (b := b) I3
      rw [← e4] at z4
      have z4 : r4 = 0 ∨ r4 = 1 := z4
      refine go_retz dX4_readSum_80 (by first | exact Or.inl rfl | exact Or.inr rfl | omega) ?_
      refine ⟨?_, ((f1.tr hZ.Rf).tr y3.Rf).tr f4, rfl⟩
      unfold pSm
      rw [← e1, bnd_p1 h5, if_pos c6, ← s3]
      exact e4
  · refine go_iconst dX4_readSum_8 (R32_lit rfl) ?_
    refine go_retz dX4_readSum_9 (by first | exact Or.inl rfl | exact Or.inr rfl | omega) ?_
    refine ⟨?_, f1, rfl⟩
    unfold pSm
    rw [← e1, bnd_p0 h5]
set_option maxRecDepth 100000 in
set_option maxHeartbeats 4000000 in
theorem ct_X4_readPick {E : Ev} {M : Mm} {N : Nn} {q : Nat} {b : Int → Int} (hN : EN E) (hE : ES E) (hH : RH M N q b) (hI : RI 0 (sR M q)) (h15 : pgC M q 11 0 < 15) : Ct E yX4_readPick cX4_readPick 1 ((some .boolean)) (rmH 8) [vr (6, 0, 0)] M N (qi (fun r M1 N1 => (r, sR M1 q) = pPk b (sR M q) ∧ Rf q M M1 ∧ N = N1)) := by
  refine ct_of (own := RX4) (L0 := [vr (6, 0, 0)]) rfl (by decide +kernel) rfl rfl ?_
  refine go_aload_n dX4_readPick_0 rfl rfl ?_
  refine go_iconst dX4_readPick_1 (R32_lit rfl) ?_
  refine p4_117 dX4_readPick_2 ?_
  refine go_nmM (fun Mc eMc => ?_)
  have hZ : Zf M Mc := by rw [eMc]; exact Zf.rf.w6
  have s6 : Mc (6, 0, 0) = upI (M (6, 0, 0)) 12 3 := by rw [eMc, upI_wr]
  have I6 : rdA (Mc (6, 0, 0)) := by rw [s6]; exact rdA_up hI.1.1 (by decide) (by decide)
  have H6 := hH.nx (hZ.Rf (q := q))
  clear eMc
  refine go_aload_n dX4_readPick_5 rfl rfl ?_
  refine v4_40 dX4_readPick_6 rfl ⟨rfl, rfl⟩ ⟨rfl, rfl⟩ (ct_X4_advance H6.1 I6.1 I6.2.1 I6.2.2) (fun M0 N0 hq0 => ?_)
  obtain ⟨y2, y3, rfl⟩ := hq0
  have s0 := sR_Z (q := q) y2 y3
  rw [H6.2.2, s6, hZ.pg] at s0
  have s0 : sR M0 q = (adR b (upI (sR M q).1 12 3), (sR M q).2) := s0
  have I0 : RI 0 (sR M0 q) := by rw [s0]; exact ⟨adR_B (rdA_up hI.1.1 (by decide) (by decide)), hI.2⟩
  have f0 : Rf q M M0 := hZ.Rf.tr y3.Rf
  have H0 := hH.nx f0
  have c0 : pgC M0 q 11 0 < 15 := by rw [show pgC M0 q = pgC M q from congrArg Prod.snd s0]; exact h15
  refine go_aload_n dX4_readPick_9 rfl rfl ?_
  refine go_iconst dX4_readPick_10 (R32_lit rfl) ?_
  refine v4_120 dX4_readPick_11 rfl ⟨rfl, rfl⟩ ⟨rfl, rfl⟩ (ct_X4_readOperand hN hE H0 I0 c0 (by decide) (by decide)) (fun r1 M1 N1 hr1 hq1 => ?_)
  obtain ⟨e1, f1, rfl⟩ := hq1
  refine go_if_eq (tgt := 72) dX4_readPick_14 rfl (fun h14 => ?_) (fun h14 => ?_)
  · refine go_iconst dX4_readPick_72 (R32_lit rfl) ?_
    refine go_retz dX4_readPick_73 (by first | exact Or.inl rfl | exact Or.inr rfl | omega) ?_
    first
    | (refine ⟨?_, (((((((f0.tr f1).tr f2).tr f3).tr f4).tr f5).tr f6).tr f7), rfl⟩
       unfold pPk
       rw [← s0, ← e1, bnd_p1 h14, ← e2, bnd_p1 h23, ← e3, bnd_p1 h31, ← e4, bnd_p1 h40, ← e5, bnd_p1 h48, ← e6, bnd_p1 h57, ← e7, a7])
    | (refine ⟨?_, (((((((f0.tr f1).tr f2).tr f3).tr f4).tr f5).tr f6).tr f7), rfl⟩
       unfold pPk
       rw [← s0, ← e1, bnd_p1 h14, ← e2, bnd_p1 h23, ← e3, bnd_p1 h31, ← e4, bnd_p1 h40, ← e5, bnd_p1 h48, ← e6, bnd_p1 h57, ← e7, h65])
    | (refine ⟨?_, ((((((f0.tr f1).tr f2).tr f3).tr f4).tr f5).tr f6), rfl⟩
       unfold pPk
       rw [← s0, ← e1, bnd_p1 h14, ← e2, bnd_p1 h23, ← e3, bnd_p1 h31, ← e4, bnd_p1 h40, ← e5, bnd_p1 h48, ← e6, bnd_p0 h57])
    | (refine ⟨?_, (((((f0.tr f1).tr f2).tr f3).tr f4).tr f5), rfl⟩
       unfold pPk
       rw [← s0, ← e1, bnd_p1 h14, ← e2, bnd_p1 h23, ← e3, bnd_p1 h31, ← e4, bnd_p1 h40, ← e5, bnd_p0 h48])
    | (refine ⟨?_, ((((f0.tr f1).tr f2).tr f3).tr f4), rfl⟩
       unfold pPk
       rw [← s0, ← e1, bnd_p1 h14, ← e2, bnd_p1 h23, ← e3, bnd_p1 h31, ← e4, bnd_p0 h40])
    | (refine ⟨?_, (((f0.tr f1).tr f2).tr f3), rfl⟩
       unfold pPk
       rw [← s0, ← e1, bnd_p1 h14, ← e2, bnd_p1 h23, ← e3, bnd_p0 h31])
    | (refine ⟨?_, ((f0.tr f1).tr f2), rfl⟩
       unfold pPk
       rw [← s0, ← e1, bnd_p1 h14, ← e2, bnd_p0 h23])
    | (refine ⟨?_, (f0.tr f1), rfl⟩
       unfold pPk
       rw [← s0, ← e1, bnd_p0 h14])
  · obtain ⟨a1, I1, K1⟩ := nx_op I0 e1 h14
    have I1 : RI 1 (sR M1 q) := I1
    have H1 := H0.nx f1
    have c1 : pgC M1 q 11 0 < 15 := by rw [show pgC M1 q 11 0 = pgC M0 q 11 0 from K1.1]; exact c0
    refine go_aload_n dX4_readPick_17 rfl rfl ?_
    refine go_bipush dX4_readPick_18 ⟨by decide, by decide⟩ ?_
    refine v4_61 dX4_readPick_20 rfl ⟨rfl, rfl⟩ ⟨rfl, rfl⟩ (ct_X4_skipSign (rd_O H1 I1)) (fun r2 M2 N2 hr2 hq2 => ?_)
    obtain ⟨g2, g2', rfl⟩ := hq2
    obtain ⟨e2, f2⟩ := cv_sg (q := q) H1.2.2 ⟨g2, g2'⟩
    refine go_if_eq (tgt := 72) dX4_readPick_23 rfl (fun h23 => ?_) (fun h23 => ?_)
    · refine go_iconst dX4_readPick_72 (R32_lit rfl) ?_
      refine go_retz dX4_readPick_73 (by first | exact Or.inl rfl | exact Or.inr rfl | omega) ?_
      first
      | (refine ⟨?_, (((((((f0.tr f1).tr f2).tr f3).tr f4).tr f5).tr f6).tr f7), rfl⟩
         unfold pPk
         rw [← s0, ← e1, bnd_p1 h14, ← e2, bnd_p1 h23, ← e3, bnd_p1 h31, ← e4, bnd_p1 h40, ← e5, bnd_p1 h48, ← e6, bnd_p1 h57, ← e7, a7])
      | (refine ⟨?_, (((((((f0.tr f1).tr f2).tr f3).tr f4).tr f5).tr f6).tr f7), rfl⟩
         unfold pPk
         rw [← s0, ← e1, bnd_p1 h14, ← e2, bnd_p1 h23, ← e3, bnd_p1 h31, ← e4, bnd_p1 h40, ← e5, bnd_p1 h48, ← e6, bnd_p1 h57, ← e7, h65])
      | (refine ⟨?_, ((((((f0.tr f1).tr f2).tr f3).tr f4).tr f5).tr f6), rfl⟩
         unfold pPk
         rw [← s0, ← e1, bnd_p1 h14, ← e2, bnd_p1 h23, ← e3, bnd_p1 h31, ← e4, bnd_p1 h40, ← e5, bnd_p1 h48, ← e6, bnd_p0 h57])
      | (refine ⟨?_, (((((f0.tr f1).tr f2).tr f3).tr f4).tr f5), rfl⟩
         unfold pPk
         rw [← s0, ← e1, bnd_p1 h14, ← e2, bnd_p1 h23, ← e3, bnd_p1 h31, ← e4, bnd_p1 h40, ← e5, bnd_p0 h48])
      | (refine ⟨?_, ((((f0.tr f1).tr f2).tr f3).tr f4), rfl⟩
         unfold pPk
         rw [← s0, ← e1, bnd_p1 h14, ← e2, bnd_p1 h23, ← e3, bnd_p1 h31, ← e4, bnd_p0 h40])
      | (refine ⟨?_, (((f0.tr f1).tr f2).tr f3), rfl⟩
         unfold pPk
         rw [← s0, ← e1, bnd_p1 h14, ← e2, bnd_p1 h23, ← e3, bnd_p0 h31])
      | (refine ⟨?_, ((f0.tr f1).tr f2), rfl⟩
         unfold pPk
         rw [← s0, ← e1, bnd_p1 h14, ← e2, bnd_p0 h23])
      | (refine ⟨?_, (f0.tr f1), rfl⟩
         unfold pPk
         rw [← s0, ← e1, bnd_p0 h14])
    · obtain ⟨a2, I2, K2⟩ := nx_sg I1 e2 h23
      have I2 : RI 1 (sR M2 q) := I2
      have H2 := H1.nx f2
      have c2 : pgC M2 q 11 0 < 15 := by rw [show pgC M2 q 11 0 = pgC M1 q 11 0 from K2.1]; exact c1
      refine go_aload_n dX4_readPick_26 rfl rfl ?_
      refine go_iconst dX4_readPick_27 (R32_lit rfl) ?_
      refine v4_120 dX4_readPick_28 rfl ⟨rfl, rfl⟩ ⟨rfl, rfl⟩ (ct_X4_readOperand hN hE H2 I2 c2 (by decide) (by decide)) (fun r3 M3 N3 hr3 hq3 => ?_)
      obtain ⟨e3, f3, rfl⟩ := hq3
      refine go_if_eq (tgt := 72) dX4_readPick_31 rfl (fun h31 => ?_) (fun h31 => ?_)
      · refine go_iconst dX4_readPick_72 (R32_lit rfl) ?_
        refine go_retz dX4_readPick_73 (by first | exact Or.inl rfl | exact Or.inr rfl | omega) ?_
        first
        | (refine ⟨?_, (((((((f0.tr f1).tr f2).tr f3).tr f4).tr f5).tr f6).tr f7), rfl⟩
           unfold pPk
           rw [← s0, ← e1, bnd_p1 h14, ← e2, bnd_p1 h23, ← e3, bnd_p1 h31, ← e4, bnd_p1 h40, ← e5, bnd_p1 h48, ← e6, bnd_p1 h57, ← e7, a7])
        | (refine ⟨?_, (((((((f0.tr f1).tr f2).tr f3).tr f4).tr f5).tr f6).tr f7), rfl⟩
           unfold pPk
           rw [← s0, ← e1, bnd_p1 h14, ← e2, bnd_p1 h23, ← e3, bnd_p1 h31, ← e4, bnd_p1 h40, ← e5, bnd_p1 h48, ← e6, bnd_p1 h57, ← e7, h65])
        | (refine ⟨?_, ((((((f0.tr f1).tr f2).tr f3).tr f4).tr f5).tr f6), rfl⟩
           unfold pPk
           rw [← s0, ← e1, bnd_p1 h14, ← e2, bnd_p1 h23, ← e3, bnd_p1 h31, ← e4, bnd_p1 h40, ← e5, bnd_p1 h48, ← e6, bnd_p0 h57])
        | (refine ⟨?_, (((((f0.tr f1).tr f2).tr f3).tr f4).tr f5), rfl⟩
           unfold pPk
           rw [← s0, ← e1, bnd_p1 h14, ← e2, bnd_p1 h23, ← e3, bnd_p1 h31, ← e4, bnd_p1 h40, ← e5, bnd_p0 h48])
        | (refine ⟨?_, ((((f0.tr f1).tr f2).tr f3).tr f4), rfl⟩
           unfold pPk
           rw [← s0, ← e1, bnd_p1 h14, ← e2, bnd_p1 h23, ← e3, bnd_p1 h31, ← e4, bnd_p0 h40])
        | (refine ⟨?_, (((f0.tr f1).tr f2).tr f3), rfl⟩
           unfold pPk
           rw [← s0, ← e1, bnd_p1 h14, ← e2, bnd_p1 h23, ← e3, bnd_p0 h31])
        | (refine ⟨?_, ((f0.tr f1).tr f2), rfl⟩
           unfold pPk
           rw [← s0, ← e1, bnd_p1 h14, ← e2, bnd_p0 h23])
        | (refine ⟨?_, (f0.tr f1), rfl⟩
           unfold pPk
           rw [← s0, ← e1, bnd_p0 h14])
      · obtain ⟨a3, I3, K3⟩ := nx_op I2 e3 h31
        have I3 : RI 2 (sR M3 q) := I3
        have H3 := H2.nx f3
        have c3 : pgC M3 q 11 0 < 15 := by rw [show pgC M3 q 11 0 = pgC M2 q 11 0 from K3.1]; exact c2
        refine go_aload_n dX4_readPick_34 rfl rfl ?_
        refine s4_123 hE dX4_readPick_35 ?_
        refine v4_93 dX4_readPick_37 rfl ⟨rfl, rfl⟩ ⟨rfl, rfl⟩ (ct_X4_skipWord hE H3 I3 (by decide)) (fun r4 M4 N4 hr4 hq4 => ?_)
        obtain ⟨e4, f4, rfl⟩ := hq4
        refine go_if_eq (tgt := 72) dX4_readPick_40 rfl (fun h40 => ?_) (fun h40 => ?_)
        · refine go_iconst dX4_readPick_72 (R32_lit rfl) ?_
          refine go_retz dX4_readPick_73 (by first | exact Or.inl rfl | exact Or.inr rfl | omega) ?_
          first
          | (refine ⟨?_, (((((((f0.tr f1).tr f2).tr f3).tr f4).tr f5).tr f6).tr f7), rfl⟩
             unfold pPk
             rw [← s0, ← e1, bnd_p1 h14, ← e2, bnd_p1 h23, ← e3, bnd_p1 h31, ← e4, bnd_p1 h40, ← e5, bnd_p1 h48, ← e6, bnd_p1 h57, ← e7, a7])
          | (refine ⟨?_, (((((((f0.tr f1).tr f2).tr f3).tr f4).tr f5).tr f6).tr f7), rfl⟩
             unfold pPk
             rw [← s0, ← e1, bnd_p1 h14, ← e2, bnd_p1 h23, ← e3, bnd_p1 h31, ← e4, bnd_p1 h40, ← e5, bnd_p1 h48, ← e6, bnd_p1 h57, ← e7, h65])
          | (refine ⟨?_, ((((((f0.tr f1).tr f2).tr f3).tr f4).tr f5).tr f6), rfl⟩
             unfold pPk
             rw [← s0, ← e1, bnd_p1 h14, ← e2, bnd_p1 h23, ← e3, bnd_p1 h31, ← e4, bnd_p1 h40, ← e5, bnd_p1 h48, ← e6, bnd_p0 h57])
          | (refine ⟨?_, (((((f0.tr f1).tr f2).tr f3).tr f4).tr f5), rfl⟩
             unfold pPk
             rw [← s0, ← e1, bnd_p1 h14, ← e2, bnd_p1 h23, ← e3, bnd_p1 h31, ← e4, bnd_p1 h40, ← e5, bnd_p0 h48])
          | (refine ⟨?_, ((((f0.tr f1).tr f2).tr f3).tr f4), rfl⟩
             unfold pPk
             rw [← s0, ← e1, bnd_p1 h14, ← e2, bnd_p1 h23, ← e3, bnd_p1 h31, ← e4, bnd_p0 h40])
          | (refine ⟨?_, (((f0.tr f1).tr f2).tr f3), rfl⟩
             unfold pPk
             rw [← s0, ← e1, bnd_p1 h14, ← e2, bnd_p1 h23, ← e3, bnd_p0 h31])
          | (refine ⟨?_, ((f0.tr f1).tr f2), rfl⟩
             unfold pPk
             rw [← s0, ← e1, bnd_p1 h14, ← e2, bnd_p0 h23])
          | (refine ⟨?_, (f0.tr f1), rfl⟩
             unfold pPk
             rw [← s0, ← e1, bnd_p0 h14])
        · obtain ⟨a4, I4, K4⟩ := nx_w I3 e4 h40
          have I4 : RI 2 (sR M4 q) := I4
          have H4 := H3.nx f4
          have c4 : pgC M4 q 11 0 < 15 := by rw [show pgC M4 q 11 0 = pgC M3 q 11 0 from K4.1]; exact c3
          refine go_aload_n dX4_readPick_43 rfl rfl ?_
          refine go_iconst dX4_readPick_44 (R32_lit rfl) ?_
          refine v4_120 dX4_readPick_45 rfl ⟨rfl, rfl⟩ ⟨rfl, rfl⟩ (ct_X4_readOperand hN hE H4 I4 c4 (by decide) (by decide)) (fun r5 M5 N5 hr5 hq5 => ?_)
          obtain ⟨e5, f5, rfl⟩ := hq5
          refine go_if_eq (tgt := 72) dX4_readPick_48 rfl (fun h48 => ?_) (fun h48 => ?_)
          · refine go_iconst dX4_readPick_72 (R32_lit rfl) ?_
            refine go_retz dX4_readPick_73 (by first | exact Or.inl rfl | exact Or.inr rfl | omega) ?_
            first
            | (refine ⟨?_, (((((((f0.tr f1).tr f2).tr f3).tr f4).tr f5).tr f6).tr f7), rfl⟩
               unfold pPk
               rw [← s0, ← e1, bnd_p1 h14, ← e2, bnd_p1 h23, ← e3, bnd_p1 h31, ← e4, bnd_p1 h40, ← e5, bnd_p1 h48, ← e6, bnd_p1 h57, ← e7, a7])
            | (refine ⟨?_, (((((((f0.tr f1).tr f2).tr f3).tr f4).tr f5).tr f6).tr f7), rfl⟩
               unfold pPk
               rw [← s0, ← e1, bnd_p1 h14, ← e2, bnd_p1 h23, ← e3, bnd_p1 h31, ← e4, bnd_p1 h40, ← e5, bnd_p1 h48, ← e6, bnd_p1 h57, ← e7, h65])
            | (refine ⟨?_, ((((((f0.tr f1).tr f2).tr f3).tr f4).tr f5).tr f6), rfl⟩
               unfold pPk
               rw [← s0, ← e1, bnd_p1 h14, ← e2, bnd_p1 h23, ← e3, bnd_p1 h31, ← e4, bnd_p1 h40, ← e5, bnd_p1 h48, ← e6, bnd_p0 h57])
            | (refine ⟨?_, (((((f0.tr f1).tr f2).tr f3).tr f4).tr f5), rfl⟩
               unfold pPk
               rw [← s0, ← e1, bnd_p1 h14, ← e2, bnd_p1 h23, ← e3, bnd_p1 h31, ← e4, bnd_p1 h40, ← e5, bnd_p0 h48])
            | (refine ⟨?_, ((((f0.tr f1).tr f2).tr f3).tr f4), rfl⟩
               unfold pPk
               rw [← s0, ← e1, bnd_p1 h14, ← e2, bnd_p1 h23, ← e3, bnd_p1 h31, ← e4, bnd_p0 h40])
            | (refine ⟨?_, (((f0.tr f1).tr f2).tr f3), rfl⟩
               unfold pPk
               rw [← s0, ← e1, bnd_p1 h14, ← e2, bnd_p1 h23, ← e3, bnd_p0 h31])
            | (refine ⟨?_, ((f0.tr f1).tr f2), rfl⟩
               unfold pPk
               rw [← s0, ← e1, bnd_p1 h14, ← e2, bnd_p0 h23])
            | (refine ⟨?_, (f0.tr f1), rfl⟩
               unfold pPk
               rw [← s0, ← e1, bnd_p0 h14])
          · obtain ⟨a5, I5, K5⟩ := nx_op I4 e5 h48
            have I5 : RI 3 (sR M5 q) := I5
            have H5 := H4.nx f5
            have c5 : pgC M5 q 11 0 < 15 := by rw [show pgC M5 q 11 0 = pgC M4 q 11 0 from K5.1]; exact c4
            refine go_aload_n dX4_readPick_51 rfl rfl ?_
            refine s4_125 hE dX4_readPick_52 ?_
            refine v4_93 dX4_readPick_54 rfl ⟨rfl, rfl⟩ ⟨rfl, rfl⟩ (ct_X4_skipWord hE H5 I5 (by decide)) (fun r6 M6 N6 hr6 hq6 => ?_)
            obtain ⟨e6, f6, rfl⟩ := hq6
            refine go_if_eq (tgt := 72) dX4_readPick_57 rfl (fun h57 => ?_) (fun h57 => ?_)
            · refine go_iconst dX4_readPick_72 (R32_lit rfl) ?_
              refine go_retz dX4_readPick_73 (by first | exact Or.inl rfl | exact Or.inr rfl | omega) ?_
              first
              | (refine ⟨?_, (((((((f0.tr f1).tr f2).tr f3).tr f4).tr f5).tr f6).tr f7), rfl⟩
                 unfold pPk
                 rw [← s0, ← e1, bnd_p1 h14, ← e2, bnd_p1 h23, ← e3, bnd_p1 h31, ← e4, bnd_p1 h40, ← e5, bnd_p1 h48, ← e6, bnd_p1 h57, ← e7, a7])
              | (refine ⟨?_, (((((((f0.tr f1).tr f2).tr f3).tr f4).tr f5).tr f6).tr f7), rfl⟩
                 unfold pPk
                 rw [← s0, ← e1, bnd_p1 h14, ← e2, bnd_p1 h23, ← e3, bnd_p1 h31, ← e4, bnd_p1 h40, ← e5, bnd_p1 h48, ← e6, bnd_p1 h57, ← e7, h65])
              | (refine ⟨?_, ((((((f0.tr f1).tr f2).tr f3).tr f4).tr f5).tr f6), rfl⟩
                 unfold pPk
                 rw [← s0, ← e1, bnd_p1 h14, ← e2, bnd_p1 h23, ← e3, bnd_p1 h31, ← e4, bnd_p1 h40, ← e5, bnd_p1 h48, ← e6, bnd_p0 h57])
              | (refine ⟨?_, (((((f0.tr f1).tr f2).tr f3).tr f4).tr f5), rfl⟩
                 unfold pPk
                 rw [← s0, ← e1, bnd_p1 h14, ← e2, bnd_p1 h23, ← e3, bnd_p1 h31, ← e4, bnd_p1 h40, ← e5, bnd_p0 h48])
              | (refine ⟨?_, ((((f0.tr f1).tr f2).tr f3).tr f4), rfl⟩
                 unfold pPk
                 rw [← s0, ← e1, bnd_p1 h14, ← e2, bnd_p1 h23, ← e3, bnd_p1 h31, ← e4, bnd_p0 h40])
              | (refine ⟨?_, (((f0.tr f1).tr f2).tr f3), rfl⟩
                 unfold pPk
                 rw [← s0, ← e1, bnd_p1 h14, ← e2, bnd_p1 h23, ← e3, bnd_p0 h31])
              | (refine ⟨?_, ((f0.tr f1).tr f2), rfl⟩
                 unfold pPk
                 rw [← s0, ← e1, bnd_p1 h14, ← e2, bnd_p0 h23])
              | (refine ⟨?_, (f0.tr f1), rfl⟩
                 unfold pPk
                 rw [← s0, ← e1, bnd_p0 h14])
            · obtain ⟨a6, I6, K6⟩ := nx_w I5 e6 h57
              have I6 : RI 3 (sR M6 q) := I6
              have H6 := H5.nx f6
              have c6 : pgC M6 q 11 0 < 15 := by rw [show pgC M6 q 11 0 = pgC M5 q 11 0 from K6.1]; exact c5
              refine go_aload_n dX4_readPick_60 rfl rfl ?_
              refine go_iconst dX4_readPick_61 (R32_lit rfl) ?_
              refine v4_120 dX4_readPick_62 rfl ⟨rfl, rfl⟩ ⟨rfl, rfl⟩ (ct_X4_readOperand hN hE H6 I6 c6 (by decide) (by decide)) (fun r7 M7 N7 hr7 hq7 => ?_)
              obtain ⟨e7, f7, rfl⟩ := hq7
              refine go_if_eq (tgt := 72) dX4_readPick_65 rfl (fun h65 => ?_) (fun h65 => ?_)
              · refine go_iconst dX4_readPick_72 (R32_lit rfl) ?_
                refine go_retz dX4_readPick_73 (by first | exact Or.inl rfl | exact Or.inr rfl | omega) ?_
                first
                | (refine ⟨?_, (((((((f0.tr f1).tr f2).tr f3).tr f4).tr f5).tr f6).tr f7), rfl⟩
                   unfold pPk
                   rw [← s0, ← e1, bnd_p1 h14, ← e2, bnd_p1 h23, ← e3, bnd_p1 h31, ← e4, bnd_p1 h40, ← e5, bnd_p1 h48, ← e6, bnd_p1 h57, ← e7, a7])
                | (refine ⟨?_, (((((((f0.tr f1).tr f2).tr f3).tr f4).tr f5).tr f6).tr f7), rfl⟩
                   unfold pPk
                   rw [← s0, ← e1, bnd_p1 h14, ← e2, bnd_p1 h23, ← e3, bnd_p1 h31, ← e4, bnd_p1 h40, ← e5, bnd_p1 h48, ← e6, bnd_p1 h57, ← e7, h65])
                | (refine ⟨?_, ((((((f0.tr f1).tr f2).tr f3).tr f4).tr f5).tr f6), rfl⟩
                   unfold pPk
                   rw [← s0, ← e1, bnd_p1 h14, ← e2, bnd_p1 h23, ← e3, bnd_p1 h31, ← e4, bnd_p1 h40, ← e5, bnd_p1 h48, ← e6, bnd_p0 h57])
                | (refine ⟨?_, (((((f0.tr f1).tr f2).tr f3).tr f4).tr f5), rfl⟩
                   unfold pPk
                   rw [← s0, ← e1, bnd_p1 h14, ← e2, bnd_p1 h23, ← e3, bnd_p1 h31, ← e4, bnd_p1 h40, ← e5, bnd_p0 h48])
                | (refine ⟨?_, ((((f0.tr f1).tr f2).tr f3).tr f4), rfl⟩
                   unfold pPk
                   rw [← s0, ← e1, bnd_p1 h14, ← e2, bnd_p1 h23, ← e3, bnd_p1 h31, ← e4, bnd_p0 h40])
                | (refine ⟨?_, (((f0.tr f1).tr f2).tr f3), rfl⟩
                   unfold pPk
                   rw [← s0, ← e1, bnd_p1 h14, ← e2, bnd_p1 h23, ← e3, bnd_p0 h31])
                | (refine ⟨?_, ((f0.tr f1).tr f2), rfl⟩
                   unfold pPk
                   rw [← s0, ← e1, bnd_p1 h14, ← e2, bnd_p0 h23])
                | (refine ⟨?_, (f0.tr f1), rfl⟩
                   unfold pPk
                   rw [← s0, ← e1, bnd_p0 h14])
              · obtain ⟨a7, I7, K7⟩ := nx_op I6 e7 h65
                have I7 : RI 4 (sR M7 q) := I7
                have H7 := H6.nx f7
                have c7 : pgC M7 q 11 0 < 15 := by rw [show pgC M7 q 11 0 = pgC M6 q 11 0 from K7.1]; exact c6
                refine go_iconst dX4_readPick_68 (R32_lit rfl) ?_
                refine go_goto (tgt := 73) dX4_readPick_69 rfl ?_
                refine go_retz dX4_readPick_73 (by first | exact Or.inl rfl | exact Or.inr rfl | omega) ?_
                first
                | (refine ⟨?_, (((((((f0.tr f1).tr f2).tr f3).tr f4).tr f5).tr f6).tr f7), rfl⟩
                   unfold pPk
                   rw [← s0, ← e1, bnd_p1 h14, ← e2, bnd_p1 h23, ← e3, bnd_p1 h31, ← e4, bnd_p1 h40, ← e5, bnd_p1 h48, ← e6, bnd_p1 h57, ← e7, a7])
                | (refine ⟨?_, (((((((f0.tr f1).tr f2).tr f3).tr f4).tr f5).tr f6).tr f7), rfl⟩
                   unfold pPk
                   rw [← s0, ← e1, bnd_p1 h14, ← e2, bnd_p1 h23, ← e3, bnd_p1 h31, ← e4, bnd_p1 h40, ← e5, bnd_p1 h48, ← e6, bnd_p1 h57, ← e7, h65])
                | (refine ⟨?_, ((((((f0.tr f1).tr f2).tr f3).tr f4).tr f5).tr f6), rfl⟩
                   unfold pPk
                   rw [← s0, ← e1, bnd_p1 h14, ← e2, bnd_p1 h23, ← e3, bnd_p1 h31, ← e4, bnd_p1 h40, ← e5, bnd_p1 h48, ← e6, bnd_p0 h57])
                | (refine ⟨?_, (((((f0.tr f1).tr f2).tr f3).tr f4).tr f5), rfl⟩
                   unfold pPk
                   rw [← s0, ← e1, bnd_p1 h14, ← e2, bnd_p1 h23, ← e3, bnd_p1 h31, ← e4, bnd_p1 h40, ← e5, bnd_p0 h48])
                | (refine ⟨?_, ((((f0.tr f1).tr f2).tr f3).tr f4), rfl⟩
                   unfold pPk
                   rw [← s0, ← e1, bnd_p1 h14, ← e2, bnd_p1 h23, ← e3, bnd_p1 h31, ← e4, bnd_p0 h40])
                | (refine ⟨?_, (((f0.tr f1).tr f2).tr f3), rfl⟩
                   unfold pPk
                   rw [← s0, ← e1, bnd_p1 h14, ← e2, bnd_p1 h23, ← e3, bnd_p0 h31])
                | (refine ⟨?_, ((f0.tr f1).tr f2), rfl⟩
                   unfold pPk
                   rw [← s0, ← e1, bnd_p1 h14, ← e2, bnd_p0 h23])
                | (refine ⟨?_, (f0.tr f1), rfl⟩
                   unfold pPk
                   rw [← s0, ← e1, bnd_p0 h14])
