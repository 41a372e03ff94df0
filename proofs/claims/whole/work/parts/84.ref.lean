theorem RR.bd {b : Int → Int} {k : Int} {M : Mm} {s : Rs} (h : RR b k M s) : M (29, 0, 0) 15 ≤ 500 ∧ 0 ≤ M (29, 0, 0) 17 ∧ M (29, 0, 0) 17 ≤ 500 ∧ 0 ≤ M (29, 0, 0) 16 ∧ M (29, 0, 0) 16 ≤ 500 := by
  obtain ⟨⟨c1, c2, c3, -⟩, -, -, -, -, -, h7, -⟩ := h
  rw [c1, c2, c3]
  exact ⟨h7.1.1.1, h7.1.1.2.1, h7.1.1.2.2, h7.1.2.1, h7.1.2.2.1⟩
/-- a fault noted -/
def flM (M : Mm) (w : Int) : Mm := wr (wr M (29, 0, 0) 20 w) (29, 0, 0) 21 (M (29, 0, 0) 16)
theorem flM_K {M : Mm} {w : Int} : Kr [20, 21] [] M (flM M w) := (Kr.rf.ws (by decide)).ws (by decide)
theorem OT_fl {b : Int → Int} {k w x r : Int} {X : Rr} {R : Int → Int} {S : Pg} {M M1 : Mm} (e : X = (0, faR R w x, S)) (hr : r = 0) (hM : M1 = flM M w) (hx : M (29, 0, 0) 16 = x) : OT b k X r M1 := by
  subst e hM hr
  refine ⟨rfl, fun q => absurd rfl q, fun _ => ⟨?_, ?_⟩⟩
  · unfold flM; rw [wr_nk (by decide), wr_eq]; rfl
  · unfold flM; rw [wr_eq, hx]; rfl
theorem OT_ok {b : Int → Int} {k r : Int} {X : Rr} {t : Rs} {M1 : Mm} (e : X = (1, t)) (hr : r = 1) (h : RR b k M1 t) : OT b k X r M1 := by
  subst e hr
  exact ⟨rfl, fun _ => h, fun q => absurd q (by decide)⟩
theorem OT_b0 {b : Int → Int} {k k' r : Int} {x : Rr} {f : Rs → Rr} {M1 : Mm} (o : OT b k x r M1) (h : r = 0) : OT b k' (bnd x f) 0 M1 := by
  obtain ⟨o1, -, o3⟩ := o
  subst h
  rw [bnd_0 o1.symm]
  exact ⟨o1, fun q => absurd rfl q, o3⟩
theorem OT_b1 {b : Int → Int} {k r : Int} {x : Rr} {f : Rs → Rr} {M1 : Mm} (o : OT b k x r M1) (h : r ≠ 0) : bnd x f = f x.2 ∧ RR b k M1 x.2 := ⟨bnd_1 (by rw [← o.1]; exact h), o.2.1 h⟩
theorem OT_eq {b : Int → Int} {k r : Int} {X Y : Rr} {M1 : Mm} (e : X = Y) (o : OT b k Y r M1) : OT b k X r M1 := by rw [e]; exact o
theorem OT_0 {b : Int → Int} {k k' r : Int} {x : Rr} {M1 : Mm} (o : OT b k x r M1) (h : r = 0) : OT b k' x 0 M1 := by
  obtain ⟨o1, -, o3⟩ := o
  subst h
  exact ⟨o1, fun q => absurd rfl q, o3⟩
def kpb (b R : Int → Int) : Bool := wdR b R 0 || (wdR b R 1 || (wdR b R 2 || (wdR b R 3 || (wdR b R 4 || (wdR b R 5 || (wdR b R 6 || wdR b R 7))))))
theorem snb_kp (b R : Int → Int) : snb b R = (decide (R 5 = 2) && !(kpb b R)) := by
  unfold snb kpb
  simp only [Bool.not_or]
/-- an operand laid -/
theorem RR_op {b : Int → Int} {k w x : Int} {M : Mm} {s : Rs} (h : RR b k M s) (k0 : 0 ≤ k) (k1 : k < 4) (hw : (0 ≤ w → w < s.2 11 0) ∧ (w < 0 → w = -2 ∧ -1000 ≤ x ∧ x ≤ 1000)) : RR b (k + 1) (wr (wr M (30, 0, 11) (4 * (15 + s.2 11 0) + k) w) (30, 0, 12) (4 * (15 + s.2 11 0) + k) x) (s.1, toS s.2 k w x) := by
  obtain ⟨c, h2, h3, h4, h5, h6, h7, h8⟩ := h
  have f : Kr [] [11, 12] M (wr (wr M (30, 0, 11) (4 * (15 + s.2 11 0) + k) w) (30, 0, 12) (4 * (15 + s.2 11 0) + k) x) := (Kr.rf.wa (by decide)).wa (by decide)
  generalize hM : wr (wr M (30, 0, 11) (4 * (15 + s.2 11 0) + k) w) (30, 0, 12) (4 * (15 + s.2 11 0) + k) x = M1 at f ⊢
  have e11 : ∀ i, M1 (30, 0, 11) i = if i = 4 * (15 + s.2 11 0) + k then w else M (30, 0, 11) i := by
    intro i; rw [← hM, wr_nf (nm_ne3 (by decide)), upI_wr]; rfl
  have e12 : ∀ i, M1 (30, 0, 12) i = if i = 4 * (15 + s.2 11 0) + k then x else M (30, 0, 12) i := by
    intro i; rw [← hM, upI_wr, wr_nf (nm_ne3 (by decide))]; rfl
  refine ⟨c.k f (by decide) (by decide) (by decide) (by decide) (by decide) (by decide) (by decide), h2, h3.k (f.a 4 (by decide)), h4.k (f.a 24 (by decide)) (f.a 25 (by decide)), ?_, ?_, ⟨h7.1, toS_D h7.2.1, toS_K h7.2.1 h7.2.2 ⟨hw.1, fun q => (hw.2 q).2⟩⟩, WF_toS h8 k0⟩
  · show PR 15 (s.2 11 0) (toS s.2 k w x) M1
    intro v v0 v1
    obtain ⟨p1, p2, p3, p4⟩ := h5 v v0 v1
    rw [f.a 7 (by decide), f.a 8 (by decide), f.a 9 (by decide), f.a 10 (by decide)]
    refine ⟨p1, p2, p3, fun q j j0 j1 => ?_⟩
    have o4 := opn_le s.2 v
    have j1 : j < opn s.2 v := j1
    rw [e11, e12, toS_8, toS_9, if_neg (by omega), if_neg (by omega), if_neg (by omega), if_neg (by omega)]
    exact p4 q j j0 j1
  · show opR (toS s.2 k w x) M1 (k + 1)
    intro j j0 j1
    rw [toS_11, e11, e12, toS_8, toS_9]
    by_cases z : j = k
    · subst z
      rw [if_pos rfl, if_pos rfl, if_pos rfl, if_pos rfl]
      exact ⟨rfl, fun q => ⟨(hw.2 q).1, rfl⟩⟩
    · rw [if_neg (by omega), if_neg (by omega), if_neg (by omega), if_neg (by omega)]
      exact h6 j j0 (by omega)
def Lw (M M1 : Mm) : Prop := (∀ i, i < 15 → M1 (30, 0, 7) i = M (30, 0, 7) i ∧ M1 (30, 0, 8) i = M (30, 0, 8) i ∧ M1 (30, 0, 9) i = M (30, 0, 9) i ∧ M1 (30, 0, 10) i = M (30, 0, 10) i) ∧ ∀ i, i < 60 → M1 (30, 0, 11) i = M (30, 0, 11) i ∧ M1 (30, 0, 12) i = M (30, 0, 12) i
theorem Lw.rf {M : Mm} : Lw M M := ⟨fun _ _ => ⟨rfl, rfl, rfl, rfl⟩, fun _ _ => ⟨rfl, rfl⟩⟩
theorem Lw.tr {M M1 M2 : Mm} (h : Lw M M1) (g : Lw M1 M2) : Lw M M2 := ⟨fun i hi => ⟨(g.1 i hi).1.trans (h.1 i hi).1, (g.1 i hi).2.1.trans (h.1 i hi).2.1, (g.1 i hi).2.2.1.trans (h.1 i hi).2.2.1, (g.1 i hi).2.2.2.trans (h.1 i hi).2.2.2⟩, fun i hi => ⟨(g.2 i hi).1.trans (h.2 i hi).1, (g.2 i hi).2.trans (h.2 i hi).2⟩⟩
theorem Kr.lw {K : List Int} {A : List Nat} {M M1 : Mm} (f : Kr K A M M1) (h7 : 7 ∉ A) (h8 : 8 ∉ A) (h9 : 9 ∉ A) (h10 : 10 ∉ A) (h11 : 11 ∉ A) (h12 : 12 ∉ A) : Lw M M1 := by
  unfold Lw
  rw [f.a 7 h7, f.a 8 h8, f.a 9 h9, f.a 10 h10, f.a 11 h11, f.a 12 h12]
  exact ⟨fun _ _ => ⟨rfl, rfl, rfl, rfl⟩, fun _ _ => ⟨rfl, rfl⟩⟩
theorem Lw.wa {M M1 : Mm} {f : Nat} {i x : Int} (h : Lw M M1) (hf : (f = 7 ∨ f = 8 ∨ f = 9 ∨ f = 10) ∧ 15 ≤ i ∨ (f = 11 ∨ f = 12) ∧ 60 ≤ i ∨ f > 12) : Lw M (wr M1 (30, 0, f) i x) := by
  have key : ∀ (g : Nat) (j : Int), ¬ (g = f ∧ j = i) → wr M1 (30, 0, f) i x (30, 0, g) j = M1 (30, 0, g) j := fun g j hg => wr_ne (fun q => hg ⟨congrArg (fun z : Nm => z.2.2) q.1, q.2⟩)
  refine ⟨fun j hj => ?_, fun j hj => ?_⟩
  · rw [key 7 j (by omega), key 8 j (by omega), key 9 j (by omega), key 10 j (by omega)]
    exact h.1 j hj
  · rw [key 11 j (by omega), key 12 j (by omega)]
    exact h.2 j hj
theorem Lw.ws {M M1 : Mm} {i x : Int} (h : Lw M M1) : Lw M (wr M1 (29, 0, 0) i x) := by
  have key : ∀ (g : Nat) (j : Int), wr M1 (29, 0, 0) i x (30, 0, g) j = M1 (30, 0, g) j := fun g j => wr_nn (nm_ne1 (by decide))
  refine ⟨fun j hj => ?_, fun j hj => ?_⟩
  · rw [key 7 j, key 8 j, key 9 j, key 10 j]; exact h.1 j hj
  · rw [key 11 j, key 12 j]; exact h.2 j hj
set_option maxRecDepth 100000 in
set_option maxHeartbeats 4000000 in
theorem ct_X8_passes {E : Ev} {M : Mm} {N : Nn} {b : Int → Int} {k : Int} {s : Rs} {w : Nat} (hE : ES E) (hR : RR b k M s) (hw : w < 8) : Ct E yX8_passes cX8_passes 2 ((some .boolean)) (rmH 6) [vr (29, 0, 0), vr (2, w, 0)] M N (qi (fun r M1 N1 => OT b k (pW b w s) r M1 ∧ Kr [16, 17, 18, 19, 20, 21] [] M M1 ∧ N = N1)) := by
  refine ct_of (own := RX8) (L0 := [vr (29, 0, 0), vr (2, w, 0)]) rfl (by decide +kernel) rfl rfl ?_
  refine go_aload_n dX8_passes_0 rfl rfl ?_
  refine go_aload_n dX8_passes_1 rfl rfl ?_
  refine v8_167 dX8_passes_2 rfl ⟨rfl, rfl⟩ ⟨rfl, rfl⟩ (ct_X8_isName hE hw hR.bd.2.2.2.1 hR.bd.2.2.2.2 hR.bd.2.1 hR.bd.2.2.1) (fun r1 M1 N1 hr1 hq1 => ?_)
  obtain ⟨z1, rfl, rfl⟩ := hq1
  have w1 := hR.nm hw z1
  refine go_if_ne (tgt := 14) dX8_passes_5 rfl (fun h5 => ?_) (fun h5 => ?_)
  · refine go_aload_n dX8_passes_14 rfl rfl ?_
    refine v8_175 dX8_passes_15 rfl ⟨rfl, rfl⟩ ⟨rfl, rfl⟩ (ct_X8_goesOn hR.2.2.1 hR.bd.1 hR.bd.2.1 hR.bd.2.2.1) (fun M3 N3 hq3 => ?_)
    refine go_iconst dX8_passes_18 (R32_lit rfl) ?_
    refine go_retz dX8_passes_19 (by first | exact Or.inl rfl | exact Or.inr rfl | omega) ?_
    obtain ⟨g31, g32, g33, g34, g35, rfl⟩ := hq3
    have R3 := hR.ad g35 g31 g32 g33 g34
    have u1 : wdR b s.1 w = true := w1.elim (fun q => q.1) (fun q => absurd q.2 (by omega))
    exact ⟨OT_ok (by unfold pW; rw [if_pos u1]) rfl R3, g35.up (by decide) (by decide), rfl⟩
  · refine go_aload_n dX8_passes_8 rfl rfl ?_
    refine go_iconst dX8_passes_9 (R32_lit rfl) ?_
    refine v8_171 dX8_passes_10 rfl ⟨rfl, rfl⟩ ⟨rfl, rfl⟩ ct_X8_errs (fun r2 M2 N2 hr2 hq2 => ?_)
    refine go_retz dX8_passes_13 (by first | exact Or.inl rfl | exact Or.inr rfl | omega) ?_
    obtain ⟨y1, y2, rfl⟩ := hq2
    have u1 : ¬ wdR b s.1 w = true := w1.elim (fun q => absurd q.2 (by omega)) (fun q => by rw [q.1]; decide)
    exact ⟨OT_fl (M := M) (w := 1) (by unfold pW; rw [if_neg u1]; rfl) y1 y2 hR.1.2.1, by rw [y2]; exact flM_K.up (by decide) (by decide), rfl⟩
set_option maxRecDepth 100000 in
set_option maxHeartbeats 4000000 in
theorem ct_X8_takes {E : Ev} {M : Mm} {N : Nn} {b : Int → Int} {k : Int} {s : Rs} {c : Int} (hR : RR b k M s) : Ct E yX8_takes cX8_takes 2 ((some .boolean)) (rmH 3) [vr (29, 0, 0), vi c] M N (qi (fun r M1 N1 => OT b k (pSg b c s) r M1 ∧ Kr [16, 17, 18, 19, 20, 21] [] M M1 ∧ N = N1)) := by
  refine ct_of (own := RX8) (L0 := [vr (29, 0, 0), vi c]) rfl (by decide +kernel) rfl rfl ?_
  refine go_aload_n dX8_takes_0 rfl rfl ?_
  refine g8_133 dX8_takes_1 ?_
  rw [hR.1.2.2.2.1]
  refine go_iload_n dX8_takes_4 rfl ?_
  refine go_icmp_eq (tgt := 14) dX8_takes_5 rfl (fun h5 => ?_) (fun h5 => ?_)
  · refine go_aload_n dX8_takes_14 rfl rfl ?_
    refine v8_175 dX8_takes_15 rfl ⟨rfl, rfl⟩ ⟨rfl, rfl⟩ (ct_X8_goesOn hR.2.2.1 hR.bd.1 hR.bd.2.1 hR.bd.2.2.1) (fun M3 N3 hq3 => ?_)
    refine go_iconst dX8_takes_18 (R32_lit rfl) ?_
    refine go_retz dX8_takes_19 (by first | exact Or.inl rfl | exact Or.inr rfl | omega) ?_
    obtain ⟨g31, g32, g33, g34, g35, rfl⟩ := hq3
    have R3 := hR.ad g35 g31 g32 g33 g34
    exact ⟨OT_ok (by unfold pSg; rw [if_pos h5]) rfl R3, g35.up (by decide) (by decide), rfl⟩
  · refine go_aload_n dX8_takes_8 rfl rfl ?_
    refine go_iconst dX8_takes_9 (R32_lit rfl) ?_
    refine v8_171 dX8_takes_10 rfl ⟨rfl, rfl⟩ ⟨rfl, rfl⟩ ct_X8_errs (fun r2 M2 N2 hr2 hq2 => ?_)
    refine go_retz dX8_takes_13 (by first | exact Or.inl rfl | exact Or.inr rfl | omega) ?_
    obtain ⟨y1, y2, rfl⟩ := hq2
    exact ⟨OT_fl (M := M) (w := 1) (by unfold pSg; rw [if_neg h5]; rfl) y1 y2 hR.1.2.1, by rw [y2]; exact flM_K.up (by decide) (by decide), rfl⟩
set_option maxRecDepth 100000 in
set_option maxHeartbeats 4000000 in
theorem ct_X8_seesNumber {E : Ev} {M : Mm} {N : Nn} {b : Int → Int} {k : Int} {s : Rs} {lo hi : Int} (hR : RR b k M s) : Ct E yX8_seesNumber cX8_seesNumber 4 ((some .boolean)) (rmH 3) [vr (29, 0, 0), vi lo, vi hi] M N (qi (fun r M1 N1 => (((nmA b s.1) 5 ≠ 3 ∧ r = 0 ∧ M1 (29, 0, 0) 20 = 1 ∧ M1 (29, 0, 0) 21 = (nmA b s.1) 6) ∨ ((nmA b s.1) 5 = 3 ∧ ¬ (lo ≤ (nmV b s.1) ∧ (nmV b s.1) ≤ hi) ∧ r = 0 ∧ M1 (29, 0, 0) 20 = 2 ∧ M1 (29, 0, 0) 21 = (nmA b s.1) 6) ∨ ((nmA b s.1) 5 = 3 ∧ (lo ≤ (nmV b s.1) ∧ (nmV b s.1) ≤ hi) ∧ r = 1 ∧ M1 (29, 0, 0) 26 = (nmV b s.1) ∧ RR b k M1 ((nmA b s.1), s.2))) ∧ Kr [16, 17, 18, 19, 20, 21, 26] [] M M1 ∧ N = N1)) := by
  refine ct_of (own := RX8) (L0 := [vr (29, 0, 0), vi lo, vi hi, vn]) rfl (by decide +kernel) rfl rfl ?_
  refine go_aload_n dX8_seesNumber_0 rfl rfl ?_
  refine g8_133 dX8_seesNumber_1 ?_
  refine go_bipush dX8_seesNumber_4 ⟨by decide, by decide⟩ ?_
  have jn14 : ∀ x : Int, x = (if M (29, 0, 0) 18 = 45 then 1 else 0) → Go E RX8 cX8_seesNumber 4 ((some .boolean)) (rmH 3) 0 0 (zM E (qi (fun r M1 N1 => (((nmA b s.1) 5 ≠ 3 ∧ r = 0 ∧ M1 (29, 0, 0) 20 = 1 ∧ M1 (29, 0, 0) 21 = (nmA b s.1) 6) ∨ ((nmA b s.1) 5 = 3 ∧ ¬ (lo ≤ (nmV b s.1) ∧ (nmV b s.1) ≤ hi) ∧ r = 0 ∧ M1 (29, 0, 0) 20 = 2 ∧ M1 (29, 0, 0) 21 = (nmA b s.1) 6) ∨ ((nmA b s.1) 5 = 3 ∧ (lo ≤ (nmV b s.1) ∧ (nmV b s.1) ≤ hi) ∧ r = 1 ∧ M1 (29, 0, 0) 26 = (nmV b s.1) ∧ RR b k M1 ((nmA b s.1), s.2))) ∧ Kr [16, 17, 18, 19, 20, 21, 26] [] M M1 ∧ N = N1))) 14 [vr (29, 0, 0), vi lo, vi hi, vn] [vi x] M N := by
    intro x ex
    have hx : (x = 1 ∧ s.1 5 = 45) ∨ (x = 0 ∧ s.1 5 ≠ 45) := by
      rw [ex, hR.1.2.2.2.1]
      by_cases q : s.1 5 = 45
      · rw [if_pos q]; exact Or.inl ⟨rfl, q⟩
      · rw [if_neg q]; exact Or.inr ⟨rfl, q⟩
    clear ex
    refine go_ist3 dX8_seesNumber_14 rfl rfl ?_
    refine go_iload_n dX8_seesNumber_15 rfl ?_
    refine go_if_eq (tgt := 23) dX8_seesNumber_16 rfl (fun h16 => ?_) (fun h16 => ?_)
    · first | (obtain ⟨g1, g2, g3, g4, g5, rfl⟩ := hq1) | skip
      refine go_nmM (fun Mc eMc => ?_)
      have RA : RR b k Mc (nmA b s.1, s.2) := by
        unfold nmA
        first
        | (rw [eMc, if_neg (by omega)]; exact hR)
        | (rw [eMc, if_pos (by omega)]; exact hR.ad g5 g1 g2 g3 g4)
      have fA : Kr [16, 17, 18, 19, 20, 21, 26] [] M Mc := by rw [eMc]; first | exact Kr.rf | exact g5.up (by decide) (by decide)
      clear eMc
      refine go_aload_n dX8_seesNumber_23 rfl rfl ?_
      refine g8_133 dX8_seesNumber_24 ?_
      rw [RA.1.2.2.2.1]
      refine go_iconst dX8_seesNumber_27 (R32_lit rfl) ?_
      refine go_icmp_eq (tgt := 37) dX8_seesNumber_28 rfl (fun h28 => ?_) (fun h28 => ?_)
      · refine go_aload_n dX8_seesNumber_37 rfl rfl ?_
        refine go_iload_n dX8_seesNumber_38 rfl ?_
        refine go_if_eq (tgt := 50) dX8_seesNumber_39 rfl (fun h39 => ?_) (fun h39 => ?_)
        · refine go_aload_n dX8_seesNumber_50 rfl rfl ?_
          refine g8_148 dX8_seesNumber_51 ?_
          refine go_nmi (fun y ey => ?_)
          have hy : y = nmV b s.1 := by
            unfold nmV
            first
            | (rw [ey, if_pos (by omega), RA.1.2.2.2.2.1 h28]; done)
            | (rw [ey, if_neg (by omega), RA.1.2.2.2.2.1 h28]; done)
          clear ey
          subst hy
          refine p8_178 dX8_seesNumber_54 ?_
          refine go_nmM (fun Md eMd => ?_)
          have fD : Kr [26] [] Mc Md := by rw [eMd]; exact Kr.rf.ws (by decide)
          have v26 : Md (29, 0, 0) 26 = nmV b s.1 := by rw [eMd, wr_eq]
          have RD : RR b k Md (nmA b s.1, s.2) := RA.k fD (by decide) (by decide) (by decide) (by decide) (by decide) (by decide) (by decide) (by decide) (by decide) (RA.1.k fD (by decide) (by decide) (by decide) (by decide) (by decide) (by decide) (by decide))
          have fE : Kr [16, 17, 18, 19, 20, 21, 26] [] M Md := fA.tr (fD.up (by decide) (by decide))
          clear eMd
          refine go_aload_n dX8_seesNumber_57 rfl rfl ?_
          refine g8_178 dX8_seesNumber_58 ?_
          rw [v26]
          refine go_i2l dX8_seesNumber_61 ?_
          refine go_iload_n dX8_seesNumber_62 rfl ?_
          refine go_i2l dX8_seesNumber_63 ?_
          refine go_iload_n dX8_seesNumber_64 rfl ?_
          refine go_i2l dX8_seesNumber_65 ?_
          refine v8_140 dX8_seesNumber_66 rfl ⟨rfl, rfl⟩ ⟨rfl, rfl⟩ ct_X8_in (fun r2 M2 N2 hr2 hq2 => ?_)
          obtain ⟨z2, rfl, rfl⟩ := hq2
          have z2 := bit_iff z2
          refine go_if_ne (tgt := 80) dX8_seesNumber_69 rfl (fun h69 => ?_) (fun h69 => ?_)
          · refine go_iconst dX8_seesNumber_80 (R32_lit rfl) ?_
            refine go_goto (tgt := 85) dX8_seesNumber_81 rfl ?_
            refine go_retz dX8_seesNumber_85 (by first | exact Or.inl rfl | exact Or.inr rfl | omega) ?_
            first
            | (exfalso; omega)
            | exact ⟨Or.inr (Or.inr ⟨h28, by omega, rfl, v26, RD⟩), fE, rfl⟩
            | (have o3 := (OT_fl (b := b) (k := k) (M := Md) (w := 2) (R := nmA b s.1) (S := s.2) rfl y1 y2 RD.1.2.1).2.2 y1
               exact ⟨Or.inr (Or.inl ⟨h28, by omega, rfl, o3.1, o3.2⟩), fE.tr (by rw [y2]; exact flM_K.up (by decide) (by decide)), rfl⟩)
          · refine go_aload_n dX8_seesNumber_72 rfl rfl ?_
            refine go_iconst dX8_seesNumber_73 (R32_lit rfl) ?_
            refine v8_171 dX8_seesNumber_74 rfl ⟨rfl, rfl⟩ ⟨rfl, rfl⟩ ct_X8_errs (fun r4 M4 N4 hr4 hq4 => ?_)
            obtain ⟨y1, y2, rfl⟩ := hq4
            refine go_if_eq (tgt := 84) dX8_seesNumber_77 rfl (fun h77 => ?_) (fun h77 => ?_)
            · refine go_iconst dX8_seesNumber_84 (R32_lit rfl) ?_
              refine go_retz dX8_seesNumber_85 (by first | exact Or.inl rfl | exact Or.inr rfl | omega) ?_
              first
              | (exfalso; omega)
              | exact ⟨Or.inr (Or.inr ⟨h28, by omega, rfl, v26, RD⟩), fE, rfl⟩
              | (have o3 := (OT_fl (b := b) (k := k) (M := Md) (w := 2) (R := nmA b s.1) (S := s.2) rfl y1 y2 RD.1.2.1).2.2 y1
                 exact ⟨Or.inr (Or.inl ⟨h28, by omega, rfl, o3.1, o3.2⟩), fE.tr (by rw [y2]; exact flM_K.up (by decide) (by decide)), rfl⟩)
            · refine go_iconst dX8_seesNumber_80 (R32_lit rfl) ?_
              refine go_goto (tgt := 85) dX8_seesNumber_81 rfl ?_
              refine go_retz dX8_seesNumber_85 (by first | exact Or.inl rfl | exact Or.inr rfl | omega) ?_
              first
              | (exfalso; omega)
              | exact ⟨Or.inr (Or.inr ⟨h28, by omega, rfl, v26, RD⟩), fE, rfl⟩
              | (have o3 := (OT_fl (b := b) (k := k) (M := Md) (w := 2) (R := nmA b s.1) (S := s.2) rfl y1 y2 RD.1.2.1).2.2 y1
                 exact ⟨Or.inr (Or.inl ⟨h28, by omega, rfl, o3.1, o3.2⟩), fE.tr (by rw [y2]; exact flM_K.up (by decide) (by decide)), rfl⟩)
        · refine go_aload_n dX8_seesNumber_42 rfl rfl ?_
          refine g8_148 dX8_seesNumber_43 ?_
          refine go_ineg dX8_seesNumber_46 ?_
          refine go_goto (tgt := 54) dX8_seesNumber_47 rfl ?_
          refine go_nmi (fun y ey => ?_)
          have hy : y = nmV b s.1 := by
            unfold nmV
            first
            | (rw [ey, if_pos (by omega), RA.1.2.2.2.2.1 h28]; done)
            | (rw [ey, if_neg (by omega), RA.1.2.2.2.2.1 h28]; done)
          clear ey
          subst hy
          refine p8_178 dX8_seesNumber_54 ?_
          refine go_nmM (fun Md eMd => ?_)
          have fD : Kr [26] [] Mc Md := by rw [eMd]; exact Kr.rf.ws (by decide)
          have v26 : Md (29, 0, 0) 26 = nmV b s.1 := by rw [eMd, wr_eq]
          have RD : RR b k Md (nmA b s.1, s.2) := RA.k fD (by decide) (by decide) (by decide) (by decide) (by decide) (by decide) (by decide) (by decide) (by decide) (RA.1.k fD (by decide) (by decide) (by decide) (by decide) (by decide) (by decide) (by decide))
          have fE : Kr [16, 17, 18, 19, 20, 21, 26] [] M Md := fA.tr (fD.up (by decide) (by decide))
          clear eMd
          refine go_aload_n dX8_seesNumber_57 rfl rfl ?_
          refine g8_178 dX8_seesNumber_58 ?_
          rw [v26]
          refine go_i2l dX8_seesNumber_61 ?_
          refine go_iload_n dX8_seesNumber_62 rfl ?_
          refine go_i2l dX8_seesNumber_63 ?_
          refine go_iload_n dX8_seesNumber_64 rfl ?_
          refine go_i2l dX8_seesNumber_65 ?_
          refine v8_140 dX8_seesNumber_66 rfl ⟨rfl, rfl⟩ ⟨rfl, rfl⟩ ct_X8_in (fun r2 M2 N2 hr2 hq2 => ?_)
          obtain ⟨z2, rfl, rfl⟩ := hq2
          have z2 := bit_iff z2
          refine go_if_ne (tgt := 80) dX8_seesNumber_69 rfl (fun h69 => ?_) (fun h69 => ?_)
          · refine go_iconst dX8_seesNumber_80 (R32_lit rfl) ?_
            refine go_goto (tgt := 85) dX8_seesNumber_81 rfl ?_
            refine go_retz dX8_seesNumber_85 (by first | exact Or.inl rfl | exact Or.inr rfl | omega) ?_
            first
            | (exfalso; omega)
            | exact ⟨Or.inr (Or.inr ⟨h28, by omega, rfl, v26, RD⟩), fE, rfl⟩
            | (have o3 := (OT_fl (b := b) (k := k) (M := Md) (w := 2) (R := nmA b s.1) (S := s.2) rfl y1 y2 RD.1.2.1).2.2 y1
               exact ⟨Or.inr (Or.inl ⟨h28, by omega, rfl, o3.1, o3.2⟩), fE.tr (by rw [y2]; exact flM_K.up (by decide) (by decide)), rfl⟩)
          · refine go_aload_n dX8_seesNumber_72 rfl rfl ?_
            refine go_iconst dX8_seesNumber_73 (R32_lit rfl) ?_
            refine v8_171 dX8_seesNumber_74 rfl ⟨rfl, rfl⟩ ⟨rfl, rfl⟩ ct_X8_errs (fun r4 M4 N4 hr4 hq4 => ?_)
            obtain ⟨y1, y2, rfl⟩ := hq4
            refine go_if_eq (tgt := 84) dX8_seesNumber_77 rfl (fun h77 => ?_) (fun h77 => ?_)
            · refine go_iconst dX8_seesNumber_84 (R32_lit rfl) ?_
              refine go_retz dX8_seesNumber_85 (by first | exact Or.inl rfl | exact Or.inr rfl | omega) ?_
              first
              | (exfalso; omega)
              | exact ⟨Or.inr (Or.inr ⟨h28, by omega, rfl, v26, RD⟩), fE, rfl⟩
              | (have o3 := (OT_fl (b := b) (k := k) (M := Md) (w := 2) (R := nmA b s.1) (S := s.2) rfl y1 y2 RD.1.2.1).2.2 y1
                 exact ⟨Or.inr (Or.inl ⟨h28, by omega, rfl, o3.1, o3.2⟩), fE.tr (by rw [y2]; exact flM_K.up (by decide) (by decide)), rfl⟩)
            · refine go_iconst dX8_seesNumber_80 (R32_lit rfl) ?_
              refine go_goto (tgt := 85) dX8_seesNumber_81 rfl ?_
              refine go_retz dX8_seesNumber_85 (by first | exact Or.inl rfl | exact Or.inr rfl | omega) ?_
              first
              | (exfalso; omega)
              | exact ⟨Or.inr (Or.inr ⟨h28, by omega, rfl, v26, RD⟩), fE, rfl⟩
              | (have o3 := (OT_fl (b := b) (k := k) (M := Md) (w := 2) (R := nmA b s.1) (S := s.2) rfl y1 y2 RD.1.2.1).2.2 y1
                 exact ⟨Or.inr (Or.inl ⟨h28, by omega, rfl, o3.1, o3.2⟩), fE.tr (by rw [y2]; exact flM_K.up (by decide) (by decide)), rfl⟩)
      · refine go_aload_n dX8_seesNumber_31 rfl rfl ?_
        refine go_iconst dX8_seesNumber_32 (R32_lit rfl) ?_
        refine v8_171 dX8_seesNumber_33 rfl ⟨rfl, rfl⟩ ⟨rfl, rfl⟩ ct_X8_errs (fun r3 M3 N3 hr3 hq3 => ?_)
        refine go_retz dX8_seesNumber_36 (by first | exact Or.inl rfl | exact Or.inr rfl | omega) ?_
        obtain ⟨y1, y2, rfl⟩ := hq3
        have o := OT_fl (b := b) (k := k) (M := Mc) (w := 1) (R := nmA b s.1) (S := s.2) rfl y1 y2 RA.1.2.1
        have o3 := o.2.2 y1
        exact ⟨Or.inl ⟨h28, y1, o3.1, o3.2⟩, fA.tr (by rw [y2]; exact flM_K.up (by decide) (by decide)), rfl⟩
    · refine go_aload_n dX8_seesNumber_19 rfl rfl ?_
      refine v8_175 dX8_seesNumber_20 rfl ⟨rfl, rfl⟩ ⟨rfl, rfl⟩ (ct_X8_goesOn hR.2.2.1 hR.bd.1 hR.bd.2.1 hR.bd.2.2.1) (fun M1 N1 hq1 => ?_)
      first | (obtain ⟨g1, g2, g3, g4, g5, rfl⟩ := hq1) | skip
      refine go_nmM (fun Mc eMc => ?_)
      have RA : RR b k Mc (nmA b s.1, s.2) := by
        unfold nmA
        first
        | (rw [eMc, if_neg (by omega)]; exact hR)
        | (rw [eMc, if_pos (by omega)]; exact hR.ad g5 g1 g2 g3 g4)
      have fA : Kr [16, 17, 18, 19, 20, 21, 26] [] M Mc := by rw [eMc]; first | exact Kr.rf | exact g5.up (by decide) (by decide)
      clear eMc
      refine go_aload_n dX8_seesNumber_23 rfl rfl ?_
      refine g8_133 dX8_seesNumber_24 ?_
      rw [RA.1.2.2.2.1]
      refine go_iconst dX8_seesNumber_27 (R32_lit rfl) ?_
      refine go_icmp_eq (tgt := 37) dX8_seesNumber_28 rfl (fun h28 => ?_) (fun h28 => ?_)
      · refine go_aload_n dX8_seesNumber_37 rfl rfl ?_
        refine go_iload_n dX8_seesNumber_38 rfl ?_
        refine go_if_eq (tgt := 50) dX8_seesNumber_39 rfl (fun h39 => ?_) (fun h39 => ?_)
        · refine go_aload_n dX8_seesNumber_50 rfl rfl ?_
          refine g8_148 dX8_seesNumber_51 ?_
          refine go_nmi (fun y ey => ?_)
          have hy : y = nmV b s.1 := by
            unfold nmV
            first
            | (rw [ey, if_pos (by omega), RA.1.2.2.2.2.1 h28]; done)
            | (rw [ey, if_neg (by omega), RA.1.2.2.2.2.1 h28]; done)
          clear ey
          subst hy
          refine p8_178 dX8_seesNumber_54 ?_
          refine go_nmM (fun Md eMd => ?_)
          have fD : Kr [26] [] Mc Md := by rw [eMd]; exact Kr.rf.ws (by decide)
          have v26 : Md (29, 0, 0) 26 = nmV b s.1 := by rw [eMd, wr_eq]
          have RD : RR b k Md (nmA b s.1, s.2) := RA.k fD (by decide) (by decide) (by decide) (by decide) (by decide) (by decide) (by decide) (by decide) (by decide) (RA.1.k fD (by decide) (by decide) (by decide) (by decide) (by decide) (by decide) (by decide))
          have fE : Kr [16, 17, 18, 19, 20, 21, 26] [] M Md := fA.tr (fD.up (by decide) (by decide))
          clear eMd
          refine go_aload_n dX8_seesNumber_57 rfl rfl ?_
          refine g8_178 dX8_seesNumber_58 ?_
          rw [v26]
          refine go_i2l dX8_seesNumber_61 ?_
          refine go_iload_n dX8_seesNumber_62 rfl ?_
          refine go_i2l dX8_seesNumber_63 ?_
          refine go_iload_n dX8_seesNumber_64 rfl ?_
          refine go_i2l dX8_seesNumber_65 ?_
          refine v8_140 dX8_seesNumber_66 rfl ⟨rfl, rfl⟩ ⟨rfl, rfl⟩ ct_X8_in (fun r2 M2 N2 hr2 hq2 => ?_)
          obtain ⟨z2, rfl, rfl⟩ := hq2
          have z2 := bit_iff z2
          refine go_if_ne (tgt := 80) dX8_seesNumber_69 rfl (fun h69 => ?_) (fun h69 => ?_)
          · refine go_iconst dX8_seesNumber_80 (R32_lit rfl) ?_
            refine go_goto (tgt := 85) dX8_seesNumber_81 rfl ?_
            refine go_retz dX8_seesNumber_85 (by first | exact Or.inl rfl | exact Or.inr rfl | omega) ?_
            first
            | (exfalso; omega)
            | exact ⟨Or.inr (Or.inr ⟨h28, by omega, rfl, v26, RD⟩), fE, rfl⟩
            | (have o3 := (OT_fl (b := b) (k := k) (M := Md) (w := 2) (R := nmA b s.1) (S := s.2) rfl y1 y2 RD.1.2.1).2.2 y1
               exact ⟨Or.inr (Or.inl ⟨h28, by omega, rfl, o3.1, o3.2⟩), fE.tr (by rw [y2]; exact flM_K.up (by decide) (by decide)), rfl⟩)
          · refine go_aload_n dX8_seesNumber_72 rfl rfl ?_
            refine go_iconst dX8_seesNumber_73 (R32_lit rfl) ?_
            refine v8_171 dX8_seesNumber_74 rfl ⟨rfl, rfl⟩ ⟨rfl, rfl⟩ ct_X8_errs (fun r4 M4 N4 hr4 hq4 => ?_)
            obtain ⟨y1, y2, rfl⟩ := hq4
            refine go_if_eq (tgt := 84) dX8_seesNumber_77 rfl (fun h77 => ?_) (fun h77 => ?_)
            · refine go_iconst dX8_seesNumber_84 (R32_lit rfl) ?_
              refine go_retz dX8_seesNumber_85 (by first | exact Or.inl rfl | exact Or.inr rfl | omega) ?_
              first
              | (exfalso; omega)
              | exact ⟨Or.inr (Or.inr ⟨h28, by omega, rfl, v26, RD⟩), fE, rfl⟩
              | (have o3 := (OT_fl (b := b) (k := k) (M := Md) (w := 2) (R := nmA b s.1) (S := s.2) rfl y1 y2 RD.1.2.1).2.2 y1
                 exact ⟨Or.inr (Or.inl ⟨h28, by omega, rfl, o3.1, o3.2⟩), fE.tr (by rw [y2]; exact flM_K.up (by decide) (by decide)), rfl⟩)
            · refine go_iconst dX8_seesNumber_80 (R32_lit rfl) ?_
              refine go_goto (tgt := 85) dX8_seesNumber_81 rfl ?_
              refine go_retz dX8_seesNumber_85 (by first | exact Or.inl rfl | exact Or.inr rfl | omega) ?_
              first
              | (exfalso; omega)
              | exact ⟨Or.inr (Or.inr ⟨h28, by omega, rfl, v26, RD⟩), fE, rfl⟩
              | (have o3 := (OT_fl (b := b) (k := k) (M := Md) (w := 2) (R := nmA b s.1) (S := s.2) rfl y1 y2 RD.1.2.1).2.2 y1
                 exact ⟨Or.inr (Or.inl ⟨h28, by omega, rfl, o3.1, o3.2⟩), fE.tr (by rw [y2]; exact flM_K.up (by decide) (by decide)), rfl⟩)
        · refine go_aload_n dX8_seesNumber_42 rfl rfl ?_
          refine g8_148 dX8_seesNumber_43 ?_
          refine go_ineg dX8_seesNumber_46 ?_
          refine go_goto (tgt := 54) dX8_seesNumber_47 rfl ?_
          refine go_nmi (fun y ey => ?_)
          have hy : y = nmV b s.1 := by
            unfold nmV
            first
            | (rw [ey, if_pos (by omega), RA.1.2.2.2.2.1 h28]; done)
            | (rw [ey, if_neg (by omega), RA.1.2.2.2.2.1 h28]; done)
          clear ey
          subst hy
          refine p8_178 dX8_seesNumber_54 ?_
          refine go_nmM (fun Md eMd => ?_)
          have fD : Kr [26] [] Mc Md := by rw [eMd]; exact Kr.rf.ws (by decide)
          have v26 : Md (29, 0, 0) 26 = nmV b s.1 := by rw [eMd, wr_eq]
          have RD : RR b k Md (nmA b s.1, s.2) := RA.k fD (by decide) (by decide) (by decide) (by decide) (by decide) (by decide) (by decide) (by decide) (by decide) (RA.1.k fD (by decide) (by decide) (by decide) (by decide) (by decide) (by decide) (by decide))
          have fE : Kr [16, 17, 18, 19, 20, 21, 26] [] M Md := fA.tr (fD.up (by decide) (by decide))
          clear eMd
          refine go_aload_n dX8_seesNumber_57 rfl rfl ?_
          refine g8_178 dX8_seesNumber_58 ?_
          rw [v26]
          refine go_i2l dX8_seesNumber_61 ?_
          refine go_iload_n dX8_seesNumber_62 rfl ?_
          refine go_i2l dX8_seesNumber_63 ?_
          refine go_iload_n dX8_seesNumber_64 rfl ?_
          refine go_i2l dX8_seesNumber_65 ?_
          refine v8_140 dX8_seesNumber_66 rfl ⟨rfl, rfl⟩ ⟨rfl, rfl⟩ ct_X8_in (fun r2 M2 N2 hr2 hq2 => ?_)
          obtain ⟨z2, rfl, rfl⟩ := hq2
          have z2 := bit_iff z2
          refine go_if_ne (tgt := 80) dX8_seesNumber_69 rfl (fun h69 => ?_) (fun h69 => ?_)
          · refine go_iconst dX8_seesNumber_80 (R32_lit rfl) ?_
            refine go_goto (tgt := 85) dX8_seesNumber_81 rfl ?_
            refine go_retz dX8_seesNumber_85 (by first | exact Or.inl rfl | exact Or.inr rfl | omega) ?_
            first
            | (exfalso; omega)
            | exact ⟨Or.inr (Or.inr ⟨h28, by omega, rfl, v26, RD⟩), fE, rfl⟩
            | (have o3 := (OT_fl (b := b) (k := k) (M := Md) (w := 2) (R := nmA b s.1) (S := s.2) rfl y1 y2 RD.1.2.1).2.2 y1
               exact ⟨Or.inr (Or.inl ⟨h28, by omega, rfl, o3.1, o3.2⟩), fE.tr (by rw [y2]; exact flM_K.up (by decide) (by decide)), rfl⟩)
          · refine go_aload_n dX8_seesNumber_72 rfl rfl ?_
            refine go_iconst dX8_seesNumber_73 (R32_lit rfl) ?_
            refine v8_171 dX8_seesNumber_74 rfl ⟨rfl, rfl⟩ ⟨rfl, rfl⟩ ct_X8_errs (fun r4 M4 N4 hr4 hq4 => ?_)
            obtain ⟨y1, y2, rfl⟩ := hq4
            refine go_if_eq (tgt := 84) dX8_seesNumber_77 rfl (fun h77 => ?_) (fun h77 => ?_)
            · refine go_iconst dX8_seesNumber_84 (R32_lit rfl) ?_
              refine go_retz dX8_seesNumber_85 (by first | exact Or.inl rfl | exact Or.inr rfl | omega) ?_
              first
              | (exfalso; omega)
              | exact ⟨Or.inr (Or.inr ⟨h28, by omega, rfl, v26, RD⟩), fE, rfl⟩
              | (have o3 := (OT_fl (b := b) (k := k) (M := Md) (w := 2) (R := nmA b s.1) (S := s.2) rfl y1 y2 RD.1.2.1).2.2 y1
                 exact ⟨Or.inr (Or.inl ⟨h28, by omega, rfl, o3.1, o3.2⟩), fE.tr (by rw [y2]; exact flM_K.up (by decide) (by decide)), rfl⟩)
            · refine go_iconst dX8_seesNumber_80 (R32_lit rfl) ?_
              refine go_goto (tgt := 85) dX8_seesNumber_81 rfl ?_
              refine go_retz dX8_seesNumber_85 (by first | exact Or.inl rfl | exact Or.inr rfl | omega) ?_
              first
              | (exfalso; omega)
              | exact ⟨Or.inr (Or.inr ⟨h28, by omega, rfl, v26, RD⟩), fE, rfl⟩
              | (have o3 := (OT_fl (b := b) (k := k) (M := Md) (w := 2) (R := nmA b s.1) (S := s.2) rfl y1 y2 RD.1.2.1).2.2 y1
                 exact ⟨Or.inr (Or.inl ⟨h28, by omega, rfl, o3.1, o3.2⟩), fE.tr (by rw [y2]; exact flM_K.up (by decide) (by decide)), rfl⟩)
      · refine go_aload_n dX8_seesNumber_31 rfl rfl ?_
        refine go_iconst dX8_seesNumber_32 (R32_lit rfl) ?_
        refine v8_171 dX8_seesNumber_33 rfl ⟨rfl, rfl⟩ ⟨rfl, rfl⟩ ct_X8_errs (fun r3 M3 N3 hr3 hq3 => ?_)
        refine go_retz dX8_seesNumber_36 (by first | exact Or.inl rfl | exact Or.inr rfl | omega) ?_
        obtain ⟨y1, y2, rfl⟩ := hq3
        have o := OT_fl (b := b) (k := k) (M := Mc) (w := 1) (R := nmA b s.1) (S := s.2) rfl y1 y2 RA.1.2.1
        have o3 := o.2.2 y1
        exact ⟨Or.inl ⟨h28, y1, o3.1, o3.2⟩, fA.tr (by rw [y2]; exact flM_K.up (by decide) (by decide)), rfl⟩
  refine go_icmp_ne (tgt := 13) dX8_seesNumber_6 rfl (fun h6 => ?_) (fun h6 => ?_)
  · refine go_iconst dX8_seesNumber_13 (R32_lit rfl) ?_
    exact jn14 _ (by first | rw [if_pos (by omega)] | rw [if_neg (by omega)])
  · refine go_iconst dX8_seesNumber_9 (R32_lit rfl) ?_
    refine go_goto (tgt := 14) dX8_seesNumber_10 rfl ?_
    exact jn14 _ (by first | rw [if_pos (by omega)] | rw [if_neg (by omega)])
set_option maxRecDepth 100000 in
set_option maxHeartbeats 4000000 in
theorem ct_X8_isKept {E : Ev} {M : Mm} {N : Nn} {b : Int → Int} {k : Int} {s : Rs} (hE : ES E) (hR : RR b k M s) : Ct E yX8_isKept cX8_isKept 1 ((some .boolean)) (rmH 6) [vr (29, 0, 0)] M N (qi (fun r M1 N1 => r = (if kpb b s.1 = true then 1 else 0) ∧ M = M1 ∧ N = N1)) := by
  refine ct_of (own := RX8) (L0 := [vr (29, 0, 0)]) rfl (by decide +kernel) rfl rfl ?_
  refine go_aload_n dX8_isKept_0 rfl rfl ?_
  refine s8_181 hE dX8_isKept_1 ?_
  refine v8_167 dX8_isKept_3 rfl ⟨rfl, rfl⟩ ⟨rfl, rfl⟩ (ct_X8_isName hE (w := 0) (by decide) hR.bd.2.2.2.1 hR.bd.2.2.2.2 hR.bd.2.1 hR.bd.2.2.1) (fun r0 M0 N0 hr0 hq0 => ?_)
  obtain ⟨z0, rfl, rfl⟩ := hq0
  have w0 := hR.nm (by decide) z0
  refine go_if_ne (tgt := 72) dX8_isKept_6 rfl (fun h6 => ?_) (fun h6 => ?_)
  · refine go_iconst dX8_isKept_72 (R32_lit rfl) ?_
    refine go_goto (tgt := 77) dX8_isKept_73 rfl ?_
    refine go_retz dX8_isKept_77 (by first | exact Or.inl rfl | exact Or.inr rfl | omega) ?_
    refine ⟨?_, rfl, rfl⟩
    first
    | (rw [if_neg (by unfold kpb; rw [u0, u1, u2, u3, u4, u5, u6, u7]; decide)]; done)
    | (have u : wdR b s.1 7 = true := w7.elim (fun q => q.1) (fun q => absurd q.2 (by omega))
       rw [if_pos (by unfold kpb; rw [u]; simp)])
    | (have u : wdR b s.1 6 = true := w6.elim (fun q => q.1) (fun q => absurd q.2 (by omega))
       rw [if_pos (by unfold kpb; rw [u]; simp)])
    | (have u : wdR b s.1 5 = true := w5.elim (fun q => q.1) (fun q => absurd q.2 (by omega))
       rw [if_pos (by unfold kpb; rw [u]; simp)])
    | (have u : wdR b s.1 4 = true := w4.elim (fun q => q.1) (fun q => absurd q.2 (by omega))
       rw [if_pos (by unfold kpb; rw [u]; simp)])
    | (have u : wdR b s.1 3 = true := w3.elim (fun q => q.1) (fun q => absurd q.2 (by omega))
       rw [if_pos (by unfold kpb; rw [u]; simp)])
    | (have u : wdR b s.1 2 = true := w2.elim (fun q => q.1) (fun q => absurd q.2 (by omega))
       rw [if_pos (by unfold kpb; rw [u]; simp)])
    | (have u : wdR b s.1 1 = true := w1.elim (fun q => q.1) (fun q => absurd q.2 (by omega))
       rw [if_pos (by unfold kpb; rw [u]; simp)])
    | (have u : wdR b s.1 0 = true := w0.elim (fun q => q.1) (fun q => absurd q.2 (by omega))
       rw [if_pos (by unfold kpb; rw [u]; simp)])
  · have u0 : wdR b s.1 0 = false := w0.elim (fun q => absurd q.2 (by omega)) (fun q => q.1)
    refine go_aload_n dX8_isKept_9 rfl rfl ?_
    refine s8_183 hE dX8_isKept_10 ?_
    refine v8_167 dX8_isKept_12 rfl ⟨rfl, rfl⟩ ⟨rfl, rfl⟩ (ct_X8_isName hE (w := 1) (by decide) hR.bd.2.2.2.1 hR.bd.2.2.2.2 hR.bd.2.1 hR.bd.2.2.1) (fun r1 M1 N1 hr1 hq1 => ?_)
    obtain ⟨z1, rfl, rfl⟩ := hq1
    have w1 := hR.nm (by decide) z1
    refine go_if_ne (tgt := 72) dX8_isKept_15 rfl (fun h15 => ?_) (fun h15 => ?_)
    · refine go_iconst dX8_isKept_72 (R32_lit rfl) ?_
      refine go_goto (tgt := 77) dX8_isKept_73 rfl ?_
      refine go_retz dX8_isKept_77 (by first | exact Or.inl rfl | exact Or.inr rfl | omega) ?_
      refine ⟨?_, rfl, rfl⟩
      first
      | (rw [if_neg (by unfold kpb; rw [u0, u1, u2, u3, u4, u5, u6, u7]; decide)]; done)
      | (have u : wdR b s.1 7 = true := w7.elim (fun q => q.1) (fun q => absurd q.2 (by omega))
         rw [if_pos (by unfold kpb; rw [u]; simp)])
      | (have u : wdR b s.1 6 = true := w6.elim (fun q => q.1) (fun q => absurd q.2 (by omega))
         rw [if_pos (by unfold kpb; rw [u]; simp)])
      | (have u : wdR b s.1 5 = true := w5.elim (fun q => q.1) (fun q => absurd q.2 (by omega))
         rw [if_pos (by unfold kpb; rw [u]; simp)])
      | (have u : wdR b s.1 4 = true := w4.elim (fun q => q.1) (fun q => absurd q.2 (by omega))
         rw [if_pos (by unfold kpb; rw [u]; simp)])
      | (have u : wdR b s.1 3 = true := w3.elim (fun q => q.1) (fun q => absurd q.2 (by omega))
         rw [if_pos (by unfold kpb; rw [u]; simp)])
      | (have u : wdR b s.1 2 = true := w2.elim (fun q => q.1) (fun q => absurd q.2 (by omega))
         rw [if_pos (by unfold kpb; rw [u]; simp)])
      | (have u : wdR b s.1 1 = true := w1.elim (fun q => q.1) (fun q => absurd q.2 (by omega))
         rw [if_pos (by unfold kpb; rw [u]; simp)])
      | (have u : wdR b s.1 0 = true := w0.elim (fun q => q.1) (fun q => absurd q.2 (by omega))
         rw [if_pos (by unfold kpb; rw [u]; simp)])
    · have u1 : wdR b s.1 1 = false := w1.elim (fun q => absurd q.2 (by omega)) (fun q => q.1)
      refine go_aload_n dX8_isKept_18 rfl rfl ?_
      refine s8_184 hE dX8_isKept_19 ?_
      refine v8_167 dX8_isKept_21 rfl ⟨rfl, rfl⟩ ⟨rfl, rfl⟩ (ct_X8_isName hE (w := 2) (by decide) hR.bd.2.2.2.1 hR.bd.2.2.2.2 hR.bd.2.1 hR.bd.2.2.1) (fun r2 M2 N2 hr2 hq2 => ?_)
      obtain ⟨z2, rfl, rfl⟩ := hq2
      have w2 := hR.nm (by decide) z2
      refine go_if_ne (tgt := 72) dX8_isKept_24 rfl (fun h24 => ?_) (fun h24 => ?_)
      · refine go_iconst dX8_isKept_72 (R32_lit rfl) ?_
        refine go_goto (tgt := 77) dX8_isKept_73 rfl ?_
        refine go_retz dX8_isKept_77 (by first | exact Or.inl rfl | exact Or.inr rfl | omega) ?_
        refine ⟨?_, rfl, rfl⟩
        first
        | (rw [if_neg (by unfold kpb; rw [u0, u1, u2, u3, u4, u5, u6, u7]; decide)]; done)
        | (have u : wdR b s.1 7 = true := w7.elim (fun q => q.1) (fun q => absurd q.2 (by omega))
           rw [if_pos (by unfold kpb; rw [u]; simp)])
        | (have u : wdR b s.1 6 = true := w6.elim (fun q => q.1) (fun q => absurd q.2 (by omega))
           rw [if_pos (by unfold kpb; rw [u]; simp)])
        | (have u : wdR b s.1 5 = true := w5.elim (fun q => q.1) (fun q => absurd q.2 (by omega))
           rw [if_pos (by unfold kpb; rw [u]; simp)])
        | (have u : wdR b s.1 4 = true := w4.elim (fun q => q.1) (fun q => absurd q.2 (by omega))
           rw [if_pos (by unfold kpb; rw [u]; simp)])
        | (have u : wdR b s.1 3 = true := w3.elim (fun q => q.1) (fun q => absurd q.2 (by omega))
           rw [if_pos (by unfold kpb; rw [u]; simp)])
        | (have u : wdR b s.1 2 = true := w2.elim (fun q => q.1) (fun q => absurd q.2 (by omega))
           rw [if_pos (by unfold kpb; rw [u]; simp)])
        | (have u : wdR b s.1 1 = true := w1.elim (fun q => q.1) (fun q => absurd q.2 (by omega))
           rw [if_pos (by unfold kpb; rw [u]; simp)])
        | (have u : wdR b s.1 0 = true := w0.elim (fun q => q.1) (fun q => absurd q.2 (by omega))
           rw [if_pos (by unfold kpb; rw [u]; simp)])
      · have u2 : wdR b s.1 2 = false := w2.elim (fun q => absurd q.2 (by omega)) (fun q => q.1)
        refine go_aload_n dX8_isKept_27 rfl rfl ?_
        refine s8_185 hE dX8_isKept_28 ?_
        refine v8_167 dX8_isKept_30 rfl ⟨rfl, rfl⟩ ⟨rfl, rfl⟩ (ct_X8_isName hE (w := 3) (by decide) hR.bd.2.2.2.1 hR.bd.2.2.2.2 hR.bd.2.1 hR.bd.2.2.1) (fun r3 M3 N3 hr3 hq3 => ?_)
        obtain ⟨z3, rfl, rfl⟩ := hq3
        have w3 := hR.nm (by decide) z3
        refine go_if_ne (tgt := 72) dX8_isKept_33 rfl (fun h33 => ?_) (fun h33 => ?_)
        · refine go_iconst dX8_isKept_72 (R32_lit rfl) ?_
          refine go_goto (tgt := 77) dX8_isKept_73 rfl ?_
          refine go_retz dX8_isKept_77 (by first | exact Or.inl rfl | exact Or.inr rfl | omega) ?_
          refine ⟨?_, rfl, rfl⟩
          first
          | (rw [if_neg (by unfold kpb; rw [u0, u1, u2, u3, u4, u5, u6, u7]; decide)]; done)
          | (have u : wdR b s.1 7 = true := w7.elim (fun q => q.1) (fun q => absurd q.2 (by omega))
             rw [if_pos (by unfold kpb; rw [u]; simp)])
          | (have u : wdR b s.1 6 = true := w6.elim (fun q => q.1) (fun q => absurd q.2 (by omega))
             rw [if_pos (by unfold kpb; rw [u]; simp)])
          | (have u : wdR b s.1 5 = true := w5.elim (fun q => q.1) (fun q => absurd q.2 (by omega))
             rw [if_pos (by unfold kpb; rw [u]; simp)])
          | (have u : wdR b s.1 4 = true := w4.elim (fun q => q.1) (fun q => absurd q.2 (by omega))
             rw [if_pos (by unfold kpb; rw [u]; simp)])
          | (have u : wdR b s.1 3 = true := w3.elim (fun q => q.1) (fun q => absurd q.2 (by omega))
             rw [if_pos (by unfold kpb; rw [u]; simp)])
          | (have u : wdR b s.1 2 = true := w2.elim (fun q => q.1) (fun q => absurd q.2 (by omega))
             rw [if_pos (by unfold kpb; rw [u]; simp)])
          | (have u : wdR b s.1 1 = true := w1.elim (fun q => q.1) (fun q => absurd q.2 (by omega))
             rw [if_pos (by unfold kpb; rw [u]; simp)])
          | (have u : wdR b s.1 0 = true := w0.elim (fun q => q.1) (fun q => absurd q.2 (by omega))
             rw [if_pos (by unfold kpb; rw [u]; simp)])
        · have u3 : wdR b s.1 3 = false := w3.elim (fun q => absurd q.2 (by omega)) (fun q => q.1)
          refine go_aload_n dX8_isKept_36 rfl rfl ?_
          refine s8_187 hE dX8_isKept_37 ?_
          refine v8_167 dX8_isKept_39 rfl ⟨rfl, rfl⟩ ⟨rfl, rfl⟩ (ct_X8_isName hE (w := 4) (by decide) hR.bd.2.2.2.1 hR.bd.2.2.2.2 hR.bd.2.1 hR.bd.2.2.1) (fun r4 M4 N4 hr4 hq4 => ?_)
          obtain ⟨z4, rfl, rfl⟩ := hq4
          have w4 := hR.nm (by decide) z4
          refine go_if_ne (tgt := 72) dX8_isKept_42 rfl (fun h42 => ?_) (fun h42 => ?_)
          · refine go_iconst dX8_isKept_72 (R32_lit rfl) ?_
            refine go_goto (tgt := 77) dX8_isKept_73 rfl ?_
            refine go_retz dX8_isKept_77 (by first | exact Or.inl rfl | exact Or.inr rfl | omega) ?_
            refine ⟨?_, rfl, rfl⟩
            first
            | (rw [if_neg (by unfold kpb; rw [u0, u1, u2, u3, u4, u5, u6, u7]; decide)]; done)
            | (have u : wdR b s.1 7 = true := w7.elim (fun q => q.1) (fun q => absurd q.2 (by omega))
               rw [if_pos (by unfold kpb; rw [u]; simp)])
            | (have u : wdR b s.1 6 = true := w6.elim (fun q => q.1) (fun q => absurd q.2 (by omega))
               rw [if_pos (by unfold kpb; rw [u]; simp)])
            | (have u : wdR b s.1 5 = true := w5.elim (fun q => q.1) (fun q => absurd q.2 (by omega))
               rw [if_pos (by unfold kpb; rw [u]; simp)])
            | (have u : wdR b s.1 4 = true := w4.elim (fun q => q.1) (fun q => absurd q.2 (by omega))
               rw [if_pos (by unfold kpb; rw [u]; simp)])
            | (have u : wdR b s.1 3 = true := w3.elim (fun q => q.1) (fun q => absurd q.2 (by omega))
               rw [if_pos (by unfold kpb; rw [u]; simp)])
            | (have u : wdR b s.1 2 = true := w2.elim (fun q => q.1) (fun q => absurd q.2 (by omega))
               rw [if_pos (by unfold kpb; rw [u]; simp)])
            | (have u : wdR b s.1 1 = true := w1.elim (fun q => q.1) (fun q => absurd q.2 (by omega))
               rw [if_pos (by unfold kpb; rw [u]; simp)])
            | (have u : wdR b s.1 0 = true := w0.elim (fun q => q.1) (fun q => absurd q.2 (by omega))
               rw [if_pos (by unfold kpb; rw [u]; simp)])
          · have u4 : wdR b s.1 4 = false := w4.elim (fun q => absurd q.2 (by omega)) (fun q => q.1)
            refine go_aload_n dX8_isKept_45 rfl rfl ?_
            refine s8_189 hE dX8_isKept_46 ?_
            refine v8_167 dX8_isKept_48 rfl ⟨rfl, rfl⟩ ⟨rfl, rfl⟩ (ct_X8_isName hE (w := 5) (by decide) hR.bd.2.2.2.1 hR.bd.2.2.2.2 hR.bd.2.1 hR.bd.2.2.1) (fun r5 M5 N5 hr5 hq5 => ?_)
            obtain ⟨z5, rfl, rfl⟩ := hq5
            have w5 := hR.nm (by decide) z5
            refine go_if_ne (tgt := 72) dX8_isKept_51 rfl (fun h51 => ?_) (fun h51 => ?_)
            · refine go_iconst dX8_isKept_72 (R32_lit rfl) ?_
              refine go_goto (tgt := 77) dX8_isKept_73 rfl ?_
              refine go_retz dX8_isKept_77 (by first | exact Or.inl rfl | exact Or.inr rfl | omega) ?_
              refine ⟨?_, rfl, rfl⟩
              first
              | (rw [if_neg (by unfold kpb; rw [u0, u1, u2, u3, u4, u5, u6, u7]; decide)]; done)
              | (have u : wdR b s.1 7 = true := w7.elim (fun q => q.1) (fun q => absurd q.2 (by omega))
                 rw [if_pos (by unfold kpb; rw [u]; simp)])
              | (have u : wdR b s.1 6 = true := w6.elim (fun q => q.1) (fun q => absurd q.2 (by omega))
                 rw [if_pos (by unfold kpb; rw [u]; simp)])
              | (have u : wdR b s.1 5 = true := w5.elim (fun q => q.1) (fun q => absurd q.2 (by omega))
                 rw [if_pos (by unfold kpb; rw [u]; simp)])
              | (have u : wdR b s.1 4 = true := w4.elim (fun q => q.1) (fun q => absurd q.2 (by omega))
                 rw [if_pos (by unfold kpb; rw [u]; simp)])
              | (have u : wdR b s.1 3 = true := w3.elim (fun q => q.1) (fun q => absurd q.2 (by omega))
                 rw [if_pos (by unfold kpb; rw [u]; simp)])
              | (have u : wdR b s.1 2 = true := w2.elim (fun q => q.1) (fun q => absurd q.2 (by omega))
                 rw [if_pos (by unfold kpb; rw [u]; simp)])
              | (have u : wdR b s.1 1 = true := w1.elim (fun q => q.1) (fun q => absurd q.2 (by omega))
                 rw [if_pos (by unfold kpb; rw [u]; simp)])
              | (have u : wdR b s.1 0 = true := w0.elim (fun q => q.1) (fun q => absurd q.2 (by omega))
                 rw [if_pos (by unfold kpb; rw [u]; simp)])
            · have u5 : wdR b s.1 5 = false := w5.elim (fun q => absurd q.2 (by omega)) (fun q => q.1)
              refine go_aload_n dX8_isKept_54 rfl rfl ?_
              refine s8_191 hE dX8_isKept_55 ?_
              refine v8_167 dX8_isKept_57 rfl ⟨rfl, rfl⟩ ⟨rfl, rfl⟩ (ct_X8_isName hE (w := 6) (by decide) hR.bd.2.2.2.1 hR.bd.2.2.2.2 hR.bd.2.1 hR.bd.2.2.1) (fun r6 M6 N6 hr6 hq6 => ?_)
              obtain ⟨z6, rfl, rfl⟩ := hq6
              have w6 := hR.nm (by decide) z6
              refine go_if_ne (tgt := 72) dX8_isKept_60 rfl (fun h60 => ?_) (fun h60 => ?_)
              · refine go_iconst dX8_isKept_72 (R32_lit rfl) ?_
                refine go_goto (tgt := 77) dX8_isKept_73 rfl ?_
                refine go_retz dX8_isKept_77 (by first | exact Or.inl rfl | exact Or.inr rfl | omega) ?_
                refine ⟨?_, rfl, rfl⟩
                first
                | (rw [if_neg (by unfold kpb; rw [u0, u1, u2, u3, u4, u5, u6, u7]; decide)]; done)
                | (have u : wdR b s.1 7 = true := w7.elim (fun q => q.1) (fun q => absurd q.2 (by omega))
                   rw [if_pos (by unfold kpb; rw [u]; simp)])
                | (have u : wdR b s.1 6 = true := w6.elim (fun q => q.1) (fun q => absurd q.2 (by omega))
                   rw [if_pos (by unfold kpb; rw [u]; simp)])
                | (have u : wdR b s.1 5 = true := w5.elim (fun q => q.1) (fun q => absurd q.2 (by omega))
                   rw [if_pos (by unfold kpb; rw [u]; simp)])
                | (have u : wdR b s.1 4 = true := w4.elim (fun q => q.1) (fun q => absurd q.2 (by omega))
                   rw [if_pos (by unfold kpb; rw [u]; simp)])
                | (have u : wdR b s.1 3 = true := w3.elim (fun q => q.1) (fun q => absurd q.2 (by omega))
                   rw [if_pos (by unfold kpb; rw [u]; simp)])
                | (have u : wdR b s.1 2 = true := w2.elim (fun q => q.1) (fun q => absurd q.2 (by omega))
                   rw [if_pos (by unfold kpb; rw [u]; simp)])
                | (have u : wdR b s.1 1 = true := w1.elim (fun q => q.1) (fun q => absurd q.2 (by omega))
                   rw [if_pos (by unfold kpb; rw [u]; simp)])
                | (have u : wdR b s.1 0 = true := w0.elim (fun q => q.1) (fun q => absurd q.2 (by omega))
                   rw [if_pos (by unfold kpb; rw [u]; simp)])
              · have u6 : wdR b s.1 6 = false := w6.elim (fun q => absurd q.2 (by omega)) (fun q => q.1)
                refine go_aload_n dX8_isKept_63 rfl rfl ?_
                refine s8_193 hE dX8_isKept_64 ?_
                refine v8_167 dX8_isKept_66 rfl ⟨rfl, rfl⟩ ⟨rfl, rfl⟩ (ct_X8_isName hE (w := 7) (by decide) hR.bd.2.2.2.1 hR.bd.2.2.2.2 hR.bd.2.1 hR.bd.2.2.1) (fun r7 M7 N7 hr7 hq7 => ?_)
                obtain ⟨z7, rfl, rfl⟩ := hq7
                have w7 := hR.nm (by decide) z7
                refine go_if_eq (tgt := 76) dX8_isKept_69 rfl (fun h69 => ?_) (fun h69 => ?_)
                · have u7 : wdR b s.1 7 = false := w7.elim (fun q => absurd q.2 (by omega)) (fun q => q.1)
                  refine go_iconst dX8_isKept_76 (R32_lit rfl) ?_
                  refine go_retz dX8_isKept_77 (by first | exact Or.inl rfl | exact Or.inr rfl | omega) ?_
                  refine ⟨?_, rfl, rfl⟩
                  first
                  | (rw [if_neg (by unfold kpb; rw [u0, u1, u2, u3, u4, u5, u6, u7]; decide)]; done)
                  | (have u : wdR b s.1 7 = true := w7.elim (fun q => q.1) (fun q => absurd q.2 (by omega))
                     rw [if_pos (by unfold kpb; rw [u]; simp)])
                  | (have u : wdR b s.1 6 = true := w6.elim (fun q => q.1) (fun q => absurd q.2 (by omega))
                     rw [if_pos (by unfold kpb; rw [u]; simp)])
                  | (have u : wdR b s.1 5 = true := w5.elim (fun q => q.1) (fun q => absurd q.2 (by omega))
                     rw [if_pos (by unfold kpb; rw [u]; simp)])
                  | (have u : wdR b s.1 4 = true := w4.elim (fun q => q.1) (fun q => absurd q.2 (by omega))
                     rw [if_pos (by unfold kpb; rw [u]; simp)])
                  | (have u : wdR b s.1 3 = true := w3.elim (fun q => q.1) (fun q => absurd q.2 (by omega))
                     rw [if_pos (by unfold kpb; rw [u]; simp)])
                  | (have u : wdR b s.1 2 = true := w2.elim (fun q => q.1) (fun q => absurd q.2 (by omega))
                     rw [if_pos (by unfold kpb; rw [u]; simp)])
                  | (have u : wdR b s.1 1 = true := w1.elim (fun q => q.1) (fun q => absurd q.2 (by omega))
                     rw [if_pos (by unfold kpb; rw [u]; simp)])
                  | (have u : wdR b s.1 0 = true := w0.elim (fun q => q.1) (fun q => absurd q.2 (by omega))
                     rw [if_pos (by unfold kpb; rw [u]; simp)])
                · refine go_iconst dX8_isKept_72 (R32_lit rfl) ?_
                  refine go_goto (tgt := 77) dX8_isKept_73 rfl ?_
                  refine go_retz dX8_isKept_77 (by first | exact Or.inl rfl | exact Or.inr rfl | omega) ?_
                  refine ⟨?_, rfl, rfl⟩
                  first
                  | (rw [if_neg (by unfold kpb; rw [u0, u1, u2, u3, u4, u5, u6, u7]; decide)]; done)
                  | (have u : wdR b s.1 7 = true := w7.elim (fun q => q.1) (fun q => absurd q.2 (by omega))
                     rw [if_pos (by unfold kpb; rw [u]; simp)])
                  | (have u : wdR b s.1 6 = true := w6.elim (fun q => q.1) (fun q => absurd q.2 (by omega))
                     rw [if_pos (by unfold kpb; rw [u]; simp)])
                  | (have u : wdR b s.1 5 = true := w5.elim (fun q => q.1) (fun q => absurd q.2 (by omega))
                     rw [if_pos (by unfold kpb; rw [u]; simp)])
                  | (have u : wdR b s.1 4 = true := w4.elim (fun q => q.1) (fun q => absurd q.2 (by omega))
                     rw [if_pos (by unfold kpb; rw [u]; simp)])
                  | (have u : wdR b s.1 3 = true := w3.elim (fun q => q.1) (fun q => absurd q.2 (by omega))
                     rw [if_pos (by unfold kpb; rw [u]; simp)])
                  | (have u : wdR b s.1 2 = true := w2.elim (fun q => q.1) (fun q => absurd q.2 (by omega))
                     rw [if_pos (by unfold kpb; rw [u]; simp)])
                  | (have u : wdR b s.1 1 = true := w1.elim (fun q => q.1) (fun q => absurd q.2 (by omega))
                     rw [if_pos (by unfold kpb; rw [u]; simp)])
                  | (have u : wdR b s.1 0 = true := w0.elim (fun q => q.1) (fun q => absurd q.2 (by omega))
                     rw [if_pos (by unfold kpb; rw [u]; simp)])
set_option maxRecDepth 100000 in
set_option maxHeartbeats 4000000 in
theorem ct_X8_isNameHere {E : Ev} {M : Mm} {N : Nn} {b : Int → Int} {k : Int} {s : Rs} (hE : ES E) (hR : RR b k M s) : Ct E yX8_isNameHere cX8_isNameHere 1 ((some .boolean)) (rmH 7) [vr (29, 0, 0)] M N (qi (fun r M1 N1 => r = (if snb b s.1 = true then 1 else 0) ∧ M = M1 ∧ N = N1)) := by
  refine ct_of (own := RX8) (L0 := [vr (29, 0, 0)]) rfl (by decide +kernel) rfl rfl ?_
  refine go_aload_n dX8_isNameHere_0 rfl rfl ?_
  refine g8_133 dX8_isNameHere_1 ?_
  rw [hR.1.2.2.2.1]
  refine go_iconst dX8_isNameHere_4 (R32_lit rfl) ?_
  refine go_icmp_ne (tgt := 19) dX8_isNameHere_5 rfl (fun h5 => ?_) (fun h5 => ?_)
  · refine go_iconst dX8_isNameHere_19 (R32_lit rfl) ?_
    refine go_retz dX8_isNameHere_20 (by first | exact Or.inl rfl | exact Or.inr rfl | omega) ?_
    refine ⟨?_, rfl, rfl⟩
    rw [snb_kp]
    first
    | (rw [if_pos (by rw [decide_eq_true h5]; have := (mt (b1_iff z1').mpr (by omega)); revert this; cases kpb b s.1 <;> simp)]; done)
    | (rw [if_neg (by have := (b1_iff z1').mp (by omega); rw [this]; simp)]; done)
    | (rw [if_neg (by rw [decide_eq_false h5]; simp)]; done)
  · refine go_aload_n dX8_isNameHere_8 rfl rfl ?_
    refine v8_195 dX8_isNameHere_9 rfl ⟨rfl, rfl⟩ ⟨rfl, rfl⟩ (ct_X8_isKept hE hR) (fun r1 M1 N1 hr1 hq1 => ?_)
    obtain ⟨z1, rfl, rfl⟩ := hq1
    have z1' := z1
    refine go_if_ne (tgt := 19) dX8_isNameHere_12 rfl (fun h12 => ?_) (fun h12 => ?_)
    · refine go_iconst dX8_isNameHere_19 (R32_lit rfl) ?_
      refine go_retz dX8_isNameHere_20 (by first | exact Or.inl rfl | exact Or.inr rfl | omega) ?_
      refine ⟨?_, rfl, rfl⟩
      rw [snb_kp]
      first
      | (rw [if_pos (by rw [decide_eq_true h5]; have := (mt (b1_iff z1').mpr (by omega)); revert this; cases kpb b s.1 <;> simp)]; done)
      | (rw [if_neg (by have := (b1_iff z1').mp (by omega); rw [this]; simp)]; done)
      | (rw [if_neg (by rw [decide_eq_false h5]; simp)]; done)
    · refine go_iconst dX8_isNameHere_15 (R32_lit rfl) ?_
      refine go_goto (tgt := 20) dX8_isNameHere_16 rfl ?_
      refine go_retz dX8_isNameHere_20 (by first | exact Or.inl rfl | exact Or.inr rfl | omega) ?_
      refine ⟨?_, rfl, rfl⟩
      rw [snb_kp]
      first
      | (rw [if_pos (by rw [decide_eq_true h5]; have := (mt (b1_iff z1').mpr (by omega)); revert this; cases kpb b s.1 <;> simp)]; done)
      | (rw [if_neg (by have := (b1_iff z1').mp (by omega); rw [this]; simp)]; done)
      | (rw [if_neg (by rw [decide_eq_false h5]; simp)]; done)
theorem nmU_s {S : Pg} {x v c : Int} (h : v < c) : nmU S x (c - v).toNat v = if S 1 v = x then v else nmU S x (c - (v + 1)).toNat (v + 1) := by
  rw [show (c - v).toNat = (c - (v + 1)).toNat + 1 by omega]
  rfl
set_option maxRecDepth 100000 in
set_option maxHeartbeats 4000000 in
theorem lpI_X8_toldAt {E : Ev} {M : Mm} {N : Nn} {b : Int → Int} {k : Int} {s : Rs} {v X : Int} (hR : RR b k M s) (hk : s.1 5 = 2) (v0 : 0 ≤ v) (v1 : v < s.2 11 0) (k1 : s.2 1 v = s.1 8 → ∀ j, Go E RX8 cX8_toldAt 4 ((some .int)) (rmH 1) 0 0 (zM E (qi (fun r M1 N1 => r = X ∧ M = M1 ∧ N = N1))) 89 [vr (29, 0, 0), vi v, vi 1, vi j] [] M N) (k0 : s.2 1 v ≠ s.1 8 → ∀ j, Go E RX8 cX8_toldAt 4 ((some .int)) (rmH 1) 0 0 (zM E (qi (fun r M1 N1 => r = X ∧ M = M1 ∧ N = N1))) 89 [vr (29, 0, 0), vi v, vi 0, vi j] [] M N) : ∀ (n : Nat) (j i2 : Int), (j + n = M (30, 0, 25) v) → (0 ≤ j) → ((i2 = 1 ∧ M (30, 0, 25) v = M (29, 0, 0) 17 - M (29, 0, 0) 16 ∧ ∀ i, 0 ≤ i → i < j → b (M (30, 0, 24) v + i) = b (M (29, 0, 0) 16 + i)) ∨ (i2 = 0 ∧ s.2 1 v ≠ s.1 8)) → Go E RX8 cX8_toldAt 4 ((some .int)) (rmH 1) 0 0 (zM E (qi (fun r M1 N1 => r = X ∧ M = M1 ∧ N = N1))) 36 [vr (29, 0, 0), vi v, vi i2, vi j] [] M N := by
  intro n
  induction n using Nat.strongRecOn with
  | ind n ih =>
  intro j i2 hn j0 hi
  have bd := hR.bd
  have c22 := hR.1.2.2.2.2.2.1
  have c16 := hR.1.2.1
  have c17 := hR.1.2.2.1
  have d1 := hR.2.2.2.2.2.2.2.1
  have d2 := hR.2.2.2.2.2.2.2.2.1
  have eqn := nmO_eq (hR.2.2.2.1 v v0 v1) (hR.2.1 hk)
  have hN := hR.2.2.2.1 v v0 v1
  have hW := hR.2.1 hk
  rw [← c16, ← c17] at eqn
  unfold nmO at hN hW
  rw [← c16, ← c17] at hW
  refine go_iload_n dX8_toldAt_36 rfl ?_
  refine go_aload_n dX8_toldAt_37 rfl rfl ?_
  refine g8_43 dX8_toldAt_38 ?_
  refine go_iload_n dX8_toldAt_41 rfl ?_
  refine go_iald dX8_toldAt_42 rfl (by omega) (by omega) ?_
  refine go_icmp_ge (tgt := 89) dX8_toldAt_43 rfl (fun h43 => ?_) (fun h43 => ?_)
  · rcases hi with ⟨rfl, hl, hp⟩ | ⟨rfl, hd⟩
    · first
      | exact k1 (eqn.mpr ⟨hl, fun i i0 i1 => hp i i0 (by omega)⟩) j
      | (exfalso; omega)
    · exact k0 hd j
  · refine go_iload_n dX8_toldAt_46 rfl ?_
    refine go_if_eq (tgt := 89) dX8_toldAt_47 rfl (fun h47 => ?_) (fun h47 => ?_)
    · rcases hi with ⟨rfl, hl, hp⟩ | ⟨rfl, hd⟩
      · first
        | exact k1 (eqn.mpr ⟨hl, fun i i0 i1 => hp i i0 (by omega)⟩) j
        | (exfalso; omega)
      · exact k0 hd j
    · obtain ⟨rfl, hl, hp⟩ : i2 = 1 ∧ M (30, 0, 25) v = M (29, 0, 0) 17 - M (29, 0, 0) 16 ∧ ∀ i, 0 ≤ i → i < j → b (M (30, 0, 24) v + i) = b (M (29, 0, 0) 16 + i) := hi.elim id (fun q => absurd q.1 h47)
      have ta := hR.2.2.1 (M (30, 0, 24) v + j) (by omega) (by omega)
      have tb := hR.2.2.1 (M (29, 0, 0) 16 + j) (by omega) (by omega)
      refine go_aload_n dX8_toldAt_50 rfl rfl ?_
      refine g8_15 dX8_toldAt_51 ?_
      refine go_aload_n dX8_toldAt_54 rfl rfl ?_
      refine g8_40 dX8_toldAt_55 ?_
      refine go_iload_n dX8_toldAt_58 rfl ?_
      refine go_iald dX8_toldAt_59 rfl (by omega) (by omega) ?_
      refine go_iload_n dX8_toldAt_60 rfl ?_
      refine go_iaddc dX8_toldAt_61 ⟨by omega, by omega⟩ ?_
      refine go_iald dX8_toldAt_62 rfl (by omega) (by omega) ?_
      refine go_aload_n dX8_toldAt_63 rfl rfl ?_
      refine g8_15 dX8_toldAt_64 ?_
      refine go_aload_n dX8_toldAt_67 rfl rfl ?_
      refine g8_130 dX8_toldAt_68 ?_
      refine go_iload_n dX8_toldAt_71 rfl ?_
      refine go_iaddc dX8_toldAt_72 ⟨by omega, by omega⟩ ?_
      refine go_iald dX8_toldAt_73 rfl (by omega) (by omega) ?_
      refine go_icmp_ne (tgt := 81) dX8_toldAt_74 rfl (fun h74 => ?_) (fun h74 => ?_)
      · refine go_iconst dX8_toldAt_81 (R32_lit rfl) ?_
        refine go_ist2 dX8_toldAt_82 rfl rfl ?_
        refine go_iinc3c dX8_toldAt_83 rfl rfl ⟨by omega, by omega⟩ ?_
        refine go_goto (tgt := 36) dX8_toldAt_86 rfl ?_
        first
        | exact ih (n - 1) (by omega) (j + 1) 1 (by omega) (by omega) (Or.inl ⟨rfl, hl, fun i i0 i1 => by
            by_cases z : i = j
            · rw [z]; omega
            · exact hp i i0 (by omega)⟩)
        | exact ih (n - 1) (by omega) (j + 1) 0 (by omega) (by omega) (Or.inr ⟨rfl, fun e => by
            have := (eqn.mp e).2 j (by omega) (by omega)
            omega⟩)
      · refine go_iconst dX8_toldAt_77 (R32_lit rfl) ?_
        refine go_goto (tgt := 82) dX8_toldAt_78 rfl ?_
        refine go_ist2 dX8_toldAt_82 rfl rfl ?_
        refine go_iinc3c dX8_toldAt_83 rfl rfl ⟨by omega, by omega⟩ ?_
        refine go_goto (tgt := 36) dX8_toldAt_86 rfl ?_
        first
        | exact ih (n - 1) (by omega) (j + 1) 1 (by omega) (by omega) (Or.inl ⟨rfl, hl, fun i i0 i1 => by
            by_cases z : i = j
            · rw [z]; omega
            · exact hp i i0 (by omega)⟩)
        | exact ih (n - 1) (by omega) (j + 1) 0 (by omega) (by omega) (Or.inr ⟨rfl, fun e => by
            have := (eqn.mp e).2 j (by omega) (by omega)
            omega⟩)
set_option maxRecDepth 100000 in
set_option maxHeartbeats 4000000 in
theorem lp_X8_toldAt {E : Ev} {M : Mm} {N : Nn} {b : Int → Int} {k : Int} {s : Rs} {X : Int} (hR : RR b k M s) (hk : s.1 5 = 2) : ∀ (n : Nat) (v : Int) (x2 x3 : Vv), (v + n = s.2 11 0) → (0 ≤ v) → (nmU s.2 (s.1 8) (s.2 11 0 - v).toNat v = X) → Go E RX8 cX8_toldAt 4 ((some .int)) (rmH 1) 0 0 (zM E (qi (fun r M1 N1 => r = X ∧ M = M1 ∧ N = N1))) 2 [vr (29, 0, 0), vi v, x2, x3] [] M N := by
  intro n
  induction n using Nat.strongRecOn with
  | ind n ih =>
  intro v x2 x3 hn v0 hX
  have bd := hR.bd
  have c22 := hR.1.2.2.2.2.2.1
  have c16 := hR.1.2.1
  have c17 := hR.1.2.2.1
  have d1 := hR.2.2.2.2.2.2.2.1
  have d2 := hR.2.2.2.2.2.2.2.2.1
  refine go_iload_n dX8_toldAt_2 rfl ?_
  refine go_aload_n dX8_toldAt_3 rfl rfl ?_
  refine g8_199 dX8_toldAt_4 ?_
  refine go_icmp_ge (tgt := 101) dX8_toldAt_7 rfl (fun h7 => ?_) (fun h7 => ?_)
  · refine go_iconst dX8_toldAt_101 (R32_lit rfl) ?_
    refine go_reti dX8_toldAt_102 ?_
    exact ⟨by rw [← hX, show (s.2 11 0 - v).toNat = 0 by omega]; rfl, rfl, rfl⟩
  · refine go_aload_n dX8_toldAt_10 rfl rfl ?_
    refine g8_43 dX8_toldAt_11 ?_
    refine go_iload_n dX8_toldAt_14 rfl ?_
    refine go_iald dX8_toldAt_15 rfl (by omega) (by omega) ?_
    refine go_aload_n dX8_toldAt_16 rfl rfl ?_
    refine g8_123 dX8_toldAt_17 ?_
    refine go_aload_n dX8_toldAt_20 rfl rfl ?_
    refine g8_130 dX8_toldAt_21 ?_
    refine go_isubc dX8_toldAt_24 ⟨by omega, by omega⟩ ?_
    refine go_icmp_ne (tgt := 32) dX8_toldAt_25 rfl (fun h25 => ?_) (fun h25 => ?_)
    · refine go_iconst dX8_toldAt_32 (R32_lit rfl) ?_
      refine go_ist2 dX8_toldAt_33 rfl rfl ?_
      refine go_iconst dX8_toldAt_34 (R32_lit rfl) ?_
      refine go_ist3 dX8_toldAt_35 rfl rfl ?_
      have hN := hR.2.2.2.1 v v0 (by omega)
      have hW := hR.2.1 hk
      have eqn := nmO_eq hN hW
      have hN2 := hN.2.1
      refine lpI_X8_toldAt hR hk v0 (by omega) ?_ ?_ (M (30, 0, 25) v).toNat 0 _ (by omega) (by omega) ?_
      · intro e j
        refine go_iload_n dX8_toldAt_89 rfl ?_
        refine go_if_eq (tgt := 95) dX8_toldAt_90 rfl (fun h90 => ?_) (fun h90 => ?_)
        · exfalso; omega
        · refine go_iload_n dX8_toldAt_93 rfl ?_
          exact go_reti dX8_toldAt_94 ⟨by rw [← hX, nmU_s (by omega), if_pos e], rfl, rfl⟩
      · intro e j
        refine go_iload_n dX8_toldAt_89 rfl ?_
        refine go_if_eq (tgt := 95) dX8_toldAt_90 rfl (fun h90 => ?_) (fun h90 => ?_)
        · refine go_iinc1c dX8_toldAt_95 rfl rfl ⟨by omega, by omega⟩ ?_
          refine go_goto (tgt := 2) dX8_toldAt_98 rfl ?_
          exact ih (n - 1) (by omega) (v + 1) _ _ (by omega) (by omega) (by rw [← hX, nmU_s (v := v) (by omega), if_neg e])
        · exact absurd rfl h90
      · first
        | exact Or.inl ⟨rfl, by omega, fun i i0 i1 => absurd i1 (by omega)⟩
        | exact Or.inr ⟨rfl, fun e => absurd (eqn.mp e).1 (by omega)⟩
    · refine go_iconst dX8_toldAt_28 (R32_lit rfl) ?_
      refine go_goto (tgt := 33) dX8_toldAt_29 rfl ?_
      refine go_ist2 dX8_toldAt_33 rfl rfl ?_
      refine go_iconst dX8_toldAt_34 (R32_lit rfl) ?_
      refine go_ist3 dX8_toldAt_35 rfl rfl ?_
      have hN := hR.2.2.2.1 v v0 (by omega)
      have hW := hR.2.1 hk
      have eqn := nmO_eq hN hW
      have hN2 := hN.2.1
      refine lpI_X8_toldAt hR hk v0 (by omega) ?_ ?_ (M (30, 0, 25) v).toNat 0 _ (by omega) (by omega) ?_
      · intro e j
        refine go_iload_n dX8_toldAt_89 rfl ?_
        refine go_if_eq (tgt := 95) dX8_toldAt_90 rfl (fun h90 => ?_) (fun h90 => ?_)
        · exfalso; omega
        · refine go_iload_n dX8_toldAt_93 rfl ?_
          exact go_reti dX8_toldAt_94 ⟨by rw [← hX, nmU_s (by omega), if_pos e], rfl, rfl⟩
      · intro e j
        refine go_iload_n dX8_toldAt_89 rfl ?_
        refine go_if_eq (tgt := 95) dX8_toldAt_90 rfl (fun h90 => ?_) (fun h90 => ?_)
        · refine go_iinc1c dX8_toldAt_95 rfl rfl ⟨by omega, by omega⟩ ?_
          refine go_goto (tgt := 2) dX8_toldAt_98 rfl ?_
          exact ih (n - 1) (by omega) (v + 1) _ _ (by omega) (by omega) (by rw [← hX, nmU_s (v := v) (by omega), if_neg e])
        · exact absurd rfl h90
      · first
        | exact Or.inl ⟨rfl, by omega, fun i i0 i1 => absurd i1 (by omega)⟩
        | exact Or.inr ⟨rfl, fun e => absurd (eqn.mp e).1 (by omega)⟩
set_option maxRecDepth 100000 in
set_option maxHeartbeats 4000000 in
theorem ct_X8_toldAt {E : Ev} {M : Mm} {N : Nn} {b : Int → Int} {k : Int} {s : Rs} (hR : RR b k M s) (hk : s.1 5 = 2) : Ct E yX8_toldAt cX8_toldAt 4 ((some .int)) (rmH 1) [vr (29, 0, 0)] M N (qi (fun r M1 N1 => r = nmF s.2 (s.1 8) ∧ M = M1 ∧ N = N1)) := by
  refine ct_of (own := RX8) (L0 := [vr (29, 0, 0), vn, vn, vn]) rfl (by decide +kernel) rfl rfl ?_
  refine go_iconst dX8_toldAt_0 (R32_lit rfl) ?_
  refine go_ist1 dX8_toldAt_1 rfl rfl ?_
  have d1 := hR.2.2.2.2.2.2.2.1
  exact lp_X8_toldAt hR hk (s.2 11 0).toNat 0 vn vn (by omega) (by omega) (by unfold nmF; rw [Int.sub_zero])
theorem snb_2 {b R : Int → Int} (h : snb b R = true) : R 5 = 2 := by
  unfold snb at h
  rw [Bool.and_eq_true, decide_eq_true_eq] at h
  exact h.1
theorem RR_nw {b : Int → Int} {k : Int} {M : Mm} {s : Rs} (h : RR b k M s) (h2 : s.1 5 = 2) : RR b k (wr (wr M (30, 0, 24) (s.2 11 0) (s.1 6)) (30, 0, 25) (s.2 11 0) (s.1 7 - s.1 6)) s ∧ nmO b ((wr (wr M (30, 0, 24) (s.2 11 0) (s.1 6)) (30, 0, 25) (s.2 11 0) (s.1 7 - s.1 6)) (30, 0, 24) (s.2 11 0)) ((wr (wr M (30, 0, 24) (s.2 11 0) (s.1 6)) (30, 0, 25) (s.2 11 0) (s.1 7 - s.1 6)) (30, 0, 25) (s.2 11 0)) (s.1 8) := by
  have hw := h.2.1 h2
  obtain ⟨c, g2, h3, h4, h5, h6, h7, h8⟩ := h
  have f : Kr [] [24, 25] M (wr (wr M (30, 0, 24) (s.2 11 0) (s.1 6)) (30, 0, 25) (s.2 11 0) (s.1 7 - s.1 6)) := (Kr.rf.wa (by decide)).wa (by decide)
  generalize hM : wr (wr M (30, 0, 24) (s.2 11 0) (s.1 6)) (30, 0, 25) (s.2 11 0) (s.1 7 - s.1 6) = M1 at f ⊢
  have e24 : ∀ i, M1 (30, 0, 24) i = if i = s.2 11 0 then s.1 6 else M (30, 0, 24) i := by
    intro i; rw [← hM, wr_nf (nm_ne3 (by decide)), upI_wr]; rfl
  have e25 : ∀ i, M1 (30, 0, 25) i = if i = s.2 11 0 then s.1 7 - s.1 6 else M (30, 0, 25) i := by
    intro i; rw [← hM, upI_wr, wr_nf (nm_ne3 (by decide))]; rfl
  refine ⟨⟨c.k f (by decide) (by decide) (by decide) (by decide) (by decide) (by decide) (by decide), g2, h3.k (f.a 4 (by decide)), ?_, h5.k (f.a 7 (by decide)) (f.a 8 (by decide)) (f.a 9 (by decide)) (f.a 10 (by decide)) (f.a 11 (by decide)) (f.a 12 (by decide)), h6.k (f.a 11 (by decide)) (f.a 12 (by decide)), h7, h8⟩, ?_⟩
  · intro v v0 v1
    rw [e24, e25, if_neg (by omega), if_neg (by omega)]
    exact h4 v v0 v1
  · rw [e24, e25, if_pos rfl, if_pos rfl]
    exact hw
set_option maxRecDepth 100000 in
set_option maxHeartbeats 4000000 in
theorem ct_X8_readName {E : Ev} {M : Mm} {N : Nn} {b : Int → Int} {k : Int} {s : Rs} (hE : ES E) (hR : RR b k M s) (h15 : s.2 11 0 < 15) : Ct E yX8_readName cX8_readName 1 ((some .boolean)) (rmH 8) [vr (29, 0, 0)] M N (qi (fun r M1 N1 => OT b k (pNw b s) r M1 ∧ (r ≠ 0 → nwR b M1 (pNw b s).2) ∧ Kr [16, 17, 18, 19, 20, 21] [24, 25] M M1 ∧ N = N1)) := by
  refine ct_of (own := RX8) (L0 := [vr (29, 0, 0)]) rfl (by decide +kernel) rfl rfl ?_
  refine go_aload_n dX8_readName_0 rfl rfl ?_
  refine v8_202 dX8_readName_1 rfl ⟨rfl, rfl⟩ ⟨rfl, rfl⟩ (ct_X8_isNameHere hE hR) (fun r1 M1 N1 hr1 hq1 => ?_)
  obtain ⟨z1, rfl, rfl⟩ := hq1
  have bd := hR.bd
  have c22 := hR.1.2.2.2.2.2.1
  have c16 := hR.1.2.1
  have c17 := hR.1.2.2.1
  have d1 := hR.2.2.2.2.2.2.2.1
  refine go_if_ne (tgt := 13) dX8_readName_4 rfl (fun h4 => ?_) (fun h4 => ?_)
  · have sb : snb b s.1 = true := (b1_iff z1).mp h4
    refine go_aload_n dX8_readName_13 rfl rfl ?_
    refine v8_205 dX8_readName_14 rfl ⟨rfl, rfl⟩ ⟨rfl, rfl⟩ (ct_X8_toldAt hR (snb_2 sb)) (fun r3 M3 N3 hr3 hq3 => ?_)
    obtain ⟨z3, rfl, rfl⟩ := hq3
    refine go_iconst dX8_readName_17 (R32_lit rfl) ?_
    refine go_icmp_eq (tgt := 27) dX8_readName_18 rfl (fun h18 => ?_) (fun h18 => ?_)
    · refine go_aload_n dX8_readName_27 rfl rfl ?_
      refine g8_40 dX8_readName_28 ?_
      refine go_aload_n dX8_readName_31 rfl rfl ?_
      refine g8_199 dX8_readName_32 ?_
      rw [c22]
      refine go_aload_n dX8_readName_35 rfl rfl ?_
      refine g8_130 dX8_readName_36 ?_
      rw [c16]
      refine go_iast dX8_readName_39 rfl (by omega) (by omega) ?_
      refine go_aload_n dX8_readName_40 rfl rfl ?_
      refine g8_43 dX8_readName_41 ?_
      refine go_aload_n dX8_readName_44 rfl rfl ?_
      refine g8_199 dX8_readName_45 ?_
      rw [wr_nf (nm_ne1 (by decide)), c22]
      refine go_aload_n dX8_readName_48 rfl rfl ?_
      refine g8_123 dX8_readName_49 ?_
      rw [wr_nf (nm_ne1 (by decide)), c17]
      refine go_aload_n dX8_readName_52 rfl rfl ?_
      refine g8_130 dX8_readName_53 ?_
      rw [wr_nf (nm_ne1 (by decide)), c16]
      refine go_isubc dX8_readName_56 ⟨by omega, by omega⟩ ?_
      refine go_iast dX8_readName_57 rfl (by omega) (by omega) ?_
      obtain ⟨RC0, NM0⟩ := RR_nw hR (snb_2 sb)
      refine go_nmM (fun Mc eMc => ?_)
      have fC : Kr [] [24, 25] M Mc := by rw [eMc]; exact (Kr.rf.wa (by decide)).wa (by decide)
      rw [← eMc] at RC0 NM0
      clear eMc
      refine go_aload_n dX8_readName_58 rfl rfl ?_
      refine v8_175 dX8_readName_59 rfl ⟨rfl, rfl⟩ ⟨rfl, rfl⟩ (ct_X8_goesOn RC0.2.2.1 RC0.bd.1 RC0.bd.2.1 RC0.bd.2.2.1) (fun M5 N5 hq5 => ?_)
      refine go_iconst dX8_readName_62 (R32_lit rfl) ?_
      refine go_retz dX8_readName_63 (by first | exact Or.inl rfl | exact Or.inr rfl | omega) ?_
      obtain ⟨g51, g52, g53, g54, g55, rfl⟩ := hq5
      have R5 := RC0.ad g55 g51 g52 g53 g54
      have e : pNw b s = (1, adR b (upI s.1 11 (s.1 8)), s.2) := by unfold pNw; rw [if_pos sb, if_pos (z3.symm.trans h18)]
      have R6 : RR b k M5 (adR b (upI s.1 11 (s.1 8)), s.2) := R5.cg rfl rfl rfl rfl rfl
      refine ⟨OT_ok e rfl R6, fun _ => ?_, (fC.up (by decide) (by decide)).tr (g55.up (by decide) (by decide)), rfl⟩
      rw [e]
      show nmO b (M5 (30, 0, 24) (s.2 11 0)) (M5 (30, 0, 25) (s.2 11 0)) (s.1 8)
      rw [g55.a 24 (by decide), g55.a 25 (by decide)]
      exact NM0
    · refine go_aload_n dX8_readName_21 rfl rfl ?_
      refine go_iconst dX8_readName_22 (R32_lit rfl) ?_
      refine v8_171 dX8_readName_23 rfl ⟨rfl, rfl⟩ ⟨rfl, rfl⟩ ct_X8_errs (fun r4 M4 N4 hr4 hq4 => ?_)
      refine go_retz dX8_readName_26 (by first | exact Or.inl rfl | exact Or.inr rfl | omega) ?_
      obtain ⟨y1, y2, rfl⟩ := hq4
      exact ⟨OT_fl (M := M) (w := 3) (by unfold pNw; rw [if_pos sb, if_neg (fun q => h18 (z3.trans q))]; rfl) y1 y2 hR.1.2.1, fun q => absurd y1 q, by rw [y2]; exact flM_K.up (by decide) (by decide), rfl⟩
  · have sn : ¬ snb b s.1 = true := fun z => (b1_iff z1).mpr z h4
    refine go_aload_n dX8_readName_7 rfl rfl ?_
    refine go_iconst dX8_readName_8 (R32_lit rfl) ?_
    refine v8_171 dX8_readName_9 rfl ⟨rfl, rfl⟩ ⟨rfl, rfl⟩ ct_X8_errs (fun r2 M2 N2 hr2 hq2 => ?_)
    refine go_retz dX8_readName_12 (by first | exact Or.inl rfl | exact Or.inr rfl | omega) ?_
    obtain ⟨y1, y2, rfl⟩ := hq2
    exact ⟨OT_fl (M := M) (w := 1) (by unfold pNw; rw [if_neg sn]; rfl) y1 y2 hR.1.2.1, fun q => absurd y1 q, by rw [y2]; exact flM_K.up (by decide) (by decide), rfl⟩
set_option maxRecDepth 100000 in
set_option maxHeartbeats 4000000 in
theorem ct_X8_readOperand {E : Ev} {M : Mm} {N : Nn} {b : Int → Int} {k : Int} {s : Rs} (hE : ES E) (hR : RR b k M s) (h15 : s.2 11 0 < 15) (k0 : 0 ≤ k) (k1 : k < 4) : Ct E yX8_readOperand cX8_readOperand 4 ((some .boolean)) (rmH 8) [vr (29, 0, 0), vi k] M N (qi (fun r M1 N1 => OT b (k + 1) (pOp b k s) r M1 ∧ Kr [16, 17, 18, 19, 20, 21, 26] [11, 12] M M1 ∧ Lw M M1 ∧ N = N1)) := by
  refine ct_of (own := RX8) (L0 := [vr (29, 0, 0), vi k, vn, vn]) rfl (by decide +kernel) rfl rfl ?_
  have c22 := hR.1.2.2.2.2.2.1
  have d1 := hR.2.2.2.2.2.2.2.1
  refine go_iconst dX8_readOperand_0 (R32_lit rfl) ?_
  refine go_bipush dX8_readOperand_1 ⟨by decide, by decide⟩ ?_
  refine go_aload_n dX8_readOperand_3 rfl rfl ?_
  refine g8_199 dX8_readOperand_4 ?_
  rw [c22]
  refine go_iaddc dX8_readOperand_7 ⟨by omega, by omega⟩ ?_
  refine go_imulc dX8_readOperand_8 ⟨by omega, by omega⟩ ?_
  refine go_iload_n dX8_readOperand_9 rfl ?_
  refine go_iaddc dX8_readOperand_10 ⟨by omega, by omega⟩ ?_
  refine go_nmi (fun y ey => ?_)
  have ey : y = (4 * (15 + s.2 11 0) + k) := ey
  subst ey
  refine go_ist2 dX8_readOperand_11 rfl rfl ?_
  refine go_aload_n dX8_readOperand_12 rfl rfl ?_
  refine v8_202 dX8_readOperand_13 rfl ⟨rfl, rfl⟩ ⟨rfl, rfl⟩ (ct_X8_isNameHere hE hR) (fun r1 M1 N1 hr1 hq1 => ?_)
  obtain ⟨z1, rfl, rfl⟩ := hq1
  refine go_if_eq (tgt := 55) dX8_readOperand_16 rfl (fun h16 => ?_) (fun h16 => ?_)
  · have sn : ¬ snb b s.1 = true := fun z => (b1_iff z1).mpr z h16
    refine go_aload_n dX8_readOperand_55 rfl rfl ?_
    refine go_sipush dX8_readOperand_56 ⟨by decide, by decide⟩ ?_
    refine go_sipush dX8_readOperand_59 ⟨by decide, by decide⟩ ?_
    refine v8_217 dX8_readOperand_62 rfl ⟨rfl, rfl⟩ ⟨rfl, rfl⟩ (ct_X8_seesNumber hR) (fun r5 M5 N5 hr5 hq5 => ?_)
    obtain ⟨z5, f5, rfl⟩ := hq5
    refine go_if_ne (tgt := 70) dX8_readOperand_65 rfl (fun h65 => ?_) (fun h65 => ?_)
    · obtain ⟨q1, q2, -, q26, R5⟩ : nmA b s.1 5 = 3 ∧ (-1000 ≤ nmV b s.1 ∧ nmV b s.1 ≤ 1000) ∧ r5 = 1 ∧ M5 (29, 0, 0) 26 = nmV b s.1 ∧ RR b k M5 (nmA b s.1, s.2) := by
        rcases z5 with z5 | z5 | z5
        · exact absurd z5.2.1 h65
        · exact absurd z5.2.2.1 h65
        · exact z5
      refine go_aload_n dX8_readOperand_70 rfl rfl ?_
      refine g8_31 dX8_readOperand_71 ?_
      refine go_iload_n dX8_readOperand_74 rfl ?_
      refine go_bipush dX8_readOperand_75 ⟨by decide, by decide⟩ ?_
      refine go_iast dX8_readOperand_77 rfl (by omega) (by omega) ?_
      refine go_aload_n dX8_readOperand_78 rfl rfl ?_
      refine g8_34 dX8_readOperand_79 ?_
      refine go_iload_n dX8_readOperand_82 rfl ?_
      refine go_aload_n dX8_readOperand_83 rfl rfl ?_
      refine g8_178 dX8_readOperand_84 ?_
      rw [wr_nf (nm_ne1 (by decide)), q26]
      refine go_iast dX8_readOperand_87 rfl (by omega) (by omega) ?_
      have RO := RR_op (w := -2) (x := nmV b s.1) R5 k0 k1 ⟨fun q => absurd q (by decide), fun _ => ⟨rfl, q2⟩⟩
      have RO : RR b (k + 1) (wr (wr M5 (30, 0, 11) (4 * (15 + s.2 11 0) + k) (-2)) (30, 0, 12) (4 * (15 + s.2 11 0) + k) (nmV b s.1)) (nmA b s.1, toS s.2 k (-2) (nmV b s.1)) := RO
      refine go_nmM (fun Mc eMc => ?_)
      have fC : Kr [] [11, 12] M5 Mc := by rw [eMc]; exact (Kr.rf.wa (by decide)).wa (by decide)
      have lC : Lw M5 Mc := by rw [eMc]; exact (Lw.rf.wa (by omega)).wa (by omega)
      rw [← eMc] at RO
      clear eMc
      refine go_aload_n dX8_readOperand_88 rfl rfl ?_
      refine v8_175 dX8_readOperand_89 rfl ⟨rfl, rfl⟩ ⟨rfl, rfl⟩ (ct_X8_goesOn RO.2.2.1 RO.bd.1 RO.bd.2.1 RO.bd.2.2.1) (fun M6 N6 hq6 => ?_)
      refine go_iconst dX8_readOperand_92 (R32_lit rfl) ?_
      refine go_retz dX8_readOperand_93 (by first | exact Or.inl rfl | exact Or.inr rfl | omega) ?_
      obtain ⟨g61, g62, g63, g64, g65, rfl⟩ := hq6
      have R6 := RO.ad g65 g61 g62 g63 g64
      have e : pOp b k s = (1, adR b (nmB b s.1), toS s.2 k (-2) (nmV b s.1)) := by
        unfold pOp
        rw [if_neg sn, show pNm b s = (1, adR b (nmB b s.1), s.2) from by unfold pNm; rw [if_pos q1, if_pos q2], bnd_p1 (by decide)]
        rfl
      exact ⟨OT_ok e rfl (R6.cg rfl rfl rfl rfl rfl), (f5.up (by decide) (by decide)).tr ((fC.up (by decide) (by decide)).tr (g65.up (by decide) (by decide))), (f5.lw (by decide) (by decide) (by decide) (by decide) (by decide) (by decide)).tr (lC.tr (g65.lw (by decide) (by decide) (by decide) (by decide) (by decide) (by decide))), rfl⟩
    · refine go_iconst dX8_readOperand_68 (R32_lit rfl) ?_
      refine go_retz dX8_readOperand_69 (by first | exact Or.inl rfl | exact Or.inr rfl | omega) ?_
      refine ⟨?_, f5.up (by decide) (by decide), f5.lw (by decide) (by decide) (by decide) (by decide) (by decide) (by decide), rfl⟩
      unfold pOp
      rw [if_neg sn]
      rcases z5 with ⟨z1, z2, z3, z4⟩ | ⟨z1, z6, z2, z3, z4⟩ | z5
      · have e : pNm b s = (0, faR (nmA b s.1) 1 (nmA b s.1 6), s.2) := by unfold pNm; rw [if_neg z1]
        rw [e]
        exact ⟨rfl, fun q => absurd rfl q, fun _ => ⟨z3, z4⟩⟩
      · have e : pNm b s = (0, faR (nmB b s.1) 2 (nmA b s.1 6), s.2) := by unfold pNm; rw [if_pos z1, if_neg z6]
        rw [e]
        exact ⟨rfl, fun q => absurd rfl q, fun _ => ⟨z3, z4⟩⟩
      · exact absurd z5.2.2.1 (by omega)
  · have sb : snb b s.1 = true := (b1_iff z1).mp h16
    refine go_aload_n dX8_readOperand_19 rfl rfl ?_
    refine v8_205 dX8_readOperand_20 rfl ⟨rfl, rfl⟩ ⟨rfl, rfl⟩ (ct_X8_toldAt hR (snb_2 sb)) (fun r2 M2 N2 hr2 hq2 => ?_)
    obtain ⟨z2, rfl, rfl⟩ := hq2
    subst z2
    have nb := nmF_bd (S := s.2) (x := s.1 8) d1
    refine go_ist3 dX8_readOperand_23 rfl rfl ?_
    refine go_iload_n dX8_readOperand_24 rfl ?_
    refine go_iconst dX8_readOperand_25 (R32_lit rfl) ?_
    refine go_icmp_ne (tgt := 35) dX8_readOperand_26 rfl (fun h26 => ?_) (fun h26 => ?_)
    · refine go_aload_n dX8_readOperand_35 rfl rfl ?_
      refine g8_31 dX8_readOperand_36 ?_
      refine go_iload_n dX8_readOperand_39 rfl ?_
      refine go_iload_n dX8_readOperand_40 rfl ?_
      refine go_iast dX8_readOperand_41 rfl (by omega) (by omega) ?_
      refine go_aload_n dX8_readOperand_42 rfl rfl ?_
      refine g8_34 dX8_readOperand_43 ?_
      refine go_iload_n dX8_readOperand_46 rfl ?_
      refine go_iconst dX8_readOperand_47 (R32_lit rfl) ?_
      refine go_iast dX8_readOperand_48 rfl (by omega) (by omega) ?_
      have RO := RR_op (w := nmF s.2 (s.1 8)) (x := 0) hR k0 k1 ⟨fun _ => by omega, fun _ => by omega⟩
      refine go_nmM (fun Mc eMc => ?_)
      have fC : Kr [] [11, 12] M Mc := by rw [eMc]; exact (Kr.rf.wa (by decide)).wa (by decide)
      have lC : Lw M Mc := by rw [eMc]; exact (Lw.rf.wa (by omega)).wa (by omega)
      rw [← eMc] at RO
      clear eMc
      refine go_aload_n dX8_readOperand_49 rfl rfl ?_
      refine v8_175 dX8_readOperand_50 rfl ⟨rfl, rfl⟩ ⟨rfl, rfl⟩ (ct_X8_goesOn RO.2.2.1 RO.bd.1 RO.bd.2.1 RO.bd.2.2.1) (fun M4 N4 hq4 => ?_)
      refine go_iconst dX8_readOperand_53 (R32_lit rfl) ?_
      refine go_retz dX8_readOperand_54 (by first | exact Or.inl rfl | exact Or.inr rfl | omega) ?_
      obtain ⟨g41, g42, g43, g44, g45, rfl⟩ := hq4
      have R4 := RO.ad g45 g41 g42 g43 g44
      exact ⟨OT_ok (by unfold pOp; rw [if_pos sb, if_neg h26]) rfl R4, (fC.up (by decide) (by decide)).tr (g45.up (by decide) (by decide)), lC.tr (g45.lw (by decide) (by decide) (by decide) (by decide) (by decide) (by decide)), rfl⟩
    · refine go_aload_n dX8_readOperand_29 rfl rfl ?_
      refine go_iconst dX8_readOperand_30 (R32_lit rfl) ?_
      refine v8_171 dX8_readOperand_31 rfl ⟨rfl, rfl⟩ ⟨rfl, rfl⟩ ct_X8_errs (fun r3 M3 N3 hr3 hq3 => ?_)
      refine go_retz dX8_readOperand_34 (by first | exact Or.inl rfl | exact Or.inr rfl | omega) ?_
      obtain ⟨y1, y2, rfl⟩ := hq3
      exact ⟨OT_fl (M := M) (w := 3) (by unfold pOp; rw [if_pos sb, if_pos h26]; rfl) y1 y2 hR.1.2.1, by rw [y2]; exact flM_K.up (by decide) (by decide), by rw [y2]; exact flM_K.lw (by decide) (by decide) (by decide) (by decide) (by decide) (by decide), rfl⟩
