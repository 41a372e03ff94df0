theorem WF_0 {S : Pg} (h11 : S 11 0 = 0) (h12 : S 12 0 = 0) : WF S := by
  refine ⟨by omega, by omega, by omega, by omega, ?_, by omega, fun v v0 v1 => absurd v1 (by omega), fun i i0 i1 => absurd i1 (by omega), fun v v0 v1 => absurd v1 (by omega), fun i j i0 ij j1 => absurd j1 (by omega)⟩
  rw [h11, h12]; rfl
theorem RR_0 {b : Int → Int} {n : Int} {s : Rs} {M M1 : Mm} (ht : tpR b M) (n5 : n ≤ 500) (e15 : M (29, 0, 0) 15 = n) (e17 : M (29, 0, 0) 17 = 0) (e22 : M (29, 0, 0) 22 = 0) (e23 : M (29, 0, 0) 23 = 0) (f : Kr [16, 17, 18, 19] [] M M1)
    (g1 : M1 (29, 0, 0) 16 = bkS b (M (29, 0, 0) 15) (M (29, 0, 0) 15 - M (29, 0, 0) 17).toNat (M (29, 0, 0) 17))
    (g2 : M1 (29, 0, 0) 17 = (tkS b (M (29, 0, 0) 15) (bkS b (M (29, 0, 0) 15) (M (29, 0, 0) 15 - M (29, 0, 0) 17).toNat (M (29, 0, 0) 17))).2.1)
    (g3 : M1 (29, 0, 0) 18 = (tkS b (M (29, 0, 0) 15) (bkS b (M (29, 0, 0) 15) (M (29, 0, 0) 15 - M (29, 0, 0) 17).toNat (M (29, 0, 0) 17))).1)
    (g4 : (tkS b (M (29, 0, 0) 15) (bkS b (M (29, 0, 0) 15) (M (29, 0, 0) 15 - M (29, 0, 0) 17).toNat (M (29, 0, 0) 17))).1 = 3 → M1 (29, 0, 0) 19 = (tkS b (M (29, 0, 0) 15) (bkS b (M (29, 0, 0) 15) (M (29, 0, 0) 15 - M (29, 0, 0) 17).toNat (M (29, 0, 0) 17))).2.2) : RR b 0 M1 (rdS b n s) := by
  rw [e15, e17] at g1 g2 g3 g4
  have hp := adP_bd (b := b) (R := (rd0 n s).1) ⟨n5, Int.le_refl 0, (by show (0 : Int) ≤ 500; decide)⟩
  refine ⟨⟨by rw [f.s 15 (by decide), e15]; rfl, g1, g2, g3, g4, by rw [f.s 22 (by decide), e22]; rfl, by rw [f.s 23 (by decide), e23]; rfl⟩, fun q => ?_, ht.k (f.a 4 (by decide)), fun v v0 v1 => absurd v1 (by show ¬ v < 0; omega), fun v v0 v1 => absurd v1 (by show ¬ v < 0; omega), fun j j0 j1 => absurd j1 (by omega), rdS_I n5, WF_0 rfl rfl⟩
  exact tkS_word hp.1 n5 q
theorem rdS_P {b : Int → Int} {n : Int} {s : Rs} (n5 : n ≤ 500) (h6 : s.1 6 ≤ 0) : Pq (rdS b n s).1 := (Pq_ad (b := b) (R := (rd0 n s).1) ⟨n5, Int.le_refl 0, (by show (0 : Int) ≤ 500; decide)⟩ h6).1
theorem rdS_P' {b : Int → Int} {n : Int} {s : Rs} (n5 : n ≤ 500) : Pq (rdS b n s).1 := by
  have hA : rdA (rd0 n s).1 := ⟨n5, Int.le_refl 0, (by show (0 : Int) ≤ 500; decide)⟩
  have hl := tkS_len (b := b) (n := n) (p := adP b (rd0 n s).1)
  exact ⟨(adR_B (b := b) hA).1, hl.1, hl.2⟩
set_option maxRecDepth 100000 in
set_option maxHeartbeats 4000000 in
theorem lp_X8_readAll {E : Ev} {M : Mm} {N : Nn} {b : Int → Int} {X : Rr} {c : Int} (hE : ES E) : ∀ (n : Nat) (t : Rs) (M2 : Mm), (X = if t.1 5 = 0 then pEn t else bnd (pSg b 59 t) (pAl b n)) → (RR b 0 M2 t) → (Pq t.1) → (FR M M2) → (500 ≤ n + t.1 6) → Go E RX8 cX8_readAll 2 ((some .boolean)) (rmH 12) 0 0 (zM E (qi (fun r M1 N1 => OT b 0 X r M1 ∧ FR M M1 ∧ N = N1))) 33 [vr (29, 0, 0), vi c] [] M2 N := by
  intro n
  induction n using Nat.strongRecOn with
  | ind n ih =>
  intro t M2 hX hR hq hF hk
  have tk := hR.1.2.2.2.1
  have c22 := hR.1.2.2.2.2.2.1
  have c23 := hR.1.2.2.2.2.2.2
  have hB := hR.2.2.2.2.2.2.1.1
  refine go_aload_n dX8_readAll_33 rfl rfl ?_
  refine g8_133 dX8_readAll_34 ?_
  rw [tk]
  refine go_bipush dX8_readAll_37 ⟨by decide, by decide⟩ ?_
  refine go_icmp_ne (tgt := 55) dX8_readAll_39 rfl (fun h39 => ?_) (fun h39 => ?_)
  · refine go_aload_n dX8_readAll_55 rfl rfl ?_
    refine g8_133 dX8_readAll_56 ?_
    rw [tk]
    refine go_if_eq (tgt := 68) dX8_readAll_59 rfl (fun h59 => ?_) (fun h59 => ?_)
    · refine go_aload_n dX8_readAll_68 rfl rfl ?_
      refine g8_199 dX8_readAll_69 ?_
      rw [c22]
      refine go_aload_n dX8_readAll_72 rfl rfl ?_
      refine g8_208 dX8_readAll_73 ?_
      rw [c23]
      refine go_icmp_gt (tgt := 88) dX8_readAll_76 rfl (fun h76 => ?_) (fun h76 => ?_)
      · refine go_iconst dX8_readAll_88 (R32_lit rfl) ?_
        refine go_goto (tgt := 93) dX8_readAll_89 rfl ?_
        refine go_retz dX8_readAll_93 (by first | exact Or.inl rfl | exact Or.inr rfl | omega) ?_
        rw [if_pos h59] at hX
        unfold pEn at hX
        first
        | (exfalso; omega)
        | (rw [if_pos (by omega)] at hX; exact ⟨OT_ok hX rfl hR, hF, rfl⟩)
        | (rw [if_neg (by omega)] at hX
           have o := OT_fl (b := b) (k := 0) (M := M2) (w := 6) hX y1 y2 hR.1.2.1
           rw [y1] at o
           exact ⟨o, hF.tr (by rw [y2]; exact FR.of flM_K (by decide) (by decide)), rfl⟩)
      · refine go_aload_n dX8_readAll_79 rfl rfl ?_
        refine go_bipush dX8_readAll_80 ⟨by decide, by decide⟩ ?_
        refine v8_171 dX8_readAll_82 rfl ⟨rfl, rfl⟩ ⟨rfl, rfl⟩ ct_X8_errs (fun r6 M6 N6 hr6 hq6 => ?_)
        obtain ⟨y1, y2, rfl⟩ := hq6
        refine go_if_eq (tgt := 92) dX8_readAll_85 rfl (fun h85 => ?_) (fun h85 => ?_)
        · refine go_iconst dX8_readAll_92 (R32_lit rfl) ?_
          refine go_retz dX8_readAll_93 (by first | exact Or.inl rfl | exact Or.inr rfl | omega) ?_
          rw [if_pos h59] at hX
          unfold pEn at hX
          first
          | (exfalso; omega)
          | (rw [if_pos (by omega)] at hX; exact ⟨OT_ok hX rfl hR, hF, rfl⟩)
          | (rw [if_neg (by omega)] at hX
             have o := OT_fl (b := b) (k := 0) (M := M2) (w := 6) hX y1 y2 hR.1.2.1
             rw [y1] at o
             exact ⟨o, hF.tr (by rw [y2]; exact FR.of flM_K (by decide) (by decide)), rfl⟩)
        · refine go_iconst dX8_readAll_88 (R32_lit rfl) ?_
          refine go_goto (tgt := 93) dX8_readAll_89 rfl ?_
          refine go_retz dX8_readAll_93 (by first | exact Or.inl rfl | exact Or.inr rfl | omega) ?_
          rw [if_pos h59] at hX
          unfold pEn at hX
          first
          | (exfalso; omega)
          | (rw [if_pos (by omega)] at hX; exact ⟨OT_ok hX rfl hR, hF, rfl⟩)
          | (rw [if_neg (by omega)] at hX
             have o := OT_fl (b := b) (k := 0) (M := M2) (w := 6) hX y1 y2 hR.1.2.1
             rw [y1] at o
             exact ⟨o, hF.tr (by rw [y2]; exact FR.of flM_K (by decide) (by decide)), rfl⟩)
    · refine go_aload_n dX8_readAll_62 rfl rfl ?_
      refine go_iconst dX8_readAll_63 (R32_lit rfl) ?_
      refine v8_171 dX8_readAll_64 rfl ⟨rfl, rfl⟩ ⟨rfl, rfl⟩ ct_X8_errs (fun r5 M5 N5 hr5 hq5 => ?_)
      refine go_retz dX8_readAll_67 (by first | exact Or.inl rfl | exact Or.inr rfl | omega) ?_
      obtain ⟨y1, y2, rfl⟩ := hq5
      rw [if_neg h59] at hX
      have e1 : pSg b 59 t = pFl t 1 (t.1 6) := by unfold pSg; rw [if_neg h39]
      rw [e1, show bnd (pFl t 1 (t.1 6)) (pAl b n) = pFl t 1 (t.1 6) from bnd_0 rfl] at hX
      exact ⟨OT_fl (M := M2) (w := 1) hX y1 y2 hR.1.2.1, hF.tr (by rw [y2]; exact FR.of flM_K (by decide) (by decide)), rfl⟩
  · refine go_aload_n dX8_readAll_42 rfl rfl ?_
    refine v8_175 dX8_readAll_43 rfl ⟨rfl, rfl⟩ ⟨rfl, rfl⟩ (ct_X8_goesOn hR.2.2.1 hR.bd.1 hR.bd.2.1 hR.bd.2.2.1) (fun M3 N3 hq3 => ?_)
    obtain ⟨g31, g32, g33, g34, g35, rfl⟩ := hq3
    have R3 := hR.ad g35 g31 g32 g33 g34
    have e1 : pSg b 59 t = (1, adR b t.1, t.2) := by unfold pSg; rw [if_pos h39]
    have m3 := Mo_ad (b := b) (s := t) (R := t.1) (S := t.2) hq rfl rfl rfl rfl
    have a3 := (Pq_ad (b := b) hq.1 hq.2.1).2
    have b3 := R3.2.2.2.2.2.2.1.1.2.2.1
    have b3 : adR b t.1 6 ≤ 500 := b3
    have t7 := hq.2.2 (by omega)
    rw [if_neg (by omega), e1, bnd_p1 (by decide)] at hX
    obtain ⟨k, rfl⟩ : ∃ k, n = k + 1 := ⟨n - 1, by omega⟩
    have hX : X = bnd (pLn b (adR b t.1, t.2)) (fun t => if t.1 5 = 0 then pEn t else bnd (pSg b 59 t) (pAl b k)) := hX
    refine go_aload_n dX8_readAll_46 rfl rfl ?_
    refine v8_241 dX8_readAll_47 rfl ⟨rfl, rfl⟩ ⟨rfl, rfl⟩ (ct_X8_readLine hE R3) (fun r4 M4 N4 hr4 hq4 => ?_)
    obtain ⟨o4, f4, rfl⟩ := hq4
    have F4 := (hF.tr (FR.of g35 (by decide) (by decide))).tr f4
    refine go_if_ne (tgt := 33) dX8_readAll_50 rfl (fun h50 => ?_) (fun h50 => ?_)
    · obtain ⟨e4, R4⟩ := OT_b1 (f := fun t => if t.1 5 = 0 then pEn t else bnd (pSg b 59 t) (pAl b k)) o4 h50
      have m4 := Mo_Ln (b := b) (s := (adR b t.1, t.2)) m3.1 (by rw [← o4.1]; exact h50)
      have m4' : adR b t.1 6 ≤ (pLn b (adR b t.1, t.2)).2.1 6 := m4.2.1
      exact ih k (by omega) (pLn b (adR b t.1, t.2)).2 _ (hX.trans e4) R4 m4.1 F4 (by omega)
    · refine go_iconst dX8_readAll_53 (R32_lit rfl) ?_
      refine go_retz dX8_readAll_54 (by first | exact Or.inl rfl | exact Or.inr rfl | omega) ?_
      exact ⟨OT_eq hX (OT_b0 o4 h50), F4, rfl⟩
set_option maxRecDepth 100000 in
set_option maxHeartbeats 4000000 in
theorem ct_X8_readAll {E : Ev} {M : Mm} {N : Nn} {b : Int → Int} {c : Int} {s : Rs} (hE : ES E) (ht : tpR b M) (n5 : c ≤ 500) : Ct E yX8_readAll cX8_readAll 2 ((some .boolean)) (rmH 12) [vr (29, 0, 0), vi c] M N (qi (fun r M1 N1 => OT b 0 (pAl b 501 (rdS b c s)) r M1 ∧ FR M M1 ∧ N = N1)) := by
  refine ct_of (own := RX8) (L0 := [vr (29, 0, 0), vi c]) rfl (by decide +kernel) rfl rfl ?_
  refine go_aload_n dX8_readAll_0 rfl rfl ?_
  refine go_iload_n dX8_readAll_1 rfl ?_
  refine p8_120 dX8_readAll_2 ?_
  refine go_aload_n dX8_readAll_5 rfl rfl ?_
  refine go_iconst dX8_readAll_6 (R32_lit rfl) ?_
  refine p8_123 dX8_readAll_7 ?_
  refine go_aload_n dX8_readAll_10 rfl rfl ?_
  refine go_iconst dX8_readAll_11 (R32_lit rfl) ?_
  refine p8_199 dX8_readAll_12 ?_
  refine go_aload_n dX8_readAll_15 rfl rfl ?_
  refine go_iconst dX8_readAll_16 (R32_lit rfl) ?_
  refine p8_208 dX8_readAll_17 ?_
  refine go_nmM (fun Mc eMc => ?_)
  have a15 : Mc (29, 0, 0) 15 = c := by rw [eMc, wr_nk (by decide), wr_nk (by decide), wr_nk (by decide), wr_eq]
  have a17 : Mc (29, 0, 0) 17 = 0 := by rw [eMc, wr_nk (by decide), wr_nk (by decide), wr_eq]
  have a22 : Mc (29, 0, 0) 22 = 0 := by rw [eMc, wr_nk (by decide), wr_eq]
  have a23 : Mc (29, 0, 0) 23 = 0 := by rw [eMc, wr_eq]
  have FC : FR M Mc := by rw [eMc]; exact (((FR.rf.ws (by decide)).ws (by decide)).ws (by decide)).ws (by decide)
  have ht2 : tpR b Mc := ht.k (FC.1.a 4 (by decide))
  clear eMc
  refine go_aload_n dX8_readAll_20 rfl rfl ?_
  refine v8_175 dX8_readAll_21 rfl ⟨rfl, rfl⟩ ⟨rfl, rfl⟩ (ct_X8_goesOn ht2 (by omega) (by omega) (by omega)) (fun M1 N1 hq1 => ?_)
  obtain ⟨g1, g2, g3, g4, g5, rfl⟩ := hq1
  have R1 : RR b 0 M1 (rdS b c s) := RR_0 ht2 n5 a15 a17 a22 a23 g5 g1 g2 g3 g4
  have F1 := FC.tr (FR.of g5 (by decide) (by decide))
  refine go_aload_n dX8_readAll_24 rfl rfl ?_
  refine v8_241 dX8_readAll_25 rfl ⟨rfl, rfl⟩ ⟨rfl, rfl⟩ (ct_X8_readLine hE R1) (fun r2 M2 N2 hr2 hq2 => ?_)
  obtain ⟨o2, f2, rfl⟩ := hq2
  refine go_if_ne (tgt := 33) dX8_readAll_28 rfl (fun h28 => ?_) (fun h28 => ?_)
  · obtain ⟨e4, R4⟩ := OT_b1 (f := fun t => if t.1 5 = 0 then pEn t else bnd (pSg b 59 t) (pAl b 500)) o2 h28
    have m4 := Mo_Ln (b := b) (s := rdS b c s) (rdS_P' n5) (by rw [← o2.1]; exact h28)
    have b4 := R1.2.2.2.2.2.2.1.1.2.1
    have m5 := m4.2.1
    exact lp_X8_readAll (M := M) hE 500 (pLn b (rdS b c s)).2 M2 e4 R4 m4.1 (F1.tr f2) (by omega)
  · refine go_iconst dX8_readAll_31 (R32_lit rfl) ?_
    refine go_retz dX8_readAll_32 (by first | exact Or.inl rfl | exact Or.inr rfl | omega) ?_
    exact ⟨OT_b0 o2 h28, F1.tr f2, rfl⟩
/-- the draft's rows brought down, variables below v, operands below w -/
def CPI (M M2 : Mm) (v w : Int) : Prop := (∀ i, M2 (30, 0, 7) i = if 0 ≤ i ∧ i < v then M (30, 0, 7) (15 + i) else M (30, 0, 7) i) ∧ (∀ i, M2 (30, 0, 8) i = if 0 ≤ i ∧ i < v then M (30, 0, 8) (15 + i) else M (30, 0, 8) i) ∧ (∀ i, M2 (30, 0, 9) i = if 0 ≤ i ∧ i < v then M (30, 0, 9) (15 + i) else M (30, 0, 9) i) ∧ (∀ i, M2 (30, 0, 10) i = if 0 ≤ i ∧ i < v then M (30, 0, 10) (15 + i) else M (30, 0, 10) i) ∧ (∀ i, 0 ≤ i → i < v → M2 (30, 0, 13) i = M (30, 0, 9) (15 + i)) ∧ (∀ i, M2 (30, 0, 11) i = if 0 ≤ i ∧ i < w then M (30, 0, 11) (60 + i) else M (30, 0, 11) i) ∧ (∀ i, M2 (30, 0, 12) i = if 0 ≤ i ∧ i < w then M (30, 0, 12) (60 + i) else M (30, 0, 12) i) ∧ Kr [] [7, 8, 9, 10, 11, 12, 13] M M2
theorem CPI_0 {M : Mm} : CPI M M 0 0 := ⟨fun i => by rw [if_neg (by omega)], fun i => by rw [if_neg (by omega)], fun i => by rw [if_neg (by omega)], fun i => by rw [if_neg (by omega)], fun i i0 i1 => absurd i1 (by omega), fun i => by rw [if_neg (by omega)], fun i => by rw [if_neg (by omega)], Kr.rf⟩
theorem row_up {A A2 : Int → Int} {v d : Int} (h : ∀ i, A2 i = if 0 ≤ i ∧ i < v then A (d + i) else A i) (v0 : 0 ≤ v) : ∀ i, upI A2 v (A (d + v)) i = if 0 ≤ i ∧ i < v + 1 then A (d + i) else A i := by
  intro i
  unfold upI
  by_cases q : i = v
  · rw [if_pos q, if_pos (by omega), q]
  · rw [if_neg q, h i]
    by_cases z : 0 ≤ i ∧ i < v
    · rw [if_pos z, if_pos (by omega)]
    · rw [if_neg z, if_neg (by omega)]
theorem CPI.op {M M2 : Mm} {v w : Int} (h : CPI M M2 v w) (w0 : 0 ≤ w) : CPI M (wr (wr M2 (30, 0, 11) w (M (30, 0, 11) (60 + w))) (30, 0, 12) w (M (30, 0, 12) (60 + w))) v (w + 1) := by
  obtain ⟨h1, h2, h3, h4, h5, h6, h7, f⟩ := h
  have g : Kr [] [11, 12] M2 (wr (wr M2 (30, 0, 11) w (M (30, 0, 11) (60 + w))) (30, 0, 12) w (M (30, 0, 12) (60 + w))) := (Kr.rf.wa (by decide)).wa (by decide)
  refine ⟨by rw [g.a 7 (by decide)]; exact h1, by rw [g.a 8 (by decide)]; exact h2, by rw [g.a 9 (by decide)]; exact h3, by rw [g.a 10 (by decide)]; exact h4, by rw [g.a 13 (by decide)]; exact h5, ?_, ?_, f.tr (g.up (by decide) (by decide))⟩
  · rw [wr_nf (nm_ne3 (by decide)), upI_wr]
    exact row_up h6 w0
  · rw [upI_wr, wr_nf (nm_ne3 (by decide))]
    exact row_up h7 w0
theorem CPI.va {M M2 : Mm} {v : Int} (h : CPI M M2 v (4 * v)) (v0 : 0 ≤ v) : CPI M (wr (wr (wr (wr (wr M2 (30, 0, 7) v (M (30, 0, 7) (15 + v))) (30, 0, 8) v (M (30, 0, 8) (15 + v))) (30, 0, 9) v (M (30, 0, 9) (15 + v))) (30, 0, 10) v (M (30, 0, 10) (15 + v))) (30, 0, 13) v (M (30, 0, 9) (15 + v))) (v + 1) (4 * v) := by
  obtain ⟨h1, h2, h3, h4, h5, h6, h7, f⟩ := h
  have g : Kr [] [7, 8, 9, 10, 13] M2 (wr (wr (wr (wr (wr M2 (30, 0, 7) v (M (30, 0, 7) (15 + v))) (30, 0, 8) v (M (30, 0, 8) (15 + v))) (30, 0, 9) v (M (30, 0, 9) (15 + v))) (30, 0, 10) v (M (30, 0, 10) (15 + v))) (30, 0, 13) v (M (30, 0, 9) (15 + v))) := ((((Kr.rf.wa (by decide)).wa (by decide)).wa (by decide)).wa (by decide)).wa (by decide)
  refine ⟨?_, ?_, ?_, ?_, ?_, by rw [g.a 11 (by decide)]; exact h6, by rw [g.a 12 (by decide)]; exact h7, f.tr (g.up (by decide) (by decide))⟩
  · rw [wr_nf (nm_ne3 (by decide)), wr_nf (nm_ne3 (by decide)), wr_nf (nm_ne3 (by decide)), wr_nf (nm_ne3 (by decide)), upI_wr]
    exact row_up h1 v0
  · rw [wr_nf (nm_ne3 (by decide)), wr_nf (nm_ne3 (by decide)), wr_nf (nm_ne3 (by decide)), upI_wr, wr_nf (nm_ne3 (by decide))]
    exact row_up h2 v0
  · rw [wr_nf (nm_ne3 (by decide)), wr_nf (nm_ne3 (by decide)), upI_wr, wr_nf (nm_ne3 (by decide)), wr_nf (nm_ne3 (by decide))]
    exact row_up h3 v0
  · rw [wr_nf (nm_ne3 (by decide)), upI_wr, wr_nf (nm_ne3 (by decide)), wr_nf (nm_ne3 (by decide)), wr_nf (nm_ne3 (by decide))]
    exact row_up h4 v0
  · intro i i0 i1
    rw [upI_wr]
    unfold upI
    by_cases q : i = v
    · rw [if_pos q, q]
    · rw [if_neg q, wr_nf (nm_ne3 (by decide)), wr_nf (nm_ne3 (by decide)), wr_nf (nm_ne3 (by decide)), wr_nf (nm_ne3 (by decide))]
      exact h5 i i0 (by omega)
theorem CPI.pr {M M2 : Mm} {S : Pg} {c : Int} (h : CPI M M2 c (4 * c)) (p : PR 15 c S M) : PR 0 c S M2 := by
  obtain ⟨h1, h2, h3, h4, h5, h6, h7, f⟩ := h
  intro v v0 v1
  obtain ⟨p1, p2, p3, p4⟩ := p v v0 v1
  rw [Int.zero_add, h1, h2, h3, h4, if_pos ⟨v0, v1⟩, if_pos ⟨v0, v1⟩, if_pos ⟨v0, v1⟩, if_pos ⟨v0, v1⟩]
  refine ⟨p1, p2, p3, fun q k k0 k1 => ?_⟩
  have o4 := opn_le S v
  rw [h6, h7, if_pos (by omega), if_pos (by omega), show 60 + (4 * v + k) = 4 * (15 + v) + k by omega]
  exact p4 q k k0 k1
set_option maxRecDepth 100000 in
set_option maxHeartbeats 4000000 in
theorem lpI_X8_program {E : Ev} {M : Mm} {N : Nn} {v c d : Int} (v0 : 0 ≤ v) (v1 : v < 15) (hk : ∀ M3, CPI M M3 (v + 1) (4 * (v + 1)) → Go E RX8 cX8_program 4 ((some .int)) (rmH 13) 0 0 (zM E (qi (fun r M1 N1 => r = c ∧ (∃ M2, CPI M M2 c (4 * c) ∧ M1 = wr M2 (29, 0, 0) 14 1) ∧ N = N1))) 217 [vr (29, 0, 0), vi d, vi v, vi 4] [] M3 N) : ∀ (n : Nat) (k : Int) (M2 : Mm), (k + n = 4) → (0 ≤ k) → (CPI M M2 (v + 1) (4 * v + k)) → Go E RX8 cX8_program 4 ((some .int)) (rmH 13) 0 0 (zM E (qi (fun r M1 N1 => r = c ∧ (∃ M2, CPI M M2 c (4 * c) ∧ M1 = wr M2 (29, 0, 0) 14 1) ∧ N = N1))) 160 [vr (29, 0, 0), vi d, vi v, vi k] [] M2 N := by
  intro n
  induction n using Nat.strongRecOn with
  | ind n ih =>
  intro k M2 hn k0 hC
  refine go_iload_n dX8_program_160 rfl ?_
  refine go_iconst dX8_program_161 (R32_lit rfl) ?_
  refine go_icmp_ge (tgt := 217) dX8_program_162 rfl (fun h162 => ?_) (fun h162 => ?_)
  · have k4 : k = 4 := by omega
    subst k4
    exact hk _ (by rw [show 4 * (v + 1) = 4 * v + 4 by omega]; exact hC)
  · refine go_aload_n dX8_program_165 rfl rfl ?_
    refine g8_31 dX8_program_166 ?_
    refine go_iconst dX8_program_169 (R32_lit rfl) ?_
    refine go_iload_n dX8_program_170 rfl ?_
    refine go_imulc dX8_program_171 ⟨by omega, by omega⟩ ?_
    refine go_iload_n dX8_program_172 rfl ?_
    refine go_iaddc dX8_program_173 ⟨by omega, by omega⟩ ?_
    refine go_aload_n dX8_program_174 rfl rfl ?_
    refine g8_31 dX8_program_175 ?_
    refine go_iconst dX8_program_178 (R32_lit rfl) ?_
    refine go_bipush dX8_program_179 ⟨by decide, by decide⟩ ?_
    refine go_iload_n dX8_program_181 rfl ?_
    refine go_iaddc dX8_program_182 ⟨by omega, by omega⟩ ?_
    refine go_imulc dX8_program_183 ⟨by omega, by omega⟩ ?_
    refine go_iload_n dX8_program_184 rfl ?_
    refine go_iaddc dX8_program_185 ⟨by omega, by omega⟩ ?_
    refine go_iald dX8_program_186 rfl (by omega) (by omega) ?_
    rw [hC.2.2.2.2.2.1, if_neg (by omega), show 4 * (15 + v) + k = 60 + (4 * v + k) by omega]
    refine go_iast dX8_program_187 rfl (by omega) (by omega) ?_
    refine go_aload_n dX8_program_188 rfl rfl ?_
    refine g8_34 dX8_program_189 ?_
    refine go_iconst dX8_program_192 (R32_lit rfl) ?_
    refine go_iload_n dX8_program_193 rfl ?_
    refine go_imulc dX8_program_194 ⟨by omega, by omega⟩ ?_
    refine go_iload_n dX8_program_195 rfl ?_
    refine go_iaddc dX8_program_196 ⟨by omega, by omega⟩ ?_
    refine go_aload_n dX8_program_197 rfl rfl ?_
    refine g8_34 dX8_program_198 ?_
    refine go_iconst dX8_program_201 (R32_lit rfl) ?_
    refine go_bipush dX8_program_202 ⟨by decide, by decide⟩ ?_
    refine go_iload_n dX8_program_204 rfl ?_
    refine go_iaddc dX8_program_205 ⟨by omega, by omega⟩ ?_
    refine go_imulc dX8_program_206 ⟨by omega, by omega⟩ ?_
    refine go_iload_n dX8_program_207 rfl ?_
    refine go_iaddc dX8_program_208 ⟨by omega, by omega⟩ ?_
    refine go_iald dX8_program_209 rfl (by omega) (by omega) ?_
    rw [wr_nf (nm_ne3 (by decide)), hC.2.2.2.2.2.2.1, if_neg (by omega), show 4 * (15 + v) + k = 60 + (4 * v + k) by omega]
    refine go_iast dX8_program_210 rfl (by omega) (by omega) ?_
    refine go_iinc3c dX8_program_211 rfl rfl ⟨by omega, by omega⟩ ?_
    refine go_goto (tgt := 160) dX8_program_214 rfl ?_
    exact ih (n - 1) (by omega) (k + 1) _ (by omega) (by omega) (by have := hC.op (w := 4 * v + k) (by omega); rw [show 4 * v + k + 1 = 4 * v + (k + 1) by omega] at this; exact this)
set_option maxRecDepth 100000 in
set_option maxHeartbeats 4000000 in
theorem lp_X8_program {E : Ev} {M : Mm} {N : Nn} {c d : Int} (h6 : M (29, 0, 0) 6 = c) (c0 : 0 ≤ c) (c1 : c ≤ 15) : ∀ (n : Nat) (v : Int) (x3 : Vv) (M2 : Mm), (v + n = c) → (0 ≤ v) → (CPI M M2 v (4 * v)) → Go E RX8 cX8_program 4 ((some .int)) (rmH 13) 0 0 (zM E (qi (fun r M1 N1 => r = c ∧ (∃ M2, CPI M M2 c (4 * c) ∧ M1 = wr M2 (29, 0, 0) 14 1) ∧ N = N1))) 78 [vr (29, 0, 0), vi d, vi v, x3] [] M2 N := by
  intro n
  induction n using Nat.strongRecOn with
  | ind n ih =>
  intro v x3 M2 hn v0 hC
  have e6 : M2 (29, 0, 0) 6 = c := by rw [hC.2.2.2.2.2.2.2.s 6 (by decide)]; exact h6
  refine go_iload_n dX8_program_78 rfl ?_
  refine go_aload_n dX8_program_79 rfl rfl ?_
  refine g8_259 dX8_program_80 ?_
  rw [e6]
  refine go_icmp_ge (tgt := 223) dX8_program_83 rfl (fun h83 => ?_) (fun h83 => ?_)
  · refine go_aload_n dX8_program_223 rfl rfl ?_
    refine go_iconst dX8_program_224 (R32_lit rfl) ?_
    refine p8_281 dX8_program_225 (by first | exact Or.inl rfl | exact Or.inr rfl | omega) ?_
    refine go_aload_n dX8_program_228 rfl rfl ?_
    refine g8_259 dX8_program_229 ?_
    rw [wr_nk (by decide), e6]
    refine go_reti dX8_program_232 ?_
    exact ⟨rfl, ⟨M2, by rw [show c = v by omega]; exact hC, rfl⟩, rfl⟩
  · refine go_aload_n dX8_program_86 rfl rfl ?_
    refine g8_19 dX8_program_87 ?_
    refine go_iload_n dX8_program_90 rfl ?_
    refine go_aload_n dX8_program_91 rfl rfl ?_
    refine g8_19 dX8_program_92 ?_
    refine go_bipush dX8_program_95 ⟨by decide, by decide⟩ ?_
    refine go_iload_n dX8_program_97 rfl ?_
    refine go_iaddc dX8_program_98 ⟨by omega, by omega⟩ ?_
    refine go_iald dX8_program_99 rfl (by omega) (by omega) ?_
    rw [hC.1, if_neg (by omega)]
    refine go_iast dX8_program_100 rfl (by omega) (by omega) ?_
    refine go_aload_n dX8_program_101 rfl rfl ?_
    refine g8_22 dX8_program_102 ?_
    refine go_iload_n dX8_program_105 rfl ?_
    refine go_aload_n dX8_program_106 rfl rfl ?_
    refine g8_22 dX8_program_107 ?_
    refine go_bipush dX8_program_110 ⟨by decide, by decide⟩ ?_
    refine go_iload_n dX8_program_112 rfl ?_
    refine go_iaddc dX8_program_113 ⟨by omega, by omega⟩ ?_
    refine go_iald dX8_program_114 rfl (by omega) (by omega) ?_
    rw [wr_nf (nm_ne3 (by decide)), hC.2.1, if_neg (by omega)]
    refine go_iast dX8_program_115 rfl (by omega) (by omega) ?_
    refine go_aload_n dX8_program_116 rfl rfl ?_
    refine g8_25 dX8_program_117 ?_
    refine go_iload_n dX8_program_120 rfl ?_
    refine go_aload_n dX8_program_121 rfl rfl ?_
    refine g8_25 dX8_program_122 ?_
    refine go_bipush dX8_program_125 ⟨by decide, by decide⟩ ?_
    refine go_iload_n dX8_program_127 rfl ?_
    refine go_iaddc dX8_program_128 ⟨by omega, by omega⟩ ?_
    refine go_iald dX8_program_129 rfl (by omega) (by omega) ?_
    rw [wr_nf (nm_ne3 (by decide)), wr_nf (nm_ne3 (by decide)), hC.2.2.1, if_neg (by omega)]
    refine go_iast dX8_program_130 rfl (by omega) (by omega) ?_
    refine go_aload_n dX8_program_131 rfl rfl ?_
    refine g8_28 dX8_program_132 ?_
    refine go_iload_n dX8_program_135 rfl ?_
    refine go_aload_n dX8_program_136 rfl rfl ?_
    refine g8_28 dX8_program_137 ?_
    refine go_bipush dX8_program_140 ⟨by decide, by decide⟩ ?_
    refine go_iload_n dX8_program_142 rfl ?_
    refine go_iaddc dX8_program_143 ⟨by omega, by omega⟩ ?_
    refine go_iald dX8_program_144 rfl (by omega) (by omega) ?_
    rw [wr_nf (nm_ne3 (by decide)), wr_nf (nm_ne3 (by decide)), wr_nf (nm_ne3 (by decide)), hC.2.2.2.1, if_neg (by omega)]
    refine go_iast dX8_program_145 rfl (by omega) (by omega) ?_
    refine go_aload_n dX8_program_146 rfl rfl ?_
    refine g8_37 dX8_program_147 ?_
    refine go_iload_n dX8_program_150 rfl ?_
    refine go_aload_n dX8_program_151 rfl rfl ?_
    refine g8_25 dX8_program_152 ?_
    refine go_iload_n dX8_program_155 rfl ?_
    refine go_iald dX8_program_156 rfl (by omega) (by omega) ?_
    rw [wr_nf (nm_ne3 (by decide)), wr_eq]
    refine go_iast dX8_program_157 rfl (by omega) (by omega) ?_
    refine go_iconst dX8_program_158 (R32_lit rfl) ?_
    refine go_ist3 dX8_program_159 rfl rfl ?_
    refine lpI_X8_program v0 (by omega) ?_ 4 0 _ (by omega) (by omega) (by rw [Int.add_zero]; exact hC.va v0)
    intro M3 hC3
    refine go_iinc2c dX8_program_217 rfl rfl ⟨by omega, by omega⟩ ?_
    refine go_goto (tgt := 78) dX8_program_220 rfl ?_
    exact ih (n - 1) (by omega) (v + 1) _ M3 (by omega) (by omega) hC3
theorem pAl_ne {b : Int → Int} : ∀ (k : Nat) {s : Rs}, (pAl b k s).1 ≠ 0 → 0 ≤ (pAl b k s).2.2 12 0 → (pAl b k s).2.2 11 0 ≠ 0
  | 0, s, h, _ => absurd rfl h
  | k + 1, s, h, g => by
    have h : (bnd (pLn b s) (fun t => if t.1 5 = 0 then pEn t else bnd (pSg b 59 t) (pAl b k))).1 ≠ 0 := h
    have g : 0 ≤ (bnd (pLn b s) (fun t => if t.1 5 = 0 then pEn t else bnd (pSg b 59 t) (pAl b k))).2.2 12 0 := g
    show (bnd (pLn b s) (fun t => if t.1 5 = 0 then pEn t else bnd (pSg b 59 t) (pAl b k))).2.2 11 0 ≠ 0
    obtain ⟨h1, h2⟩ := bnd_ne h
    rw [h2] at h g ⊢
    split at h
    · rename_i q
      rw [if_pos q] at g ⊢
      unfold pEn at h g ⊢
      split at h
      · rename_i q2
        rw [if_pos q2] at g ⊢
        show (pLn b s).2.2 11 0 ≠ 0
        have g : 0 ≤ (pLn b s).2.2 12 0 := g
        omega
      · exact absurd rfl h
    · rename_i q
      rw [if_neg q] at g ⊢
      obtain ⟨h3, h4⟩ := bnd_ne h
      rw [h4] at h g ⊢
      exact pAl_ne k h g
set_option maxRecDepth 100000 in
set_option maxHeartbeats 4000000 in
theorem ct_X8_program {E : Ev} {M : Mm} {N : Nn} {b : Int → Int} {n : Int} {s : Rs} (hE : ES E) (ht : tpR b M) (l5 : M (29, 0, 0) 5 ≤ 500) : Ct E yX8_program cX8_program 4 ((some .int)) (rmH 13) [vr (29, 0, 0), vi n] M N (qi (fun r M1 N1 => ((¬ (0 ≤ n ∧ n ≤ M (29, 0, 0) 5) ∧ r = -1 ∧ M1 = rfM M 2 ∧ N = N1) ∨ ((0 ≤ n ∧ n ≤ M (29, 0, 0) 5) ∧ (pAl b 501 (rdS b n s)).1 = 0 ∧ r = -1 ∧ M1 (29, 0, 0) 5 = 0 ∧ M1 (29, 0, 0) 2 = (pAl b 501 (rdS b n s)).2.1 0 ∧ M1 (29, 0, 0) 3 = (pAl b 501 (rdS b n s)).2.1 1 ∧ M1 (29, 0, 0) 1 = 4 ∧ M1 (29, 0, 0) 0 = 0 ∧ Lw M M1 ∧ Kr [0, 1, 2, 3, 5, 15, 16, 17, 18, 19, 20, 21, 22, 23, 26] [7, 8, 9, 10, 11, 12, 24, 25, 27] M M1 ∧ N = N1) ∨ ((0 ≤ n ∧ n ≤ M (29, 0, 0) 5) ∧ (pAl b 501 (rdS b n s)).1 ≠ 0 ∧ r = (pAl b 501 (rdS b n s)).2.2 11 0 ∧ QR (pAl b 501 (rdS b n s)).2.2 M1 ∧ WF (pAl b 501 (rdS b n s)).2.2 ∧ M1 (29, 0, 0) 5 = 0 ∧ M1 (29, 0, 0) 2 = 0 ∧ M1 (29, 0, 0) 1 = 0 ∧ M1 (29, 0, 0) 0 = 0 ∧ (∀ v, 0 ≤ v → v < (pAl b 501 (rdS b n s)).2.2 11 0 → (pAl b 501 (rdS b n s)).2.2 0 v = -2 → M1 (30, 0, 13) v = (pAl b 501 (rdS b n s)).2.2 2 v) ∧ Kr [0, 1, 2, 3, 5, 6, 14, 15, 16, 17, 18, 19, 20, 21, 22, 23, 26] [7, 8, 9, 10, 11, 12, 13, 24, 25, 27] M M1 ∧ N = N1)))) := by
  refine ct_of (own := RX8) (L0 := [vr (29, 0, 0), vi n, vn, vn]) rfl (by decide +kernel) rfl rfl ?_
  refine go_aload_n dX8_program_0 rfl rfl ?_
  refine go_iload_n dX8_program_1 rfl ?_
  refine go_i2l dX8_program_2 ?_
  refine go_lconst (x := 0) dX8_program_3 rfl ?_
  refine go_aload_n dX8_program_4 rfl rfl ?_
  refine g8_113 dX8_program_5 ?_
  refine go_i2l dX8_program_8 ?_
  refine v8_140 dX8_program_9 rfl ⟨rfl, rfl⟩ ⟨rfl, rfl⟩ ct_X8_in (fun r1 M1 N1 hr1 hq1 => ?_)
  obtain ⟨z1, rfl, rfl⟩ := hq1
  have z1 := bit_iff z1
  refine go_if_eq (tgt := 19) dX8_program_12 rfl (fun h12 => ?_) (fun h12 => ?_)
  · refine go_iconst dX8_program_19 (R32_lit rfl) ?_
    refine go_nmi (fun kk ekk => ?_)
    have hkk : (kk = 0 ∧ 0 ≤ n ∧ n ≤ M (29, 0, 0) 5) ∨ (kk = 2 ∧ ¬ (0 ≤ n ∧ n ≤ M (29, 0, 0) 5)) := by omega
    clear ekk
    refine v8_269 dX8_program_20 rfl ⟨rfl, rfl⟩ ⟨rfl, rfl⟩ ct_X8_isRefused (fun r2 M2 N2 hr2 hq2 => ?_)
    obtain ⟨z2, rfl, rfl⟩ := hq2
    have z2 := bit_iff z2
    refine go_if_eq (tgt := 28) dX8_program_23 rfl (fun h23 => ?_) (fun h23 => ?_)
    · have e0 : kk = 0 := by omega
      subst e0
      refine go_aload_n dX8_program_28 rfl rfl ?_
      refine go_iconst dX8_program_29 (R32_lit rfl) ?_
      refine p8_113 dX8_program_30 ?_
      refine go_aload_n dX8_program_33 rfl rfl ?_
      refine go_iconst dX8_program_34 (R32_lit rfl) ?_
      refine p8_272 dX8_program_35 ?_
      refine go_nmM (fun Mc eMc => ?_)
      have kC : Kr [0, 1, 2, 3, 5] [] M Mc := by rw [eMc]; exact ((rfM_K.up (by decide) (by decide)).ws (by decide)).ws (by decide)
      have a5 : Mc (29, 0, 0) 5 = 0 := by rw [eMc, wr_nk (by decide), wr_eq]
      have a2 : Mc (29, 0, 0) 2 = 0 := by rw [eMc, wr_eq]
      have a1 : Mc (29, 0, 0) 1 = 0 := by rw [eMc, wr_nk (by decide), wr_nk (by decide)]; unfold rfM; rw [wr_eq]
      have a0 : Mc (29, 0, 0) 0 = 0 := by rw [eMc, wr_nk (by decide), wr_nk (by decide)]; unfold rfM; rw [wr_nk (by decide), wr_nk (by decide), wr_eq]
      clear eMc
      refine go_aload_n dX8_program_38 rfl rfl ?_
      refine go_iload_n dX8_program_39 rfl ?_
      refine v8_275 dX8_program_40 rfl ⟨rfl, rfl⟩ ⟨rfl, rfl⟩ (ct_X8_readAll (b := b) (s := s) hE (ht.k (kC.a 4 (by decide))) (by omega)) (fun r3 M3 N3 hr3 hq3 => ?_)
      obtain ⟨o3, f3, rfl⟩ := hq3
      have b5 : M3 (29, 0, 0) 5 = 0 := by rw [f3.1.s 5 (by decide)]; exact a5
      have b0 : M3 (29, 0, 0) 0 = 0 := by rw [f3.1.s 0 (by decide)]; exact a0
      have b1 : M3 (29, 0, 0) 1 = 0 := by rw [f3.1.s 1 (by decide)]; exact a1
      have b2 : M3 (29, 0, 0) 2 = 0 := by rw [f3.1.s 2 (by decide)]; exact a2
      refine go_if_ne (tgt := 68) dX8_program_43 rfl (fun h43 => ?_) (fun h43 => ?_)
      · have R3 := o3.2.1 h43
        have d1 := R3.2.2.2.2.2.2.2.1
        have d2 := R3.2.2.2.2.2.2.2.2.1
        refine go_aload_n dX8_program_68 rfl rfl ?_
        refine go_aload_n dX8_program_69 rfl rfl ?_
        refine g8_199 dX8_program_70 ?_
        rw [R3.1.2.2.2.2.2.1]
        refine p8_259 dX8_program_73 ?_
        refine go_iconst dX8_program_76 (R32_lit rfl) ?_
        refine go_ist2 dX8_program_77 rfl rfl ?_
        refine go_mono (fun q M4 N4 => ?_) (lp_X8_program (M := wr M3 (29, 0, 0) 6 ((pAl b 501 (rdS b n s)).2.2 11 0)) (c := (pAl b 501 (rdS b n s)).2.2 11 0) (by rw [wr_eq]) d1 d2 ((pAl b 501 (rdS b n s)).2.2 11 0).toNat 0 vn _ (by omega) (by omega) CPI_0)
        rintro ⟨r, rfl, hr, rfl, ⟨M5, hC, rfl⟩, rfl⟩
        have kk := hC.2.2.2.2.2.2.2
        have p3 : PR 15 ((pAl b 501 (rdS b n s)).2.2 11 0) (pAl b 501 (rdS b n s)).2.2 (wr M3 (29, 0, 0) 6 ((pAl b 501 (rdS b n s)).2.2 11 0)) := R3.2.2.2.2.1.k (wr_nf (nm_ne1 (by decide))) (wr_nf (nm_ne1 (by decide))) (wr_nf (nm_ne1 (by decide))) (wr_nf (nm_ne1 (by decide))) (wr_nf (nm_ne1 (by decide))) (wr_nf (nm_ne1 (by decide)))
        have p4 := hC.pr p3
        have ne : (pAl b 501 (rdS b n s)).2.2 11 0 ≠ 0 := pAl_ne 501 (by rw [← o3.1]; exact h43) R3.2.2.2.2.2.2.2.2.2.1
        refine ⟨_, rfl, hr, Or.inr (Or.inr ⟨by omega, by rw [← o3.1]; exact h43, rfl, ⟨?_, d1, d2, Or.inl ⟨by rw [wr_eq], ne⟩, p4.k (wr_nf (nm_ne1 (by decide))) (wr_nf (nm_ne1 (by decide))) (wr_nf (nm_ne1 (by decide))) (wr_nf (nm_ne1 (by decide))) (wr_nf (nm_ne1 (by decide))) (wr_nf (nm_ne1 (by decide)))⟩, R3.2.2.2.2.2.2.2, ?_, ?_, ?_, ?_, ?_, ?_, rfl⟩)⟩
        · rw [wr_nk (by decide), kk.s 6 (by decide), wr_eq]
        · rw [wr_nk (by decide), kk.s 5 (by decide), wr_nk (by decide)]; exact b5
        · rw [wr_nk (by decide), kk.s 2 (by decide), wr_nk (by decide)]; exact b2
        · rw [wr_nk (by decide), kk.s 1 (by decide), wr_nk (by decide)]; exact b1
        · rw [wr_nk (by decide), kk.s 0 (by decide), wr_nk (by decide)]; exact b0
        · intro v v0 v1 q
          rw [wr_nf (nm_ne1 (by decide)), hC.2.2.2.2.1 v v0 v1, wr_nf (nm_ne1 (by decide))]
          exact ((R3.2.2.2.2.1 v v0 v1).2.2.1 q).1
        · exact ((((kC.up (by decide) (by decide)).tr (f3.1.up (by decide) (by decide))).ws (by decide)).tr (kk.up (by decide) (by decide))).ws (by decide)
      · refine go_aload_n dX8_program_46 rfl rfl ?_
        refine go_aload_n dX8_program_47 rfl rfl ?_
        refine g8_161 dX8_program_48 ?_
        rw [(o3.2.2 h43).1]
        refine p8_272 dX8_program_51 ?_
        refine go_aload_n dX8_program_54 rfl rfl ?_
        refine go_aload_n dX8_program_55 rfl rfl ?_
        refine g8_164 dX8_program_56 ?_
        rw [wr_nk (by decide), (o3.2.2 h43).2]
        refine p8_11 dX8_program_59 ?_
        refine go_aload_n dX8_program_62 rfl rfl ?_
        refine go_iconst dX8_program_63 (R32_lit rfl) ?_
        refine v8_278 dX8_program_64 rfl ⟨rfl, rfl⟩ ⟨rfl, rfl⟩ ct_X8_no (fun r4 M4 N4 hr4 hq4 => ?_)
        refine go_reti dX8_program_67 ?_
        obtain ⟨y1, y2, rfl⟩ := hq4
        refine Or.inr (Or.inl ⟨by omega, by rw [← o3.1]; exact h43, y1, ?_, ?_, ?_, ?_, ?_, ?_, ?_, rfl⟩)
        · rw [y2, wr_nk (by decide), wr_nk (by decide), wr_nk (by decide)]; exact b5
        · rw [y2, wr_nk (by decide), wr_nk (by decide), wr_eq]
        · rw [y2, wr_nk (by decide), wr_eq]
        · rw [y2, wr_eq]
        · rw [y2, wr_nk (by decide), wr_nk (by decide), wr_nk (by decide)]; exact b0
        · rw [y2]; exact (((kC.lw (by decide) (by decide) (by decide) (by decide) (by decide) (by decide)).tr f3.2).ws.ws).ws
        · rw [y2]; exact ((((kC.up (by decide) (by decide)).tr (f3.1.up (by decide) (by decide))).ws (by decide)).ws (by decide)).ws (by decide)
    · refine go_iconst dX8_program_26 (R32_lit rfl) ?_
      refine go_reti dX8_program_27 ?_
      have e2 : kk = 2 := by omega
      subst e2
      exact Or.inl ⟨by omega, rfl, rfl, rfl⟩
  · refine go_iconst dX8_program_15 (R32_lit rfl) ?_
    refine go_goto (tgt := 20) dX8_program_16 rfl ?_
    refine go_nmi (fun kk ekk => ?_)
    have hkk : (kk = 0 ∧ 0 ≤ n ∧ n ≤ M (29, 0, 0) 5) ∨ (kk = 2 ∧ ¬ (0 ≤ n ∧ n ≤ M (29, 0, 0) 5)) := by omega
    clear ekk
    refine v8_269 dX8_program_20 rfl ⟨rfl, rfl⟩ ⟨rfl, rfl⟩ ct_X8_isRefused (fun r2 M2 N2 hr2 hq2 => ?_)
    obtain ⟨z2, rfl, rfl⟩ := hq2
    have z2 := bit_iff z2
    refine go_if_eq (tgt := 28) dX8_program_23 rfl (fun h23 => ?_) (fun h23 => ?_)
    · have e0 : kk = 0 := by omega
      subst e0
      refine go_aload_n dX8_program_28 rfl rfl ?_
      refine go_iconst dX8_program_29 (R32_lit rfl) ?_
      refine p8_113 dX8_program_30 ?_
      refine go_aload_n dX8_program_33 rfl rfl ?_
      refine go_iconst dX8_program_34 (R32_lit rfl) ?_
      refine p8_272 dX8_program_35 ?_
      refine go_nmM (fun Mc eMc => ?_)
      have kC : Kr [0, 1, 2, 3, 5] [] M Mc := by rw [eMc]; exact ((rfM_K.up (by decide) (by decide)).ws (by decide)).ws (by decide)
      have a5 : Mc (29, 0, 0) 5 = 0 := by rw [eMc, wr_nk (by decide), wr_eq]
      have a2 : Mc (29, 0, 0) 2 = 0 := by rw [eMc, wr_eq]
      have a1 : Mc (29, 0, 0) 1 = 0 := by rw [eMc, wr_nk (by decide), wr_nk (by decide)]; unfold rfM; rw [wr_eq]
      have a0 : Mc (29, 0, 0) 0 = 0 := by rw [eMc, wr_nk (by decide), wr_nk (by decide)]; unfold rfM; rw [wr_nk (by decide), wr_nk (by decide), wr_eq]
      clear eMc
      refine go_aload_n dX8_program_38 rfl rfl ?_
      refine go_iload_n dX8_program_39 rfl ?_
      refine v8_275 dX8_program_40 rfl ⟨rfl, rfl⟩ ⟨rfl, rfl⟩ (ct_X8_readAll (b := b) (s := s) hE (ht.k (kC.a 4 (by decide))) (by omega)) (fun r3 M3 N3 hr3 hq3 => ?_)
      obtain ⟨o3, f3, rfl⟩ := hq3
      have b5 : M3 (29, 0, 0) 5 = 0 := by rw [f3.1.s 5 (by decide)]; exact a5
      have b0 : M3 (29, 0, 0) 0 = 0 := by rw [f3.1.s 0 (by decide)]; exact a0
      have b1 : M3 (29, 0, 0) 1 = 0 := by rw [f3.1.s 1 (by decide)]; exact a1
      have b2 : M3 (29, 0, 0) 2 = 0 := by rw [f3.1.s 2 (by decide)]; exact a2
      refine go_if_ne (tgt := 68) dX8_program_43 rfl (fun h43 => ?_) (fun h43 => ?_)
      · have R3 := o3.2.1 h43
        have d1 := R3.2.2.2.2.2.2.2.1
        have d2 := R3.2.2.2.2.2.2.2.2.1
        refine go_aload_n dX8_program_68 rfl rfl ?_
        refine go_aload_n dX8_program_69 rfl rfl ?_
        refine g8_199 dX8_program_70 ?_
        rw [R3.1.2.2.2.2.2.1]
        refine p8_259 dX8_program_73 ?_
        refine go_iconst dX8_program_76 (R32_lit rfl) ?_
        refine go_ist2 dX8_program_77 rfl rfl ?_
        refine go_mono (fun q M4 N4 => ?_) (lp_X8_program (M := wr M3 (29, 0, 0) 6 ((pAl b 501 (rdS b n s)).2.2 11 0)) (c := (pAl b 501 (rdS b n s)).2.2 11 0) (by rw [wr_eq]) d1 d2 ((pAl b 501 (rdS b n s)).2.2 11 0).toNat 0 vn _ (by omega) (by omega) CPI_0)
        rintro ⟨r, rfl, hr, rfl, ⟨M5, hC, rfl⟩, rfl⟩
        have kk := hC.2.2.2.2.2.2.2
        have p3 : PR 15 ((pAl b 501 (rdS b n s)).2.2 11 0) (pAl b 501 (rdS b n s)).2.2 (wr M3 (29, 0, 0) 6 ((pAl b 501 (rdS b n s)).2.2 11 0)) := R3.2.2.2.2.1.k (wr_nf (nm_ne1 (by decide))) (wr_nf (nm_ne1 (by decide))) (wr_nf (nm_ne1 (by decide))) (wr_nf (nm_ne1 (by decide))) (wr_nf (nm_ne1 (by decide))) (wr_nf (nm_ne1 (by decide)))
        have p4 := hC.pr p3
        have ne : (pAl b 501 (rdS b n s)).2.2 11 0 ≠ 0 := pAl_ne 501 (by rw [← o3.1]; exact h43) R3.2.2.2.2.2.2.2.2.2.1
        refine ⟨_, rfl, hr, Or.inr (Or.inr ⟨by omega, by rw [← o3.1]; exact h43, rfl, ⟨?_, d1, d2, Or.inl ⟨by rw [wr_eq], ne⟩, p4.k (wr_nf (nm_ne1 (by decide))) (wr_nf (nm_ne1 (by decide))) (wr_nf (nm_ne1 (by decide))) (wr_nf (nm_ne1 (by decide))) (wr_nf (nm_ne1 (by decide))) (wr_nf (nm_ne1 (by decide)))⟩, R3.2.2.2.2.2.2.2, ?_, ?_, ?_, ?_, ?_, ?_, rfl⟩)⟩
        · rw [wr_nk (by decide), kk.s 6 (by decide), wr_eq]
        · rw [wr_nk (by decide), kk.s 5 (by decide), wr_nk (by decide)]; exact b5
        · rw [wr_nk (by decide), kk.s 2 (by decide), wr_nk (by decide)]; exact b2
        · rw [wr_nk (by decide), kk.s 1 (by decide), wr_nk (by decide)]; exact b1
        · rw [wr_nk (by decide), kk.s 0 (by decide), wr_nk (by decide)]; exact b0
        · intro v v0 v1 q
          rw [wr_nf (nm_ne1 (by decide)), hC.2.2.2.2.1 v v0 v1, wr_nf (nm_ne1 (by decide))]
          exact ((R3.2.2.2.2.1 v v0 v1).2.2.1 q).1
        · exact ((((kC.up (by decide) (by decide)).tr (f3.1.up (by decide) (by decide))).ws (by decide)).tr (kk.up (by decide) (by decide))).ws (by decide)
      · refine go_aload_n dX8_program_46 rfl rfl ?_
        refine go_aload_n dX8_program_47 rfl rfl ?_
        refine g8_161 dX8_program_48 ?_
        rw [(o3.2.2 h43).1]
        refine p8_272 dX8_program_51 ?_
        refine go_aload_n dX8_program_54 rfl rfl ?_
        refine go_aload_n dX8_program_55 rfl rfl ?_
        refine g8_164 dX8_program_56 ?_
        rw [wr_nk (by decide), (o3.2.2 h43).2]
        refine p8_11 dX8_program_59 ?_
        refine go_aload_n dX8_program_62 rfl rfl ?_
        refine go_iconst dX8_program_63 (R32_lit rfl) ?_
        refine v8_278 dX8_program_64 rfl ⟨rfl, rfl⟩ ⟨rfl, rfl⟩ ct_X8_no (fun r4 M4 N4 hr4 hq4 => ?_)
        refine go_reti dX8_program_67 ?_
        obtain ⟨y1, y2, rfl⟩ := hq4
        refine Or.inr (Or.inl ⟨by omega, by rw [← o3.1]; exact h43, y1, ?_, ?_, ?_, ?_, ?_, ?_, ?_, rfl⟩)
        · rw [y2, wr_nk (by decide), wr_nk (by decide), wr_nk (by decide)]; exact b5
        · rw [y2, wr_nk (by decide), wr_nk (by decide), wr_eq]
        · rw [y2, wr_nk (by decide), wr_eq]
        · rw [y2, wr_eq]
        · rw [y2, wr_nk (by decide), wr_nk (by decide), wr_nk (by decide)]; exact b0
        · rw [y2]; exact (((kC.lw (by decide) (by decide) (by decide) (by decide) (by decide) (by decide)).tr f3.2).ws.ws).ws
        · rw [y2]; exact ((((kC.up (by decide) (by decide)).tr (f3.1.up (by decide) (by decide))).ws (by decide)).ws (by decide)).ws (by decide)
    · refine go_iconst dX8_program_26 (R32_lit rfl) ?_
      refine go_reti dX8_program_27 ?_
      have e2 : kk = 2 := by omega
      subst e2
      exact Or.inl ⟨by omega, rfl, rfl, rfl⟩
