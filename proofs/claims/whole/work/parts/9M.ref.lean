/-- a range changed -/
def rgA (S : Pg) (v a x : Int) : Pg := stA (pst (pst S 2 v a) 3 v x) (S 11 0).toNat
theorem rgA_raw {S : Pg} {v a x : Int} {f : Nat} (h2 : f ≠ 2) (h3 : f ≠ 3) (h5 : f ≠ 5) (h6 : f ≠ 6) (h7 : f ≠ 7) : rgA S v a x f = S f := by
  unfold rgA
  rw [stA_raw h5 h6 h7, pst_ne h3, pst_ne h2]
theorem rgP_2 {S : Pg} {v a x u : Int} : (pst (pst S 2 v a) 3 v x) 2 u = if u = v then a else S 2 u := by
  rw [pst_ne (by decide)]
  unfold pst
  by_cases z : u = v
  · rw [if_pos ⟨rfl, z⟩, if_pos z]
  · rw [if_neg (fun q => z q.2), if_neg z]
theorem rgP_3 {S : Pg} {v a x u : Int} : (pst (pst S 2 v a) 3 v x) 3 u = if u = v then x else S 3 u := by
  have e : pst (pst S 2 v a) 3 v x 3 u = if (3 : Nat) = 3 ∧ u = v then x else pst S 2 v a 3 u := rfl
  rw [e]
  by_cases z : u = v
  · rw [if_pos ⟨rfl, z⟩, if_pos z]
  · rw [if_neg (fun q => z q.2), if_neg z, pst_ne (by decide)]
theorem QR_range {S : Pg} {M : Mm} {v a x : Int} (h : QR S M) : QR (rgA S v a x) (wr (wr M (30, 0, 9) v a) (30, 0, 10) v x) := by
  have e0 : rgA S v a x 0 = S 0 := rgA_raw (by decide) (by decide) (by decide) (by decide) (by decide)
  have e4 : rgA S v a x 4 = S 4 := rgA_raw (by decide) (by decide) (by decide) (by decide) (by decide)
  have e8 : rgA S v a x 8 = S 8 := rgA_raw (by decide) (by decide) (by decide) (by decide) (by decide)
  have e9 : rgA S v a x 9 = S 9 := rgA_raw (by decide) (by decide) (by decide) (by decide) (by decide)
  have e11 : rgA S v a x 11 = S 11 := rgA_raw (by decide) (by decide) (by decide) (by decide) (by decide)
  have e2 : ∀ u, rgA S v a x 2 u = if u = v then a else S 2 u := fun u => by
    unfold rgA
    rw [stA_raw (by decide) (by decide) (by decide)]; exact rgP_2
  have e3 : ∀ u, rgA S v a x 3 u = if u = v then x else S 3 u := fun u => by
    unfold rgA
    rw [stA_raw (by decide) (by decide) (by decide)]; exact rgP_3
  have eo : ∀ u, opn (rgA S v a x) u = opn S u := fun u => by unfold opn; rw [e0]
  obtain ⟨h1, h2, h3, h4, h5⟩ := h
  unfold QR
  rw [e11, wr_nf (nm_ne1 (by decide)), wr_nf (nm_ne1 (by decide))]
  refine ⟨h1, h2, h3, h4, fun u u0 u1 => ?_⟩
  obtain ⟨a1, a2, a3, a4⟩ := h5 u u0 u1
  rw [e0, e4, e8, e9, eo, show wr (wr M (30, 0, 9) v a) (30, 0, 10) v x (30, 0, 7) = M (30, 0, 7) from by rw [wr_nf (nm_ne3 (by decide)), wr_nf (nm_ne3 (by decide))], show wr (wr M (30, 0, 9) v a) (30, 0, 10) v x (30, 0, 8) = M (30, 0, 8) from by rw [wr_nf (nm_ne3 (by decide)), wr_nf (nm_ne3 (by decide))], show wr (wr M (30, 0, 9) v a) (30, 0, 10) v x (30, 0, 11) = M (30, 0, 11) from by rw [wr_nf (nm_ne3 (by decide)), wr_nf (nm_ne3 (by decide))], show wr (wr M (30, 0, 9) v a) (30, 0, 10) v x (30, 0, 12) = M (30, 0, 12) from by rw [wr_nf (nm_ne3 (by decide)), wr_nf (nm_ne3 (by decide))]]
  refine ⟨a1, a2, fun q => ?_, a4⟩
  have a3 := a3 q
  rw [Int.zero_add] at a3 ⊢
  rw [e2, e3]
  by_cases z : u = v
  · rw [if_pos z, if_pos z, z, wr_nn (nm_ne3 (by decide)), wr_eq, wr_eq]; exact ⟨rfl, rfl⟩
  · rw [if_neg z, if_neg z, wr_nn (nm_ne3 (by decide)), wr_nk z, wr_nk z, wr_nn (nm_ne3 (by decide))]; exact a3
theorem rgA_wr {S : Pg} {v a x : Int} (hW : WF S) (a0 : -1000 ≤ a) (ax : a ≤ x) (x1 : x ≤ 1000) : ∀ u, 0 ≤ u → u < S 11 0 → WFr (pst (pst S 2 v a) 3 v x) u := by
  intro u u0 u1
  have w := (hW.2.2.2.2.2.2.1 u u0 u1).1
  have eo : opn (pst (pst S 2 v a) 3 v x) u = opn S u := by unfold opn; rw [pst_ne (by decide), pst_ne (by decide)]
  unfold WFr WFo
  rw [eo, show (pst (pst S 2 v a) 3 v x) 0 = S 0 from by rw [pst_ne (by decide), pst_ne (by decide)], show (pst (pst S 2 v a) 3 v x) 4 = S 4 from by rw [pst_ne (by decide), pst_ne (by decide)], show (pst (pst S 2 v a) 3 v x) 8 = S 8 from by rw [pst_ne (by decide), pst_ne (by decide)], show (pst (pst S 2 v a) 3 v x) 9 = S 9 from by rw [pst_ne (by decide), pst_ne (by decide)], rgP_2, rgP_3]
  refine ⟨fun q => ?_, w.2⟩
  by_cases z : u = v
  · rw [if_pos z, if_pos z]; exact ⟨a0, ax, x1⟩
  · rw [if_neg z, if_neg z]; exact w.1 q
set_option maxRecDepth 100000 in
set_option maxHeartbeats 4000000 in
theorem ct_X8_range {E : Ev} {M : Mm} {N : Nn} {S : Pg} {v a x : Int} (hQ : QR S M) (hW : WF S) : Ct E yX8_range cX8_range 7 ((some .boolean)) (rmH 4) [vr (29, 0, 0), vi v, vi a, vi x] M N (qi (fun r M1 N1 => (((0 ≤ v ∧ v < S 11 0 ∧ S 0 v = -2) ∧ (-1000 ≤ a ∧ a ≤ 1000 ∧ a ≤ x ∧ x ≤ 1000 ∧ (x - a).tmod 2 = 0)) ∧ okW (pst (pst S 2 v a) 3 v x) ∧ r = 1 ∧ QR (rgA S v a x) M1 ∧ M1 (30, 0, 13) = upI (M (30, 0, 13)) v a ∧ Kr [] [9, 10, 13, 27] (rfM M 0) M1 ∨ ((0 ≤ v ∧ v < S 11 0 ∧ S 0 v = -2) ∧ (-1000 ≤ a ∧ a ≤ 1000 ∧ a ≤ x ∧ x ≤ 1000 ∧ (x - a).tmod 2 = 0)) ∧ ¬ okW (pst (pst S 2 v a) 3 v x) ∧ r = 0 ∧ F8 (rfM M 5) M1 ∨ ((0 ≤ v ∧ v < S 11 0 ∧ S 0 v = -2) ∧ ¬ (-1000 ≤ a ∧ a ≤ 1000 ∧ a ≤ x ∧ x ≤ 1000 ∧ (x - a).tmod 2 = 0)) ∧ r = 0 ∧ F8 (rfM M 2) M1 ∨ ¬ (0 ≤ v ∧ v < S 11 0 ∧ S 0 v = -2) ∧ r = 0 ∧ F8 (rfM M 1) M1) ∧ N = N1)) := by
  refine ct_of (own := RX8) (L0 := [vr (29, 0, 0), vi v, vi a, vi x, vn, vn, vn]) rfl (by decide +kernel) rfl rfl ?_
  have c6 := hQ.1
  have c5 := hQ.2.2.1
  have c0 := hQ.2.1
  refine go_iload_n dX8_range_0 rfl ?_
  refine go_i2l dX8_range_1 ?_
  refine c8_512 dX8_range_2 ?_
  refine c8_514 dX8_range_5 ?_
  refine v8_140 dX8_range_8 rfl ⟨rfl, rfl⟩ ⟨rfl, rfl⟩ ct_X8_in (fun r1 M1 N1 hr1 hq1 => ?_)
  obtain ⟨z1, rfl, rfl⟩ := hq1
  have z1 := bit_iff z1
  have jn40 : ∀ y0 : Int, y0 = (if (-1000 ≤ a ∧ a ≤ 1000 ∧ a ≤ x ∧ x ≤ 1000 ∧ (x - a).tmod 2 = 0) then 1 else 0) → Go E RX8 cX8_range 7 ((some .boolean)) (rmH 4) 0 0 (zM E (qi (fun r M1 N1 => (((0 ≤ v ∧ v < S 11 0 ∧ S 0 v = -2) ∧ (-1000 ≤ a ∧ a ≤ 1000 ∧ a ≤ x ∧ x ≤ 1000 ∧ (x - a).tmod 2 = 0)) ∧ okW (pst (pst S 2 v a) 3 v x) ∧ r = 1 ∧ QR (rgA S v a x) M1 ∧ M1 (30, 0, 13) = upI (M (30, 0, 13)) v a ∧ Kr [] [9, 10, 13, 27] (rfM M 0) M1 ∨ ((0 ≤ v ∧ v < S 11 0 ∧ S 0 v = -2) ∧ (-1000 ≤ a ∧ a ≤ 1000 ∧ a ≤ x ∧ x ≤ 1000 ∧ (x - a).tmod 2 = 0)) ∧ ¬ okW (pst (pst S 2 v a) 3 v x) ∧ r = 0 ∧ F8 (rfM M 5) M1 ∨ ((0 ≤ v ∧ v < S 11 0 ∧ S 0 v = -2) ∧ ¬ (-1000 ≤ a ∧ a ≤ 1000 ∧ a ≤ x ∧ x ≤ 1000 ∧ (x - a).tmod 2 = 0)) ∧ r = 0 ∧ F8 (rfM M 2) M1 ∨ ¬ (0 ≤ v ∧ v < S 11 0 ∧ S 0 v = -2) ∧ r = 0 ∧ F8 (rfM M 1) M1) ∧ N = N1))) 40 [vr (29, 0, 0), vi v, vi a, vi x, vn, vn, vn] [vi y0] M N := by
    intro y0 ey
    have so := bit_iff ey
    have so1 : y0 ≠ 0 → (-1000 ≤ a ∧ a ≤ 1000 ∧ a ≤ x ∧ x ≤ 1000 ∧ (x - a).tmod 2 = 0) := fun h => (so.1.1 (by by_cases z : y0 = 0; exact absurd z h; (by_cases w : (-1000 ≤ a ∧ a ≤ 1000 ∧ a ≤ x ∧ x ≤ 1000 ∧ (x - a).tmod 2 = 0); (rw [if_pos w] at ey; exact ey); (rw [if_neg w] at ey; exact absurd ey z))))
    have ns : y0 = 0 → ¬ (-1000 ≤ a ∧ a ≤ 1000 ∧ a ≤ x ∧ x ≤ 1000 ∧ (x - a).tmod 2 = 0) := fun h => so.2.1 h
    clear so ey
    refine go_ist4 dX8_range_40 rfl rfl ?_
    refine go_aload_n dX8_range_42 rfl rfl ?_
    refine go_aload_n dX8_range_43 rfl rfl ?_
    refine go_iload_n dX8_range_44 rfl ?_
    refine v8_343 dX8_range_45 rfl ⟨rfl, rfl⟩ ⟨rfl, rfl⟩ (ct_X8_isInputAt hQ) (fun r4 M3 N3 hr4 hq4 => ?_)
    obtain ⟨z4, rfl, rfl⟩ := hq4
    have z4 := bit_iff z4
    refine go_iload dX8_range_48 rfl ?_
    refine v8_346 dX8_range_50 rfl ⟨rfl, rfl⟩ ⟨rfl, rfl⟩ ct_X8_unless_ (fun r5 M4 N4 hr5 hq5 => ?_)
    obtain ⟨z5, rfl, rfl⟩ := hq5
    have z5 := u2_cs z5
    refine v8_269 dX8_range_53 rfl ⟨rfl, rfl⟩ ⟨rfl, rfl⟩ ct_X8_isRefused (fun r6 M6 N6 hr6 hq6 => ?_)
    obtain ⟨z6, rfl, rfl⟩ := hq6
    have z6 := bit_iff z6
    refine go_if_eq (tgt := 61) dX8_range_56 rfl (fun h56 => ?_) (fun h56 => ?_)
    · have hv : (0 ≤ v ∧ v < S 11 0 ∧ S 0 v = -2) := by omega
      have hc : (-1000 ≤ a ∧ a ≤ 1000 ∧ a ≤ x ∧ x ≤ 1000 ∧ (x - a).tmod 2 = 0) := so1 (by omega)
      rw [show r5 = 0 by omega]
      have Q0 := rfM_Q (k := 0) hQ
      have g4 := (Q0.2.2.2.2 v hv.1 hv.2.1).2.2.1 hv.2.2
      rw [Int.zero_add] at g4
      clear z4 z5 z6 so1 ns
      refine go_aload_n dX8_range_61 rfl rfl ?_
      refine g8_25 dX8_range_62 ?_
      refine go_iload_n dX8_range_65 rfl ?_
      refine go_iald dX8_range_66 rfl (by omega) (by omega) ?_
      rw [g4.1]
      refine go_ist5 dX8_range_67 rfl rfl ?_
      refine go_aload_n dX8_range_69 rfl rfl ?_
      refine g8_28 dX8_range_70 ?_
      refine go_iload_n dX8_range_73 rfl ?_
      refine go_iald dX8_range_74 rfl (by omega) (by omega) ?_
      rw [g4.2]
      refine go_ist6 dX8_range_75 rfl rfl ?_
      refine go_aload_n dX8_range_77 rfl rfl ?_
      refine g8_25 dX8_range_78 ?_
      refine go_iload_n dX8_range_81 rfl ?_
      refine go_iload_n dX8_range_82 rfl ?_
      refine go_iast dX8_range_83 rfl (by omega) (by omega) ?_
      refine go_aload_n dX8_range_84 rfl rfl ?_
      refine g8_28 dX8_range_85 ?_
      refine go_iload_n dX8_range_88 rfl ?_
      refine go_iload_n dX8_range_89 rfl ?_
      refine go_iast dX8_range_90 rfl (by omega) (by omega) ?_
      refine go_nmM (fun Ma eMa => ?_)
      have fa : Kr [] [9, 10, 13, 27] (rfM M 0) Ma := by rw [eMa]; exact Kr.wa (Kr.wa Kr.rf (by decide)) (by decide)
      have fb : Kr [] [9, 10, 27] (rfM M 0) Ma := by rw [eMa]; exact Kr.wa (Kr.wa Kr.rf (by decide)) (by decide)
      have Qa : QR (rgA S v a x) Ma := by rw [eMa]; exact QR_range Q0
      have ea : Ma (30, 0, 9) = upI (rfM M 0 (30, 0, 9)) v a := by rw [eMa, wr_nf (nm_ne3 (by decide))]; exact upI_wr
      have eb : Ma (30, 0, 10) = upI (rfM M 0 (30, 0, 10)) v x := by rw [eMa, upI_wr, wr_nf (nm_ne3 (by decide))]
      clear eMa
      have e11 : rgA S v a x 11 0 = S 11 0 := by rw [rgA_raw (by decide) (by decide) (by decide) (by decide) (by decide)]
      have wr0 := rgA_wr (v := v) hW hc.1 hc.2.2.1 hc.2.2.2.1
      have hw6 : ∀ u, 0 ≤ u → u < S 11 0 → WFr (rgA S v a x) u ∧ rgA S v a x 6 u = wtS (rgA S v a x) u := fun u u0 u1 => ⟨WFr_sA (wr0 u u0 u1) _, sA_wt wr0 _ (by omega) u u0 (by omega)⟩
      have ok6 : ∀ u, 0 ≤ u → u < S 11 0 → rgA S v a x 6 u = wtT (pst (pst S 2 v a) 3 v x) u := fun u u0 u1 => stA_lo6 _ u u0 (by omega)
      have e11p : (pst (pst S 2 v a) 3 v x) 11 0 = S 11 0 := by rw [pst_ne (by decide), pst_ne (by decide)]
      refine go_aload_n dX8_range_91 rfl rfl ?_
      refine go_iconst dX8_range_92 (R32_lit rfl) ?_
      refine go_aload_n dX8_range_93 rfl rfl ?_
      refine g8_259 dX8_range_94 ?_
      rw [Qa.1]
      refine v8_232 dX8_range_97 rfl ⟨rfl, rfl⟩ ⟨rfl, rfl⟩ (ct_X8_laysWeights (S := rgA S v a x) Qa.2.2.2.2 Qa.2.1 Qa.2.2.1 (by decide) (by decide) (fun u u0 u1 => hw6 u u0 (by omega))) (fun r7 M5 N5 hr7 hq7 => ?_)
      obtain ⟨y5, f5, rfl⟩ := hq7
      rw [e11] at y5
      have f6 : Kr [] [9, 10, 13, 27] (rfM M 0) M5 := fa.tr (f5.up (by decide) (by decide))
      have f7 : Kr [] [9, 10, 27] (rfM M 0) M5 := fb.tr (f5.up (by decide) (by decide))
      refine go_if_ne (tgt := 126) dX8_range_100 rfl (fun h100 => ?_) (fun h100 => ?_)
      · refine go_aload_n dX8_range_126 rfl rfl ?_
        refine g8_37 dX8_range_127 ?_
        refine go_iload_n dX8_range_130 rfl ?_
        refine go_iload_n dX8_range_131 rfl ?_
        refine go_iast dX8_range_132 rfl (by omega) (by omega) ?_
        refine go_iconst dX8_range_133 (R32_lit rfl) ?_
        refine go_retz dX8_range_134 (by first | exact Or.inl rfl | exact Or.inr rfl | omega) ?_
        refine ⟨Or.inl ⟨⟨hv, hc⟩, ?_, rfl, Qa.k (f5.up (K' := []) (A' := [27, 13]) (by decide) (by decide) |>.wa (f := 13) (by decide)) (by decide) (by decide) (by decide) (by decide) (by decide) (by decide) (by decide) (by decide), ?_, f6.wa (by decide)⟩, rfl⟩
        · rcases y5 with ⟨q, -, -⟩ | ⟨-, q⟩
          · intro u u0 u1
            rw [e11p] at u1
            rw [← ok6 u u0 u1]; exact q u u0 u1
          · omega
        · rw [upI_wr, f7.a 13 (by decide), rfM_a]
      · refine go_aload_n dX8_range_103 rfl rfl ?_
        refine g8_25 dX8_range_104 ?_
        refine go_iload_n dX8_range_107 rfl ?_
        refine go_iload dX8_range_108 rfl ?_
        refine go_iast dX8_range_110 rfl (by omega) (by omega) ?_
        refine go_aload_n dX8_range_111 rfl rfl ?_
        refine g8_28 dX8_range_112 ?_
        refine go_iload_n dX8_range_115 rfl ?_
        refine go_iload dX8_range_116 rfl ?_
        refine go_iast dX8_range_118 rfl (by omega) (by omega) ?_
        refine go_aload_n dX8_range_119 rfl rfl ?_
        refine go_iconst dX8_range_120 (R32_lit rfl) ?_
        refine p8_108 dX8_range_121 ?_
        refine go_iconst dX8_range_124 (R32_lit rfl) ?_
        refine go_retz dX8_range_125 (by first | exact Or.inl rfl | exact Or.inr rfl | omega) ?_
        refine ⟨Or.inr (Or.inl ⟨⟨hv, hc⟩, ?_, rfl, ?_⟩), rfl⟩
        · rcases y5 with ⟨-, q, -⟩ | ⟨⟨u, u0, u1, u2⟩, -⟩
          · omega
          · intro w
            have := w u u0 (by omega)
            rw [← ok6 u u0 u1] at this
            omega
        · rw [← g4.1, ← g4.2]
          have k9 := Kr_bk f7 ((f5.a 9 (by decide)).trans ea)
          exact F8.no (F8.of (Kr_bk k9 (by rw [wr_nf (nm_ne3 (by decide))]; exact (f5.a 10 (by decide)).trans eb)) (by decide) (by decide))
    · refine go_iconst dX8_range_59 (R32_lit rfl) ?_
      refine go_retz dX8_range_60 (by first | exact Or.inl rfl | exact Or.inr rfl | omega) ?_
      rcases z5 with ⟨y, e⟩ | ⟨y, g, e⟩ | ⟨y, g, e⟩
      · rw [e]; exact ⟨Or.inr (Or.inr (Or.inr ⟨by omega, rfl, F8.rf⟩)), rfl⟩
      · rw [e]; exact ⟨Or.inr (Or.inr (Or.inl ⟨⟨by omega, ns (by omega)⟩, rfl, F8.rf⟩)), rfl⟩
      · omega
  refine go_if_eq (tgt := 39) dX8_range_11 rfl (fun h11 => ?_) (fun h11 => ?_)
  · refine go_iconst dX8_range_39 (R32_lit rfl) ?_
    exact jn40 _ (by first | (rw [if_pos ⟨by omega, by omega, by omega, by omega, by omega⟩]; done) | (rw [if_neg (fun q => by omega)]; done))
  · refine go_iload_n dX8_range_14 rfl ?_
    refine go_i2l dX8_range_15 ?_
    refine go_iload_n dX8_range_16 rfl ?_
    refine go_i2l dX8_range_17 ?_
    refine c8_514 dX8_range_18 ?_
    refine v8_140 dX8_range_21 rfl ⟨rfl, rfl⟩ ⟨rfl, rfl⟩ ct_X8_in (fun r2 M2 N2 hr2 hq2 => ?_)
    obtain ⟨z2, rfl, rfl⟩ := hq2
    have z2 := bit_iff z2
    refine go_if_eq (tgt := 39) dX8_range_24 rfl (fun h24 => ?_) (fun h24 => ?_)
    · refine go_iconst dX8_range_39 (R32_lit rfl) ?_
      exact jn40 _ (by first | (rw [if_pos ⟨by omega, by omega, by omega, by omega, by omega⟩]; done) | (rw [if_neg (fun q => by omega)]; done))
    · refine go_iload_n dX8_range_27 rfl ?_
      refine go_iload_n dX8_range_28 rfl ?_
      refine go_isubc dX8_range_29 ⟨by omega, by omega⟩ ?_
      refine go_iconst dX8_range_30 (R32_lit rfl) ?_
      refine go_irem dX8_range_31 (by decide) ?_
      refine go_if_ne (tgt := 39) dX8_range_32 rfl (fun h32 => ?_) (fun h32 => ?_)
      · refine go_iconst dX8_range_39 (R32_lit rfl) ?_
        exact jn40 _ (by first | (rw [if_pos ⟨by omega, by omega, by omega, by omega, by omega⟩]; done) | (rw [if_neg (fun q => by omega)]; done))
      · refine go_iconst dX8_range_35 (R32_lit rfl) ?_
        refine go_goto (tgt := 40) dX8_range_36 rfl ?_
        exact jn40 _ (by first | (rw [if_pos ⟨by omega, by omega, by omega, by omega, by omega⟩]; done) | (rw [if_neg (fun q => by omega)]; done))
