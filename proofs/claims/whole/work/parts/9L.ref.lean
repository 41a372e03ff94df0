/-- weights of what is settled, heavy or not -/
theorem sA_wt {S : Pg} {c : Int} (hr : ∀ v, 0 ≤ v → v < c → WFr S v) : ∀ k : Nat, (k : Int) ≤ c → ∀ v : Int, 0 ≤ v → v < k → stA S k 6 v = wtS (stA S k) v
  | 0, _, v, v0, v1 => absurd v1 (by omega)
  | k + 1, hk, v, v0, v1 => by
    show stS (stA S k) k 6 v = wtS (stS (stA S k) k) v
    by_cases q : v = k
    · rw [q, stS_6, (stS_st (WFr_sA (hr k (by omega) (by omega)) k) (by omega)).2.1]
    · have ih := sA_wt hr k (by omega) v v0 (by omega)
      rw [(Cg_st.1 v v0 (by omega)).2.2.2.2.2.1, (st_cg Cg_st v0 (by omega) (WFr_sA (hr v v0 (by omega)) k)).2.1]
      exact ih
theorem Kr_bk {M M1 : Mm} {K : List Int} {A : List Nat} {f : Nat} {v x : Int} (h : Kr K (f :: A) M M1) (e : M1 (30, 0, f) = upI (M (30, 0, f)) v x) : Kr K A M (wr M1 (30, 0, f) v (M (30, 0, f) v)) := by
  refine ⟨fun n a b => ?_, fun j hj => by rw [wr_nf (nm_ne1 (by decide))]; exact h.2 j hj⟩
  by_cases z : n = (30, 0, f)
  · rw [z, upI_wr, e]; exact upI_bk rfl
  · rw [wr_nf z]
    refine h.1 n a (fun g hg => ?_)
    rcases List.mem_cons.1 hg with q | q
    · rw [q]; exact z
    · exact b g q
/-- a grid changed -/
def gdA (S : Pg) (v k : Int) : Pg := stA (pst S 4 v k) (S 11 0).toNat
theorem gdA_raw {S : Pg} {v k : Int} {f : Nat} (h4 : f ≠ 4) (h5 : f ≠ 5) (h6 : f ≠ 6) (h7 : f ≠ 7) : gdA S v k f = S f := by
  unfold gdA
  rw [stA_raw h5 h6 h7, pst_ne h4]
theorem gdA_4 {S : Pg} {v k u : Int} : gdA S v k 4 u = if u = v then k else S 4 u := by
  unfold gdA
  rw [stA_raw (by decide) (by decide) (by decide)]
  unfold pst
  by_cases z : u = v
  · rw [if_pos ⟨rfl, z⟩, if_pos z]
  · rw [if_neg (fun q => z q.2), if_neg z]
theorem QR_grid {S : Pg} {M : Mm} {v k : Int} (h : QR S M) : QR (gdA S v k) (wr M (30, 0, 8) v k) := by
  have e0 : gdA S v k 0 = S 0 := gdA_raw (by decide) (by decide) (by decide) (by decide)
  have e2 : gdA S v k 2 = S 2 := gdA_raw (by decide) (by decide) (by decide) (by decide)
  have e3 : gdA S v k 3 = S 3 := gdA_raw (by decide) (by decide) (by decide) (by decide)
  have e8 : gdA S v k 8 = S 8 := gdA_raw (by decide) (by decide) (by decide) (by decide)
  have e9 : gdA S v k 9 = S 9 := gdA_raw (by decide) (by decide) (by decide) (by decide)
  have e11 : gdA S v k 11 = S 11 := gdA_raw (by decide) (by decide) (by decide) (by decide)
  have eo : ∀ u, opn (gdA S v k) u = opn S u := fun u => by unfold opn; rw [e0]
  obtain ⟨h1, h2, h3, h4, h5⟩ := h
  unfold QR
  rw [e11, wr_nf (nm_ne1 (by decide))]
  refine ⟨h1, h2, h3, h4, fun u u0 u1 => ?_⟩
  obtain ⟨a1, a2, a3, a4⟩ := h5 u u0 u1
  rw [e0, e2, e3, e8, e9, eo, gdA_4, show wr M (30, 0, 8) v k (30, 0, 7) = M (30, 0, 7) from wr_nf (nm_ne3 (by decide)), show wr M (30, 0, 8) v k (30, 0, 9) = M (30, 0, 9) from wr_nf (nm_ne3 (by decide)), show wr M (30, 0, 8) v k (30, 0, 10) = M (30, 0, 10) from wr_nf (nm_ne3 (by decide)), show wr M (30, 0, 8) v k (30, 0, 11) = M (30, 0, 11) from wr_nf (nm_ne3 (by decide)), show wr M (30, 0, 8) v k (30, 0, 12) = M (30, 0, 12) from wr_nf (nm_ne3 (by decide))]
  refine ⟨a1, ?_, a3, a4⟩
  rw [Int.zero_add] at a2 ⊢
  by_cases z : u = v
  · rw [if_pos z, z, wr_eq]
  · rw [if_neg z, wr_nk z]; exact a2
theorem gdA_wr {S : Pg} {v k : Int} (hW : WF S) (k0 : 0 ≤ k) (k1 : k ≤ 8) : ∀ u, 0 ≤ u → u < S 11 0 → WFr (pst S 4 v k) u := by
  intro u u0 u1
  have w := (hW.2.2.2.2.2.2.1 u u0 u1).1
  have eo : opn (pst S 4 v k) u = opn S u := by unfold opn; rw [pst_ne (by decide)]
  unfold WFr WFo
  rw [eo, show pst S 4 v k 0 = S 0 from pst_ne (by decide), show pst S 4 v k 2 = S 2 from pst_ne (by decide), show pst S 4 v k 3 = S 3 from pst_ne (by decide), show pst S 4 v k 8 = S 8 from pst_ne (by decide), show pst S 4 v k 9 = S 9 from pst_ne (by decide)]
  refine ⟨w.1, fun q => ?_⟩
  obtain ⟨g1, g2, g3, g4, g5⟩ := w.2 q
  refine ⟨g1, g2, ?_, ?_, g5⟩
  · unfold pst
    split
    · exact k0
    · exact g3
  · unfold pst
    split
    · exact k1
    · exact g4
set_option maxRecDepth 100000 in
set_option maxHeartbeats 4000000 in
theorem ct_X8_grid {E : Ev} {M : Mm} {N : Nn} {S : Pg} {v k : Int} (hQ : QR S M) (hW : WF S) : Ct E yX8_grid cX8_grid 4 ((some .int)) (rmH 4) [vr (29, 0, 0), vi v, vi k] M N (qi (fun r M1 N1 => (((0 ≤ v ∧ v < S 11 0 ∧ S 0 v ≠ -2) ∧ (0 ≤ k ∧ k ≤ 8)) ∧ okW (pst S 4 v k) ∧ r = S 4 v ∧ QR (gdA S v k) M1 ∧ Kr [] [8, 27] (rfM M 0) M1 ∨ ((0 ≤ v ∧ v < S 11 0 ∧ S 0 v ≠ -2) ∧ (0 ≤ k ∧ k ≤ 8)) ∧ ¬ okW (pst S 4 v k) ∧ r = -1 ∧ F8 (rfM M 5) M1 ∨ ((0 ≤ v ∧ v < S 11 0 ∧ S 0 v ≠ -2) ∧ ¬ (0 ≤ k ∧ k ≤ 8)) ∧ r = -1 ∧ F8 (rfM M 2) M1 ∨ ¬ (0 ≤ v ∧ v < S 11 0 ∧ S 0 v ≠ -2) ∧ r = -1 ∧ F8 (rfM M 1) M1) ∧ N = N1)) := by
  refine ct_of (own := RX8) (L0 := [vr (29, 0, 0), vi v, vi k, vn]) rfl (by decide +kernel) rfl rfl ?_
  have c6 := hQ.1
  have c5 := hQ.2.2.1
  have c0 := hQ.2.1
  refine go_aload_n dX8_grid_0 rfl rfl ?_
  refine go_aload_n dX8_grid_1 rfl rfl ?_
  refine go_iload_n dX8_grid_2 rfl ?_
  refine v8_316 dX8_grid_3 rfl ⟨rfl, rfl⟩ ⟨rfl, rfl⟩ (ct_X8_isStep hQ) (fun r1 M1 N1 hr1 hq1 => ?_)
  obtain ⟨z1, rfl, rfl⟩ := hq1
  have z1 := bit_iff z1
  refine go_iload_n dX8_grid_6 rfl ?_
  refine go_i2l dX8_grid_7 ?_
  refine go_lconst (x := 0) dX8_grid_8 rfl ?_
  refine c8_230 dX8_grid_9 ?_
  refine v8_140 dX8_grid_12 rfl ⟨rfl, rfl⟩ ⟨rfl, rfl⟩ ct_X8_in (fun r2 M2 N2 hr2 hq2 => ?_)
  obtain ⟨z2, rfl, rfl⟩ := hq2
  have z2 := bit_iff z2
  refine v8_346 dX8_grid_15 rfl ⟨rfl, rfl⟩ ⟨rfl, rfl⟩ ct_X8_unless_ (fun r3 M3 N3 hr3 hq3 => ?_)
  obtain ⟨z3, rfl, rfl⟩ := hq3
  have z3 := u2_cs z3
  refine v8_269 dX8_grid_18 rfl ⟨rfl, rfl⟩ ⟨rfl, rfl⟩ ct_X8_isRefused (fun r4 M4 N4 hr4 hq4 => ?_)
  obtain ⟨z4, rfl, rfl⟩ := hq4
  have z4 := bit_iff z4
  refine go_if_eq (tgt := 26) dX8_grid_21 rfl (fun h21 => ?_) (fun h21 => ?_)
  · have hv : (0 ≤ v ∧ v < S 11 0 ∧ S 0 v ≠ -2) := by omega
    have hk : (0 ≤ k ∧ k ≤ 8) := by omega
    rw [show r3 = 0 by omega]
    have Q0 := rfM_Q (k := 0) hQ
    have g4 := (Q0.2.2.2.2 v hv.1 hv.2.1).2.1
    rw [Int.zero_add] at g4
    clear z1 z2 z3 z4
    refine go_aload_n dX8_grid_26 rfl rfl ?_
    refine g8_22 dX8_grid_27 ?_
    refine go_iload_n dX8_grid_30 rfl ?_
    refine go_iald dX8_grid_31 rfl (by omega) (by omega) ?_
    rw [g4]
    refine go_ist3 dX8_grid_32 rfl rfl ?_
    refine go_aload_n dX8_grid_33 rfl rfl ?_
    refine g8_22 dX8_grid_34 ?_
    refine go_iload_n dX8_grid_37 rfl ?_
    refine go_iload_n dX8_grid_38 rfl ?_
    refine go_iast dX8_grid_39 rfl (by omega) (by omega) ?_
    refine go_nmM (fun Ma eMa => ?_)
    have fa : Kr [] [8, 27] (rfM M 0) Ma := by rw [eMa]; exact Kr.wa Kr.rf (by decide)
    have Qa : QR (gdA S v k) Ma := by rw [eMa]; exact QR_grid Q0
    have ea : Ma (30, 0, 8) = upI (rfM M 0 (30, 0, 8)) v k := by rw [eMa]; exact upI_wr
    clear eMa
    have e11 : gdA S v k 11 0 = S 11 0 := by rw [gdA_raw (by decide) (by decide) (by decide) (by decide)]
    have wr0 := gdA_wr (v := v) hW hk.1 hk.2
    have hw6 : ∀ u, 0 ≤ u → u < S 11 0 → WFr (gdA S v k) u ∧ gdA S v k 6 u = wtS (gdA S v k) u := fun u u0 u1 => ⟨WFr_sA (wr0 u u0 u1) _, sA_wt wr0 _ (by omega) u u0 (by omega)⟩
    have ok6 : ∀ u, 0 ≤ u → u < S 11 0 → gdA S v k 6 u = wtT (pst S 4 v k) u := fun u u0 u1 => stA_lo6 _ u u0 (by omega)
    have e11p : pst S 4 v k 11 0 = S 11 0 := by rw [pst_ne (by decide)]
    refine go_aload_n dX8_grid_40 rfl rfl ?_
    refine go_iconst dX8_grid_41 (R32_lit rfl) ?_
    refine go_aload_n dX8_grid_42 rfl rfl ?_
    refine g8_259 dX8_grid_43 ?_
    rw [Qa.1]
    refine v8_232 dX8_grid_46 rfl ⟨rfl, rfl⟩ ⟨rfl, rfl⟩ (ct_X8_laysWeights (S := gdA S v k) Qa.2.2.2.2 Qa.2.1 Qa.2.2.1 (by decide) (by decide) (fun u u0 u1 => hw6 u u0 (by omega))) (fun r5 M5 N5 hr5 hq5 => ?_)
    obtain ⟨y5, f5, rfl⟩ := hq5
    rw [e11] at y5
    have f6 : Kr [] [8, 27] (rfM M 0) M5 := fa.tr (f5.up (by decide) (by decide))
    refine go_if_ne (tgt := 65) dX8_grid_49 rfl (fun h49 => ?_) (fun h49 => ?_)
    · refine go_iload_n dX8_grid_65 rfl ?_
      refine go_reti dX8_grid_66 ?_
      refine ⟨Or.inl ⟨⟨hv, hk⟩, ?_, rfl, Qa.k f5 (by decide) (by decide) (by decide) (by decide) (by decide) (by decide) (by decide) (by decide), f6⟩, rfl⟩
      rcases y5 with ⟨q, -, -⟩ | ⟨-, q⟩
      · intro u u0 u1
        rw [e11p] at u1
        rw [← ok6 u u0 u1]; exact q u u0 u1
      · omega
    · refine go_aload_n dX8_grid_52 rfl rfl ?_
      refine g8_22 dX8_grid_53 ?_
      refine go_iload_n dX8_grid_56 rfl ?_
      refine go_iload_n dX8_grid_57 rfl ?_
      refine go_iast dX8_grid_58 rfl (by omega) (by omega) ?_
      refine go_aload_n dX8_grid_59 rfl rfl ?_
      refine go_iconst dX8_grid_60 (R32_lit rfl) ?_
      refine v8_278 dX8_grid_61 rfl ⟨rfl, rfl⟩ ⟨rfl, rfl⟩ ct_X8_no (fun r6 M6 N6 hr6 hq6 => ?_)
      obtain ⟨rfl, rfl, rfl⟩ := hq6
      refine go_reti dX8_grid_64 ?_
      refine ⟨Or.inr (Or.inl ⟨⟨hv, hk⟩, ?_, rfl, ?_⟩), rfl⟩
      · rcases y5 with ⟨-, q, -⟩ | ⟨⟨u, u0, u1, u2⟩, -⟩
        · omega
        · intro w
          have := w u u0 (by omega)
          rw [← ok6 u u0 u1] at this
          omega
      · rw [← g4]
        exact F8.no (F8.of (Kr_bk f6 ((f5.a 8 (by decide)).trans ea)) (by decide) (by decide))
  · refine go_iconst dX8_grid_24 (R32_lit rfl) ?_
    refine go_reti dX8_grid_25 ?_
    rcases z3 with ⟨y, e⟩ | ⟨y, g, e⟩ | ⟨y, g, e⟩
    · rw [e]; exact ⟨Or.inr (Or.inr (Or.inr ⟨by omega, rfl, F8.rf⟩)), rfl⟩
    · rw [e]; exact ⟨Or.inr (Or.inr (Or.inl ⟨by omega, rfl, F8.rf⟩)), rfl⟩
    · omega
