/-! splits, grids made finer, points set: class beside reference -/
theorem PcB_ex {S : Pg} {a : Int} : ∃ c0, PcB S a c0 := ⟨_, (fun i => S 2 (S 10 i)), (fun i => S 3 (S 10 i)), (fun _ => 0), fun i _ _ => ⟨rfl, rfl⟩, rfl⟩
theorem cs_split {E : Ev} {M : Mm} {N : Nn} {v k w : Int} (hI : Iv M N) : ∃ P7 : Int → Mm → Nn → Prop, Ct E yX7_split cX7_split 6 ((some .long)) (rmH 9) [vr (3, 0, 0), vi v, vi k, vi w] M N (ql P7) ∧ ∀ r1 M1 N1, P7 r1 M1 N1 → ∃ P8 : Int → Mm → Nn → Prop, Ct E yX8_split cX8_split 5 ((some .long)) (rmH 10) [vr (29, 0, 0), vi v, vi k, vi w] M1 N1 (ql P8) ∧ ∀ r2 M2 N2, P8 r2 M2 N2 → r1 = r2 ∧ Iv M2 N2 := by
  obtain ⟨p, q, hI⟩ := hI
  have hC := hI.1.1
  have hW := hI.2.1
  have hQ := hI.2.2.2.2.1
  have hA := hI.2.2.2.2.2.1
  have hc := hW.2.1
  refine ⟨_, ct_X7_split hC hc hI.1.2.2.2.1 hI.2.2.2.1 hW.sp, fun r1 M1 N1 h1 => ?_⟩
  rcases h1 with ⟨a1, ⟨c0, a2, a4⟩, a3, a5, a6⟩ | ⟨a1, a2, a3, rfl⟩ | ⟨a1, a2, a3, rfl⟩
  · have k1 : Qk p 0 M M1 := Qk_Kf hI.1.2.2.2.1 a3 a5
    have hn : N1 (3, 0, 0) = N (3, 0, 0) := a6 _ (nm_ne1 (by decide))
    refine ⟨_, ct_X8_split (QR_m hQ k1.m) hW hW.wa (fun v0 v1 => hW.bd hW.wa v0 v1) a2, fun r2 M2 N2 h2 => ?_⟩
    obtain ⟨h2, rfl⟩ := h2
    rcases h2 with ⟨b1, b2, b3⟩ | ⟨b1, b2, b3⟩ | ⟨b1, b2, b3⟩
    · exact ⟨a4.trans b2.symm, p, q, Iv_q hI k1 (by decide) b3 hn⟩
    · exact absurd a1 (by clear a3 b2 b3 k1 hn; omega)
    · exact absurd a1 (by clear a3 b2 b3 k1 hn; omega)
  · have k1 : Qk p 2 M M1 := by rw [a3]; exact Qk_tr
    have hn : N (3, 0, 0) = N (3, 0, 0) := rfl
    obtain ⟨c0, hc0⟩ := PcB_ex (S := pgC M p) (a := v)
    refine ⟨_, ct_X8_split (QR_m hQ k1.m) hW hW.wa (fun v0 v1 => hW.bd hW.wa v0 v1) hc0, fun r2 M2 N2 h2 => ?_⟩
    obtain ⟨h2, rfl⟩ := h2
    rcases h2 with ⟨b1, b2, b3⟩ | ⟨b1, b2, b3⟩ | ⟨b1, b2, b3⟩
    · exact absurd a1 (by clear a3 b2 b3 k1 hn; omega)
    · exact ⟨a2.trans b2.symm, p, q, Iv_q hI k1 (by decide) b3 hn⟩
    · exact absurd a1 (by clear a3 b2 b3 k1 hn; omega)
  · have k1 : Qk p 1 M M1 := by rw [a3]; exact Qk_tr
    have hn : N (3, 0, 0) = N (3, 0, 0) := rfl
    obtain ⟨c0, hc0⟩ := PcB_ex (S := pgC M p) (a := v)
    refine ⟨_, ct_X8_split (QR_m hQ k1.m) hW hW.wa (fun v0 v1 => hW.bd hW.wa v0 v1) hc0, fun r2 M2 N2 h2 => ?_⟩
    obtain ⟨h2, rfl⟩ := h2
    rcases h2 with ⟨b1, b2, b3⟩ | ⟨b1, b2, b3⟩ | ⟨b1, b2, b3⟩
    · exact absurd a1 (by clear a3 b2 b3 k1 hn; omega)
    · exact absurd a1 (by clear a3 b2 b3 k1 hn; omega)
    · exact ⟨a2.trans b2.symm, p, q, Iv_q hI k1 (by decide) b3 hn⟩
theorem cs_splits {E : Ev} {M : Mm} {N : Nn} {v k : Int} (hI : Iv M N) : ∃ P7 : Int → Mm → Nn → Prop, Ct E yX7_splits cX7_splits 4 ((some .int)) (rmH 9) [vr (3, 0, 0), vi v, vi k] M N (qi P7) ∧ ∀ r1 M1 N1, P7 r1 M1 N1 → ∃ P8 : Int → Mm → Nn → Prop, Ct E yX8_splits cX8_splits 4 ((some .int)) (rmH 10) [vr (29, 0, 0), vi v, vi k] M1 N1 (qi P8) ∧ ∀ r2 M2 N2, P8 r2 M2 N2 → r1 = r2 ∧ Iv M2 N2 := by
  obtain ⟨p, q, hI⟩ := hI
  have hC := hI.1.1
  have hW := hI.2.1
  have hQ := hI.2.2.2.2.1
  have hA := hI.2.2.2.2.2.1
  have hc := hW.2.1
  refine ⟨_, ct_X7_splits hC hc hI.1.2.2.2.1 hI.2.2.2.1 hW.sp, fun r1 M1 N1 h1 => ?_⟩
  rcases h1 with ⟨a1, ⟨c0, a2, a4⟩, a3, a5, a6⟩ | ⟨a1, a2, a3, rfl⟩ | ⟨a1, a2, a3, rfl⟩
  · have k1 : Qk p 0 M M1 := Qk_Kf hI.1.2.2.2.1 a3 a5
    have hn : N1 (3, 0, 0) = N (3, 0, 0) := a6 _ (nm_ne1 (by decide))
    refine ⟨_, ct_X8_splits (QR_m hQ k1.m) hW hW.wa (fun v0 v1 => hW.bd hW.wa v0 v1) a2, fun r2 M2 N2 h2 => ?_⟩
    obtain ⟨h2, rfl⟩ := h2
    rcases h2 with ⟨b1, b2, b3⟩ | ⟨b1, b2, b3⟩ | ⟨b1, b2, b3⟩
    · exact ⟨a4.trans b2.symm, p, q, Iv_q hI k1 (by decide) b3 hn⟩
    · exact absurd a1 (by clear a3 b2 b3 k1 hn; omega)
    · exact absurd a1 (by clear a3 b2 b3 k1 hn; omega)
  · have k1 : Qk p 2 M M1 := by rw [a3]; exact Qk_tr
    have hn : N (3, 0, 0) = N (3, 0, 0) := rfl
    obtain ⟨c0, hc0⟩ := PcB_ex (S := pgC M p) (a := v)
    refine ⟨_, ct_X8_splits (QR_m hQ k1.m) hW hW.wa (fun v0 v1 => hW.bd hW.wa v0 v1) hc0, fun r2 M2 N2 h2 => ?_⟩
    obtain ⟨h2, rfl⟩ := h2
    rcases h2 with ⟨b1, b2, b3⟩ | ⟨b1, b2, b3⟩ | ⟨b1, b2, b3⟩
    · exact absurd a1 (by clear a3 b2 b3 k1 hn; omega)
    · exact ⟨a2.trans b2.symm, p, q, Iv_q hI k1 (by decide) b3 hn⟩
    · exact absurd a1 (by clear a3 b2 b3 k1 hn; omega)
  · have k1 : Qk p 1 M M1 := by rw [a3]; exact Qk_tr
    have hn : N (3, 0, 0) = N (3, 0, 0) := rfl
    obtain ⟨c0, hc0⟩ := PcB_ex (S := pgC M p) (a := v)
    refine ⟨_, ct_X8_splits (QR_m hQ k1.m) hW hW.wa (fun v0 v1 => hW.bd hW.wa v0 v1) hc0, fun r2 M2 N2 h2 => ?_⟩
    obtain ⟨h2, rfl⟩ := h2
    rcases h2 with ⟨b1, b2, b3⟩ | ⟨b1, b2, b3⟩ | ⟨b1, b2, b3⟩
    · exact absurd a1 (by clear a3 b2 b3 k1 hn; omega)
    · exact absurd a1 (by clear a3 b2 b3 k1 hn; omega)
    · exact ⟨a2.trans b2.symm, p, q, Iv_q hI k1 (by decide) b3 hn⟩
theorem cs_finer {E : Ev} {M : Mm} {N : Nn} {v k : Int} (hI : Iv M N) : ∃ P7 : Int → Mm → Nn → Prop, Ct E yX7_finer cX7_finer 6 ((some .int)) (rmH 7) [vr (3, 0, 0), vi v, vi k] M N (qi P7) ∧ ∀ r1 M1 N1, P7 r1 M1 N1 → ∃ P8 : Int → Mm → Nn → Prop, Ct E yX8_finer cX8_finer 5 ((some .int)) (rmH 10) [vr (29, 0, 0), vi v, vi k] M1 N1 (qi P8) ∧ ∀ r2 M2 N2, P8 r2 M2 N2 → r1 = r2 ∧ Iv M2 N2 := by
  obtain ⟨p, q, hI⟩ := hI
  have hC := hI.1.1
  have hW := hI.2.1
  have hQ := hI.2.2.2.2.1
  have hA := hI.2.2.2.2.2.1
  have hc := hW.2.1
  refine ⟨_, ct_X7_finer (Inv := fnI (pgC M p 11 0)) hC hc hI.1.2.1 hI.1.2.2.1 hI.2.2.2.1 (fun _ _ => ⟨hW, rfl⟩) (fun v0 v1 => fn_H v0 v1), fun r1 M1 N1 h1 => ?_⟩
  rcases h1 with ⟨a1, a2, a3, a5, a6⟩ | ⟨a1, a2, a3, rfl⟩ | ⟨a1, a2, a3, rfl⟩
  · have k1 : Qk p 0 M M1 := Qk_Qf hI.1.2.2.1 a3 a5
    have hn : N1 (3, 0, 0) = N (3, 0, 0) := a6 _ (nm_ne1 (by decide))
    refine ⟨_, ct_X8_finer (Inv := fnI (pgC M p 11 0)) (W := wB (-1)) (QR_m hQ k1.m) (fun _ _ => ⟨hW, rfl⟩) (fun v0 v1 => fn_R v0 v1 hW.wa), fun r2 M2 N2 h2 => ?_⟩
    obtain ⟨h2, rfl⟩ := h2
    rcases h2 with ⟨b1, b2, b3⟩ | ⟨b1, b2, b3⟩ | ⟨b1, b2, b3⟩
    · exact ⟨a2.trans b2.symm, p, q, Iv_q hI k1 (by decide) b3 hn⟩
    · exact absurd a1 (by clear a3 b2 b3 k1 hn; omega)
    · exact absurd a1 (by clear a3 b2 b3 k1 hn; omega)
  · have k1 : Qk p 2 M M1 := by rw [a3]; exact Qk_tr
    have hn : N (3, 0, 0) = N (3, 0, 0) := rfl
    refine ⟨_, ct_X8_finer (Inv := fnI (pgC M p 11 0)) (W := wB (-1)) (QR_m hQ k1.m) (fun _ _ => ⟨hW, rfl⟩) (fun v0 v1 => fn_R v0 v1 hW.wa), fun r2 M2 N2 h2 => ?_⟩
    obtain ⟨h2, rfl⟩ := h2
    rcases h2 with ⟨b1, b2, b3⟩ | ⟨b1, b2, b3⟩ | ⟨b1, b2, b3⟩
    · exact absurd a1 (by clear a3 b2 b3 k1 hn; omega)
    · exact ⟨a2.trans b2.symm, p, q, Iv_q hI k1 (by decide) b3 hn⟩
    · exact absurd a1 (by clear a3 b2 b3 k1 hn; omega)
  · have k1 : Qk p 1 M M1 := by rw [a3]; exact Qk_tr
    have hn : N (3, 0, 0) = N (3, 0, 0) := rfl
    refine ⟨_, ct_X8_finer (Inv := fnI (pgC M p 11 0)) (W := wB (-1)) (QR_m hQ k1.m) (fun _ _ => ⟨hW, rfl⟩) (fun v0 v1 => fn_R v0 v1 hW.wa), fun r2 M2 N2 h2 => ?_⟩
    obtain ⟨h2, rfl⟩ := h2
    rcases h2 with ⟨b1, b2, b3⟩ | ⟨b1, b2, b3⟩ | ⟨b1, b2, b3⟩
    · exact absurd a1 (by clear a3 b2 b3 k1 hn; omega)
    · exact absurd a1 (by clear a3 b2 b3 k1 hn; omega)
    · exact ⟨a2.trans b2.symm, p, q, Iv_q hI k1 (by decide) b3 hn⟩
theorem cs_set {E : Ev} {M : Mm} {N : Nn} {v k : Int} (hI : Iv M N) : ∃ P7 : Int → Mm → Nn → Prop, Ct E yX7_set cX7_set 3 ((some .boolean)) (rmH 3) [vr (3, 0, 0), vi v, vi k] M N (qi P7) ∧ ∀ r1 M1 N1, P7 r1 M1 N1 → ∃ P8 : Int → Mm → Nn → Prop, Ct E yX8_set cX8_set 3 ((some .boolean)) (rmH 4) [vr (29, 0, 0), vi v, vi k] M1 N1 (qi P8) ∧ ∀ r2 M2 N2, P8 r2 M2 N2 → r1 = r2 ∧ Iv M2 N2 := by
  obtain ⟨p, q, hI⟩ := hI
  have hC := hI.1.1
  have hW := hI.2.1
  have hQ := hI.2.2.2.2.1
  have hA := hI.2.2.2.2.2.1
  have hc := hW.2.1
  refine ⟨_, ct_X7_set hC hc, fun r1 M1 N1 h1 => ?_⟩
  obtain ⟨h1, rfl⟩ := h1
  rcases h1 with ⟨a1, a2, a3⟩ | ⟨a1, a2, a3⟩ | ⟨a1, a2, a3⟩
  · have k1 : Qg p 0 M M1 := by
      rw [a3]
      exact Qg_of (fun n _ hn => wr_nf hn) (fun hF => (hasF_tr (k := 0) hF).fr (fun a b a0 a1 => wr_nf (nm_ne1 (by omega))))
    refine ⟨_, ct_X8_set (QR_m hQ k1.2.2.2.1), fun r2 M2 N2 h2 => ?_⟩
    obtain ⟨h2, rfl⟩ := h2
    rcases h2 with ⟨b1, b2, b3⟩ | ⟨b1, b2, b3⟩ | ⟨b1, b2, b3⟩
    · refine ⟨a2.trans b2.symm, p, q, Iv_g hI k1 (by decide) (by rw [b3]; exact Kr.wa Kr.rf (by decide)) ?_ rfl⟩
      have e5 : M1 (5, 0, 0) = upI (M (5, 0, 0)) v k := by rw [a3, upI_wr]; unfold tr; rw [wr_nf (nm_ne1 (by decide))]
      have e13 : M2 (30, 0, 13) = upI (M (30, 0, 13)) v k := by rw [b3, upI_wr, rfM_K.a 13 List.not_mem_nil, k1.2.2.2.1 _ (by decide)]
      rw [e5, e13]
      exact hA.up
    · exact absurd a1 (by clear a2 a3 b2 b3 k1; omega)
    · exact absurd a1 (by clear a2 a3 b2 b3 k1; omega)
  · have k1 : Qk p 2 M M1 := by rw [a3]; exact Qk_tr
    refine ⟨_, ct_X8_set (QR_m hQ k1.m), fun r2 M2 N2 h2 => ?_⟩
    obtain ⟨h2, rfl⟩ := h2
    rcases h2 with ⟨b1, b2, b3⟩ | ⟨b1, b2, b3⟩ | ⟨b1, b2, b3⟩
    · exact absurd a1 (by clear a2 a3 b2 b3 k1; omega)
    · exact ⟨a2.trans b2.symm, p, q, Iv_q hI k1 (by decide) (by rw [b3]; exact F8_rf) rfl⟩
    · exact absurd a1 (by clear a2 a3 b2 b3 k1; omega)
  · have k1 : Qk p 1 M M1 := by rw [a3]; exact Qk_tr
    refine ⟨_, ct_X8_set (QR_m hQ k1.m), fun r2 M2 N2 h2 => ?_⟩
    obtain ⟨h2, rfl⟩ := h2
    rcases h2 with ⟨b1, b2, b3⟩ | ⟨b1, b2, b3⟩ | ⟨b1, b2, b3⟩
    · exact absurd a1 (by clear a2 a3 b2 b3 k1; omega)
    · exact absurd a1 (by clear a2 a3 b2 b3 k1; omega)
    · exact ⟨a2.trans b2.symm, p, q, Iv_q hI k1 (by decide) (by rw [b3]; exact F8_rf) rfl⟩
