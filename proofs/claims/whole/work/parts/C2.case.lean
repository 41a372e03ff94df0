/-! the questions: what the class answers is what the reference answers -/
theorem bd_full {S : Pg} (hW : WF S) {v : Int} (v0 : 0 ≤ v) (v1 : v < S 11 0) {W : Int → Bool} : bdR ((sK S W (S 11 0).toNat).1 (15 + v.toNat)) = w64 (absw ((sK S W (S 11 0).toNat).1 (15 + v.toNat)).1 + fra ((sK S W (S 11 0).toNat).1 (15 + v.toNat))) := by
  have hw := WF_WtO hW
  have hb := Fb_k (W := W) hw hW.rc.2.2.1 (S 11 0).toNat (by have := hW.1; omega) v v0 v1
  have w := hw.2.1 v v0 v1
  have wl := sq_le w.1 w.2.1
  have nn := nrm_nn ((sK S W (S 11 0).toNat).1 v.toNat)
  exact (bd_eq (a := (sK S W (S 11 0).toNat).1 (15 + v.toNat)) (by omega)).1
theorem cs_about {E : Ev} {M : Mm} {N : Nn} {w : Int} (hI : Iv M N) : ∃ P7 : Int → Mm → Nn → Prop, Ct E yX7_about cX7_about 2 ((some .int)) (rmH 3) [vr (3, 0, 0), vi w] M N (qi P7) ∧ ∀ r1 M1 N1, P7 r1 M1 N1 → ∃ P8 : Int → Mm → Nn → Prop, Ct E yX8_about cX8_about 2 ((some .int)) (rmH 9) [vr (29, 0, 0), vi w] M1 N1 (qi P8) ∧ ∀ r2 M2 N2, P8 r2 M2 N2 → r1 = r2 ∧ Iv M2 N2 := by
  obtain ⟨p, q, hI⟩ := hI
  have hC := hI.1.1
  have hW := hI.2.1
  have hQ := hI.2.2.2.2.1
  have hA := hI.2.2.2.2.2.1
  have hc := hW.2.1
  obtain ⟨φ, ma, fs, rk⟩ := hI.2.2.1
  refine ⟨_, ct_X7_about hC hc fs hW.iw hW.1 ⟨hW.2.2.1, hW.2.2.2.1⟩, fun r1 M1 N1 h1 => ?_⟩
  obtain ⟨h1, rfl⟩ := h1
  rcases h1 with ⟨a1, a2, a3⟩ | ⟨a1, a2, a3⟩
  · have k1 : Qk p 0 M M1 := by rw [a3]; exact Qk_tr
    refine ⟨_, ct_X8_about (QR_m hQ k1.m) (Or.inl hW) hW.wa hW.ne, fun r2 M2 N2 h2 => ?_⟩
    obtain ⟨h2, rfl⟩ := h2
    rcases h2 with ⟨b1, b2, b3⟩ | ⟨b1, b2, b3⟩
    · refine ⟨?_, p, q, Iv_q hI k1 (by decide) b3 rfl⟩
      exact a2.trans b2.symm
    · exact absurd a1 (by clear a2 a3 b2 b3 k1; omega)
  · have k1 : Qk p 1 M M1 := by rw [a3]; exact Qk_tr
    refine ⟨_, ct_X8_about (QR_m hQ k1.m) (Or.inl hW) hW.wa hW.ne, fun r2 M2 N2 h2 => ?_⟩
    obtain ⟨h2, rfl⟩ := h2
    rcases h2 with ⟨b1, b2, b3⟩ | ⟨b1, b2, b3⟩
    · exact absurd a1 (by clear a2 a3 b2 b3 k1; omega)
    · refine ⟨?_, p, q, Iv_q hI k1 (by decide) b3 rfl⟩
      exact a2.trans b2.symm
theorem cs_variable {E : Ev} {M : Mm} {N : Nn} {v w : Int} (hI : Iv M N) : ∃ P7 : Int → Mm → Nn → Prop, Ct E yX7_variable cX7_variable 4 ((some .long)) (rmH 3) [vr (3, 0, 0), vi v, vi w] M N (ql P7) ∧ ∀ r1 M1 N1, P7 r1 M1 N1 → ∃ P8 : Int → Mm → Nn → Prop, Ct E yX8_variable cX8_variable 3 ((some .long)) (rmH 5) [vr (29, 0, 0), vi v, vi w] M1 N1 (ql P8) ∧ ∀ r2 M2 N2, P8 r2 M2 N2 → r1 = r2 ∧ Iv M2 N2 := by
  obtain ⟨p, q, hI⟩ := hI
  have hC := hI.1.1
  have hW := hI.2.1
  have hQ := hI.2.2.2.2.1
  have hA := hI.2.2.2.2.2.1
  have hc := hW.2.1
  refine ⟨_, ct_X7_variable hC hc, fun r1 M1 N1 h1 => ?_⟩
  obtain ⟨h1, rfl⟩ := h1
  rcases h1 with ⟨a1, a2, a3⟩ | ⟨a1, a2, a3⟩
  · have k1 : Qk p 0 M M1 := by rw [a3]; exact Qk_tr
    refine ⟨_, ct_X8_variable (QR_m hQ k1.m) hW, fun r2 M2 N2 h2 => ?_⟩
    obtain ⟨h2, rfl⟩ := h2
    rcases h2 with ⟨b1, b2, b3⟩ | ⟨b1, b2, b3⟩
    · refine ⟨?_, p, q, Iv_q hI k1 (by decide) b3 rfl⟩
      exact a2.trans b2.symm
    · exact absurd a1 (by clear a2 a3 b2 b3 k1; omega)
  · have k1 : Qk p 1 M M1 := by rw [a3]; exact Qk_tr
    refine ⟨_, ct_X8_variable (QR_m hQ k1.m) hW, fun r2 M2 N2 h2 => ?_⟩
    obtain ⟨h2, rfl⟩ := h2
    rcases h2 with ⟨b1, b2, b3⟩ | ⟨b1, b2, b3⟩
    · exact absurd a1 (by clear a2 a3 b2 b3 k1; omega)
    · refine ⟨?_, p, q, Iv_q hI k1 (by decide) (by rw [b3]; exact F8_rf) rfl⟩
      exact a2.trans b2.symm
theorem cs_operand {E : Ev} {M : Mm} {N : Nn} {v k : Int} (hI : Iv M N) : ∃ P7 : Int → Mm → Nn → Prop, Ct E yX7_operand cX7_operand 3 ((some .int)) (rmH 3) [vr (3, 0, 0), vi v, vi k] M N (qi P7) ∧ ∀ r1 M1 N1, P7 r1 M1 N1 → ∃ P8 : Int → Mm → Nn → Prop, Ct E yX8_operand cX8_operand 3 ((some .int)) (rmH 4) [vr (29, 0, 0), vi v, vi k] M1 N1 (qi P8) ∧ ∀ r2 M2 N2, P8 r2 M2 N2 → r1 = r2 ∧ Iv M2 N2 := by
  obtain ⟨p, q, hI⟩ := hI
  have hC := hI.1.1
  have hW := hI.2.1
  have hQ := hI.2.2.2.2.1
  have hA := hI.2.2.2.2.2.1
  have hc := hW.2.1
  refine ⟨_, ct_X7_operand hC hc, fun r1 M1 N1 h1 => ?_⟩
  obtain ⟨h1, rfl⟩ := h1
  rcases h1 with ⟨a1, a2, a3⟩ | ⟨a1, a2, a3⟩
  · have k1 : Qk p 0 M M1 := by rw [a3]; exact Qk_tr
    refine ⟨_, ct_X8_operand (QR_m hQ k1.m) , fun r2 M2 N2 h2 => ?_⟩
    obtain ⟨h2, rfl⟩ := h2
    rcases h2 with ⟨b1, b2, b3⟩ | ⟨b1, b2, b3⟩
    · refine ⟨?_, p, q, Iv_q hI k1 (by decide) (by rw [b3]; exact F8_rf) rfl⟩
      exact a2.trans b2.symm
    · exact absurd a1 (by clear a2 a3 b2 b3 k1; omega)
  · have k1 : Qk p 1 M M1 := by rw [a3]; exact Qk_tr
    refine ⟨_, ct_X8_operand (QR_m hQ k1.m) , fun r2 M2 N2 h2 => ?_⟩
    obtain ⟨h2, rfl⟩ := h2
    rcases h2 with ⟨b1, b2, b3⟩ | ⟨b1, b2, b3⟩
    · exact absurd a1 (by clear a2 a3 b2 b3 k1; omega)
    · refine ⟨?_, p, q, Iv_q hI k1 (by decide) (by rw [b3]; exact F8_rf) rfl⟩
      exact a2.trans b2.symm
theorem cs_at {E : Ev} {M : Mm} {N : Nn} {v w : Int} (hI : Iv M N) : ∃ P7 : Int → Mm → Nn → Prop, Ct E yX7_at cX7_at 4 ((some .long)) (rmH 4) [vr (3, 0, 0), vi v, vi w] M N (ql P7) ∧ ∀ r1 M1 N1, P7 r1 M1 N1 → ∃ P8 : Int → Mm → Nn → Prop, Ct E yX8_at cX8_at 3 ((some .long)) (rmH 5) [vr (29, 0, 0), vi v, vi w] M1 N1 (ql P8) ∧ ∀ r2 M2 N2, P8 r2 M2 N2 → r1 = r2 ∧ Iv M2 N2 := by
  obtain ⟨p, q, hI⟩ := hI
  have hC := hI.1.1
  have hW := hI.2.1
  have hQ := hI.2.2.2.2.1
  have hA := hI.2.2.2.2.2.1
  have hc := hW.2.1
  refine ⟨_, ct_X7_at hC hc (fun _ v0 v1 => hW.sk v0 v1), fun r1 M1 N1 h1 => ?_⟩
  obtain ⟨h1, rfl⟩ := h1
  rcases h1 with ⟨a1, a2, a3⟩ | ⟨a1, a2, a3⟩
  · have k1 : Qk p 0 M M1 := Qk_Sf a3
    refine ⟨_, ct_X8_at (QR_m hQ k1.m) (fun v v0 v1 => (hW.2.2.2.2.2.2.1 v v0 v1).1), fun r2 M2 N2 h2 => ?_⟩
    obtain ⟨h2, rfl⟩ := h2
    rcases h2 with ⟨b1, b2, b3⟩ | ⟨b1, b2, b3⟩
    · refine ⟨?_, p, q, Iv_q hI k1 (by decide) b3 rfl⟩
      obtain ⟨e1, e2⟩ := tb_cg (S := pgC M p) (a := M (5, 0, 0)) (b := M (30, 0, 13)) (v + 1).toNat (fun u u0 u1 z => hA u u0 (by omega) z)
      rw [a2, b2, k1.m (30, 0, 13) (by decide), e1, e2]
    · exact absurd a1 (by clear a2 a3 b2 b3 k1; omega)
  · have k1 : Qk p 1 M M1 := by rw [a3]; exact Qk_tr
    refine ⟨_, ct_X8_at (QR_m hQ k1.m) (fun v v0 v1 => (hW.2.2.2.2.2.2.1 v v0 v1).1), fun r2 M2 N2 h2 => ?_⟩
    obtain ⟨h2, rfl⟩ := h2
    rcases h2 with ⟨b1, b2, b3⟩ | ⟨b1, b2, b3⟩
    · exact absurd a1 (by clear a2 a3 b2 b3 k1; omega)
    · refine ⟨?_, p, q, Iv_q hI k1 (by decide) (by rw [b3]; exact F8_rf) rfl⟩
      exact a2.trans b2.symm
theorem cs_went {E : Ev} {M : Mm} {N : Nn} {v : Int} (hI : Iv M N) : ∃ P7 : Int → Mm → Nn → Prop, Ct E yX7_went cX7_went 2 ((some .int)) (rmH 5) [vr (3, 0, 0), vi v] M N (qi P7) ∧ ∀ r1 M1 N1, P7 r1 M1 N1 → ∃ P8 : Int → Mm → Nn → Prop, Ct E yX8_went cX8_went 2 ((some .int)) (rmH 5) [vr (29, 0, 0), vi v] M1 N1 (qi P8) ∧ ∀ r2 M2 N2, P8 r2 M2 N2 → r1 = r2 ∧ Iv M2 N2 := by
  obtain ⟨p, q, hI⟩ := hI
  have hC := hI.1.1
  have hW := hI.2.1
  have hQ := hI.2.2.2.2.1
  have hA := hI.2.2.2.2.2.1
  have hc := hW.2.1
  refine ⟨_, ct_X7_went hC hc (fun _ v0 v1 => hW.sk v0 v1), fun r1 M1 N1 h1 => ?_⟩
  obtain ⟨h1, rfl⟩ := h1
  rcases h1 with ⟨a1, a2, a3⟩ | ⟨a1, a2, a3⟩ | ⟨a1, a2, a3⟩
  · have k1 : Qk p 0 M M1 := Qk_Sf a3
    refine ⟨_, ct_X8_went (QR_m hQ k1.m) (fun v v0 v1 => (hW.2.2.2.2.2.2.1 v v0 v1).1), fun r2 M2 N2 h2 => ?_⟩
    obtain ⟨h2, rfl⟩ := h2
    rcases h2 with ⟨b1, b2, b3⟩ | ⟨b1, b2, b3⟩ | ⟨b1, b2, b3⟩
    · refine ⟨?_, p, q, Iv_q hI k1 (by decide) b3 rfl⟩
      rw [a2, b2, k1.m (30, 0, 13) (by decide)]
      exact wyP_cg (fun u u0 u1 z => hA u u0 (by omega) z)
    · exact absurd a1 (by clear a2 a3 b2 b3 k1; omega)
    · exact absurd a1 (by clear a2 a3 b2 b3 k1; omega)
  · have k1 : Qk p 5 M M1 := by rw [a3]; exact Qk_tr
    refine ⟨_, ct_X8_went (QR_m hQ k1.m) (fun v v0 v1 => (hW.2.2.2.2.2.2.1 v v0 v1).1), fun r2 M2 N2 h2 => ?_⟩
    obtain ⟨h2, rfl⟩ := h2
    rcases h2 with ⟨b1, b2, b3⟩ | ⟨b1, b2, b3⟩ | ⟨b1, b2, b3⟩
    · exact absurd a1 (by clear a2 a3 b2 b3 k1; omega)
    · refine ⟨?_, p, q, Iv_q hI k1 (by decide) (by rw [b3]; exact F8_rf) rfl⟩
      exact a2.trans b2.symm
    · exact absurd a1 (by clear a2 a3 b2 b3 k1; omega)
  · have k1 : Qk p 1 M M1 := by rw [a3]; exact Qk_tr
    refine ⟨_, ct_X8_went (QR_m hQ k1.m) (fun v v0 v1 => (hW.2.2.2.2.2.2.1 v v0 v1).1), fun r2 M2 N2 h2 => ?_⟩
    obtain ⟨h2, rfl⟩ := h2
    rcases h2 with ⟨b1, b2, b3⟩ | ⟨b1, b2, b3⟩ | ⟨b1, b2, b3⟩
    · exact absurd a1 (by clear a2 a3 b2 b3 k1; omega)
    · exact absurd a1 (by clear a2 a3 b2 b3 k1; omega)
    · refine ⟨?_, p, q, Iv_q hI k1 (by decide) (by rw [b3]; exact F8_rf) rfl⟩
      exact a2.trans b2.symm
theorem cs_form {E : Ev} {M : Mm} {N : Nn} {v d k : Int} (hI : Iv M N) : ∃ P7 : Int → Mm → Nn → Prop, Ct E yX7_form cX7_form 5 ((some .long)) (rmH 3) [vr (3, 0, 0), vi v, vi d, vi k] M N (ql P7) ∧ ∀ r1 M1 N1, P7 r1 M1 N1 → ∃ P8 : Int → Mm → Nn → Prop, Ct E yX8_form cX8_form 4 ((some .long)) (rmH 9) [vr (29, 0, 0), vi v, vi d, vi k] M1 N1 (ql P8) ∧ ∀ r2 M2 N2, P8 r2 M2 N2 → r1 = r2 ∧ Iv M2 N2 := by
  obtain ⟨p, q, hI⟩ := hI
  have hC := hI.1.1
  have hW := hI.2.1
  have hQ := hI.2.2.2.2.1
  have hA := hI.2.2.2.2.2.1
  have hc := hW.2.1
  obtain ⟨φ, ma, fs, rk⟩ := hI.2.2.1
  refine ⟨_, ct_X7_form hC hc fs, fun r1 M1 N1 h1 => ?_⟩
  obtain ⟨h1, rfl⟩ := h1
  rcases h1 with ⟨a1, a2, a3⟩ | ⟨a1, a2, a3⟩
  · have k1 : Qk p 0 M M1 := by rw [a3]; exact Qk_tr
    refine ⟨_, ct_X8_form (QR_m hQ k1.m) hW hW.wa hW.ne, fun r2 M2 N2 h2 => ?_⟩
    obtain ⟨h2, rfl⟩ := h2
    rcases h2 with ⟨b1, b2, b3⟩ | ⟨b1, b2, b3⟩
    · refine ⟨?_, p, q, Iv_q hI k1 (by decide) b3 rfl⟩
      obtain ⟨e1, e2, e3⟩ := Fm_ag (M := M) hW rk a1.1 a1.2.1
      rw [a2, b2]
      by_cases z : d = 0
      · rw [if_pos z, e1]
      · rw [if_neg z, e2]
    · exact absurd a1 (by clear a2 a3 b2 b3 k1; omega)
  · have k1 : Qk p 1 M M1 := by rw [a3]; exact Qk_tr
    refine ⟨_, ct_X8_form (QR_m hQ k1.m) hW hW.wa hW.ne, fun r2 M2 N2 h2 => ?_⟩
    obtain ⟨h2, rfl⟩ := h2
    rcases h2 with ⟨b1, b2, b3⟩ | ⟨b1, b2, b3⟩
    · exact absurd a1 (by clear a2 a3 b2 b3 k1; omega)
    · refine ⟨?_, p, q, Iv_q hI k1 (by decide) b3 rfl⟩
      exact a2.trans b2.symm
theorem cs_reach {E : Ev} {M : Mm} {N : Nn} {v d w : Int} (hI : Iv M N) : ∃ P7 : Int → Mm → Nn → Prop, Ct E yX7_reach cX7_reach 5 ((some .long)) (rmH 3) [vr (3, 0, 0), vi v, vi d, vi w] M N (ql P7) ∧ ∀ r1 M1 N1, P7 r1 M1 N1 → ∃ P8 : Int → Mm → Nn → Prop, Ct E yX8_reach cX8_reach 5 ((some .long)) (rmH 9) [vr (29, 0, 0), vi v, vi d, vi w] M1 N1 (ql P8) ∧ ∀ r2 M2 N2, P8 r2 M2 N2 → r1 = r2 ∧ Iv M2 N2 := by
  obtain ⟨p, q, hI⟩ := hI
  have hC := hI.1.1
  have hW := hI.2.1
  have hQ := hI.2.2.2.2.1
  have hA := hI.2.2.2.2.2.1
  have hc := hW.2.1
  obtain ⟨φ, ma, fs, rk⟩ := hI.2.2.1
  refine ⟨_, ct_X7_reach hC hc fs, fun r1 M1 N1 h1 => ?_⟩
  obtain ⟨h1, rfl⟩ := h1
  rcases h1 with ⟨a1, a2, a3⟩ | ⟨a1, a2, a3⟩
  · have k1 : Qk p 0 M M1 := by rw [a3]; exact Qk_tr
    refine ⟨_, ct_X8_reach (QR_m hQ k1.m) hW hW.wa hW.ne, fun r2 M2 N2 h2 => ?_⟩
    obtain ⟨h2, rfl⟩ := h2
    rcases h2 with ⟨b1, b2, b3⟩ | ⟨b1, b2, b3⟩
    · refine ⟨?_, p, q, Iv_q hI k1 (by decide) b3 rfl⟩
      obtain ⟨e1, e2, e3⟩ := Fm_ag (M := M) hW rk a1.1 a1.2.1
      rw [a2, b2]
      by_cases z : d = 0
      · rw [if_pos z, e1]
      · rw [if_neg z, e2]
    · exact absurd a1 (by clear a2 a3 b2 b3 k1; omega)
  · have k1 : Qk p 1 M M1 := by rw [a3]; exact Qk_tr
    refine ⟨_, ct_X8_reach (QR_m hQ k1.m) hW hW.wa hW.ne, fun r2 M2 N2 h2 => ?_⟩
    obtain ⟨h2, rfl⟩ := h2
    rcases h2 with ⟨b1, b2, b3⟩ | ⟨b1, b2, b3⟩
    · exact absurd a1 (by clear a2 a3 b2 b3 k1; omega)
    · refine ⟨?_, p, q, Iv_q hI k1 (by decide) b3 rfl⟩
      exact a2.trans b2.symm
theorem cs_bound {E : Ev} {M : Mm} {N : Nn} {v : Int} (hI : Iv M N) : ∃ P7 : Int → Mm → Nn → Prop, Ct E yX7_bound cX7_bound 2 ((some .long)) (rmH 3) [vr (3, 0, 0), vi v] M N (ql P7) ∧ ∀ r1 M1 N1, P7 r1 M1 N1 → ∃ P8 : Int → Mm → Nn → Prop, Ct E yX8_bound cX8_bound 2 ((some .long)) (rmH 9) [vr (29, 0, 0), vi v] M1 N1 (ql P8) ∧ ∀ r2 M2 N2, P8 r2 M2 N2 → r1 = r2 ∧ Iv M2 N2 := by
  obtain ⟨p, q, hI⟩ := hI
  have hC := hI.1.1
  have hW := hI.2.1
  have hQ := hI.2.2.2.2.1
  have hA := hI.2.2.2.2.2.1
  have hc := hW.2.1
  obtain ⟨φ, ma, fs, rk⟩ := hI.2.2.1
  refine ⟨_, ct_X7_bound hC hc fs, fun r1 M1 N1 h1 => ?_⟩
  obtain ⟨h1, rfl⟩ := h1
  rcases h1 with ⟨a1, a2, a3⟩ | ⟨a1, a2, a3⟩
  · have k1 : Qk p 0 M M1 := by rw [a3]; exact Qk_tr
    refine ⟨_, ct_X8_bound (QR_m hQ k1.m) hW hW.wa hW.ne, fun r2 M2 N2 h2 => ?_⟩
    obtain ⟨h2, rfl⟩ := h2
    rcases h2 with ⟨b1, b2, b3⟩ | ⟨b1, b2, b3⟩
    · refine ⟨?_, p, q, Iv_q hI k1 (by decide) b3 rfl⟩
      obtain ⟨e1, e2, e3⟩ := Fm_ag (M := M) hW rk a1.1 a1.2
      rw [a2, b2, e2]
      exact (bd_full hW a1.1 a1.2).symm
    · exact absurd a1 (by clear a2 a3 b2 b3 k1; omega)
  · have k1 : Qk p 1 M M1 := by rw [a3]; exact Qk_tr
    refine ⟨_, ct_X8_bound (QR_m hQ k1.m) hW hW.wa hW.ne, fun r2 M2 N2 h2 => ?_⟩
    obtain ⟨h2, rfl⟩ := h2
    rcases h2 with ⟨b1, b2, b3⟩ | ⟨b1, b2, b3⟩
    · exact absurd a1 (by clear a2 a3 b2 b3 k1; omega)
    · refine ⟨?_, p, q, Iv_q hI k1 (by decide) b3 rfl⟩
      exact a2.trans b2.symm
theorem cs_noise {E : Ev} {M : Mm} {N : Nn} {k w : Int} (hI : Iv M N) : ∃ P7 : Int → Mm → Nn → Prop, Ct E yX7_noise cX7_noise 3 ((some .int)) (rmH 3) [vr (3, 0, 0), vi k, vi w] M N (qi P7) ∧ ∀ r1 M1 N1, P7 r1 M1 N1 → ∃ P8 : Int → Mm → Nn → Prop, Ct E yX8_noise cX8_noise 3 ((some .int)) (rmH 9) [vr (29, 0, 0), vi k, vi w] M1 N1 (qi P8) ∧ ∀ r2 M2 N2, P8 r2 M2 N2 → r1 = r2 ∧ Iv M2 N2 := by
  obtain ⟨p, q, hI⟩ := hI
  have hC := hI.1.1
  have hW := hI.2.1
  have hQ := hI.2.2.2.2.1
  have hA := hI.2.2.2.2.2.1
  have hc := hW.2.1
  obtain ⟨φ, ma, fs, rk⟩ := hI.2.2.1
  refine ⟨_, ct_X7_noise hC hc fs, fun r1 M1 N1 h1 => ?_⟩
  obtain ⟨h1, rfl⟩ := h1
  rcases h1 with ⟨a1, a2, a3⟩ | ⟨a1, a2, a3⟩
  · have k1 : Qk p 0 M M1 := by rw [a3]; exact Qk_tr
    refine ⟨_, ct_X8_noise (QR_m hQ k1.m) hW hW.wa hW.ne, fun r2 M2 N2 h2 => ?_⟩
    obtain ⟨h2, rfl⟩ := h2
    rcases h2 with ⟨b1, b2, b3⟩ | ⟨b1, b2, b3⟩
    · refine ⟨?_, p, q, Iv_q hI k1 (by decide) b3 rfl⟩
      exact a2.trans b2.symm
    · exact absurd a1 (by clear a2 a3 b2 b3 k1; omega)
  · have k1 : Qk p 1 M M1 := by rw [a3]; exact Qk_tr
    refine ⟨_, ct_X8_noise (QR_m hQ k1.m) hW hW.wa hW.ne, fun r2 M2 N2 h2 => ?_⟩
    obtain ⟨h2, rfl⟩ := h2
    rcases h2 with ⟨b1, b2, b3⟩ | ⟨b1, b2, b3⟩
    · exact absurd a1 (by clear a2 a3 b2 b3 k1; omega)
    · refine ⟨?_, p, q, Iv_q hI k1 (by decide) b3 rfl⟩
      exact a2.trans b2.symm
theorem cs_shared {E : Ev} {M : Mm} {N : Nn} {v w : Int} (hI : Iv M N) : ∃ P7 : Int → Mm → Nn → Prop, Ct E yX7_shared cX7_shared 3 ((some .int)) (rmH 3) [vr (3, 0, 0), vi v, vi w] M N (qi P7) ∧ ∀ r1 M1 N1, P7 r1 M1 N1 → ∃ P8 : Int → Mm → Nn → Prop, Ct E yX8_shared cX8_shared 5 ((some .int)) (rmH 9) [vr (29, 0, 0), vi v, vi w] M1 N1 (qi P8) ∧ ∀ r2 M2 N2, P8 r2 M2 N2 → r1 = r2 ∧ Iv M2 N2 := by
  obtain ⟨p, q, hI⟩ := hI
  have hC := hI.1.1
  have hW := hI.2.1
  have hQ := hI.2.2.2.2.1
  have hA := hI.2.2.2.2.2.1
  have hc := hW.2.1
  obtain ⟨φ, ma, fs, rk⟩ := hI.2.2.1
  refine ⟨_, ct_X7_shared hC hc fs, fun r1 M1 N1 h1 => ?_⟩
  obtain ⟨h1, rfl⟩ := h1
  rcases h1 with ⟨a1, a2, a3⟩ | ⟨a1, a2, a3⟩
  · have k1 : Qk p 0 M M1 := by rw [a3]; exact Qk_tr
    refine ⟨_, ct_X8_shared (QR_m hQ k1.m) hW hW.wa hW.ne, fun r2 M2 N2 h2 => ?_⟩
    obtain ⟨h2, rfl⟩ := h2
    rcases h2 with ⟨b1, b2, b3⟩ | ⟨b1, b2, b3⟩
    · refine ⟨?_, p, q, Iv_q hI k1 (by decide) b3 rfl⟩
      obtain ⟨e1, e2, e3⟩ := Fm_ag (M := M) hW rk a1.1 a1.2.1
      obtain ⟨d1, d2, d3⟩ := Fm_ag (M := M) hW rk a1.2.2.1 a1.2.2.2
      rw [a2, b2, e2, d2]
    · exact absurd a1 (by clear a2 a3 b2 b3 k1; omega)
  · have k1 : Qk p 1 M M1 := by rw [a3]; exact Qk_tr
    refine ⟨_, ct_X8_shared (QR_m hQ k1.m) hW hW.wa hW.ne, fun r2 M2 N2 h2 => ?_⟩
    obtain ⟨h2, rfl⟩ := h2
    rcases h2 with ⟨b1, b2, b3⟩ | ⟨b1, b2, b3⟩
    · exact absurd a1 (by clear a2 a3 b2 b3 k1; omega)
    · refine ⟨?_, p, q, Iv_q hI k1 (by decide) b3 rfl⟩
      exact a2.trans b2.symm
theorem cs_part {E : Ev} {M : Mm} {N : Nn} {v w : Int} (hI : Iv M N) : ∃ P7 : Int → Mm → Nn → Prop, Ct E yX7_part cX7_part 3 ((some .long)) (rmH 3) [vr (3, 0, 0), vi v, vi w] M N (ql P7) ∧ ∀ r1 M1 N1, P7 r1 M1 N1 → ∃ P8 : Int → Mm → Nn → Prop, Ct E yX8_part cX8_part 3 ((some .long)) (rmH 9) [vr (29, 0, 0), vi v, vi w] M1 N1 (ql P8) ∧ ∀ r2 M2 N2, P8 r2 M2 N2 → r1 = r2 ∧ Iv M2 N2 := by
  obtain ⟨p, q, hI⟩ := hI
  have hC := hI.1.1
  have hW := hI.2.1
  have hQ := hI.2.2.2.2.1
  have hA := hI.2.2.2.2.2.1
  have hc := hW.2.1
  obtain ⟨φ, ma, fs, rk⟩ := hI.2.2.1
  refine ⟨_, ct_X7_part hC hc fs, fun r1 M1 N1 h1 => ?_⟩
  obtain ⟨h1, rfl⟩ := h1
  rcases h1 with ⟨a1, a2, a3⟩ | ⟨a1, a2, a3⟩
  · have k1 : Qk p 0 M M1 := by rw [a3]; exact Qk_tr
    refine ⟨_, ct_X8_part (QR_m hQ k1.m) hW hW.wa hW.ne, fun r2 M2 N2 h2 => ?_⟩
    obtain ⟨h2, rfl⟩ := h2
    rcases h2 with ⟨b1, b2, b3⟩ | ⟨b1, b2, b3⟩
    · refine ⟨?_, p, q, Iv_q hI k1 (by decide) b3 rfl⟩
      obtain ⟨e1, e2, e3⟩ := Fm_ag (M := M) hW rk a1.1 a1.2.1
      rw [a2, b2, e2]
    · exact absurd a1 (by clear a2 a3 b2 b3 k1; omega)
  · have k1 : Qk p 1 M M1 := by rw [a3]; exact Qk_tr
    refine ⟨_, ct_X8_part (QR_m hQ k1.m) hW hW.wa hW.ne, fun r2 M2 N2 h2 => ?_⟩
    obtain ⟨h2, rfl⟩ := h2
    rcases h2 with ⟨b1, b2, b3⟩ | ⟨b1, b2, b3⟩
    · exact absurd a1 (by clear a2 a3 b2 b3 k1; omega)
    · refine ⟨?_, p, q, Iv_q hI k1 (by decide) b3 rfl⟩
      exact a2.trans b2.symm
theorem cs_blame {E : Ev} {M : Mm} {N : Nn} {v : Int} (hI : Iv M N) : ∃ P7 : Int → Mm → Nn → Prop, Ct E yX7_blame cX7_blame 2 ((some .int)) (rmH 4) [vr (3, 0, 0), vi v] M N (qi P7) ∧ ∀ r1 M1 N1, P7 r1 M1 N1 → ∃ P8 : Int → Mm → Nn → Prop, Ct E yX8_blame cX8_blame 2 ((some .int)) (rmH 9) [vr (29, 0, 0), vi v] M1 N1 (qi P8) ∧ ∀ r2 M2 N2, P8 r2 M2 N2 → r1 = r2 ∧ Iv M2 N2 := by
  obtain ⟨p, q, hI⟩ := hI
  have hC := hI.1.1
  have hW := hI.2.1
  have hQ := hI.2.2.2.2.1
  have hA := hI.2.2.2.2.2.1
  have hc := hW.2.1
  obtain ⟨φ, ma, fs, rk⟩ := hI.2.2.1
  refine ⟨_, ct_X7_blame hC hc fs, fun r1 M1 N1 h1 => ?_⟩
  obtain ⟨h1, rfl⟩ := h1
  rcases h1 with ⟨a1, a2, a3⟩ | ⟨a1, a2, a3⟩
  · have k1 : Qk p 0 M M1 := by rw [a3]; exact Qk_tr
    refine ⟨_, ct_X8_blame (QR_m hQ k1.m) hW hW.wa hW.ne, fun r2 M2 N2 h2 => ?_⟩
    obtain ⟨h2, rfl⟩ := h2
    rcases h2 with ⟨b1, b2, b3⟩ | ⟨b1, b2, b3⟩
    · refine ⟨?_, p, q, Iv_q hI k1 (by decide) b3 rfl⟩
      obtain ⟨e1, e2, e3⟩ := Fm_ag (M := M) hW rk a1.1 a1.2
      rw [a2, b2, e2, hW.bl hW.wa a1.1 a1.2]
    · exact absurd a1 (by clear a2 a3 b2 b3 k1; omega)
  · have k1 : Qk p 1 M M1 := by rw [a3]; exact Qk_tr
    refine ⟨_, ct_X8_blame (QR_m hQ k1.m) hW hW.wa hW.ne, fun r2 M2 N2 h2 => ?_⟩
    obtain ⟨h2, rfl⟩ := h2
    rcases h2 with ⟨b1, b2, b3⟩ | ⟨b1, b2, b3⟩
    · exact absurd a1 (by clear a2 a3 b2 b3 k1; omega)
    · refine ⟨?_, p, q, Iv_q hI k1 (by decide) b3 rfl⟩
      exact a2.trans b2.symm
theorem cs_may {E : Ev} {M : Mm} {N : Nn} {v : Int} (hI : Iv M N) : ∃ P7 : Int → Mm → Nn → Prop, Ct E yX7_may cX7_may 2 ((some .int)) (rmH 3) [vr (3, 0, 0), vi v] M N (qi P7) ∧ ∀ r1 M1 N1, P7 r1 M1 N1 → ∃ P8 : Int → Mm → Nn → Prop, Ct E yX8_may cX8_may 2 ((some .int)) (rmH 9) [vr (29, 0, 0), vi v] M1 N1 (qi P8) ∧ ∀ r2 M2 N2, P8 r2 M2 N2 → r1 = r2 ∧ Iv M2 N2 := by
  obtain ⟨p, q, hI⟩ := hI
  have hC := hI.1.1
  have hW := hI.2.1
  have hQ := hI.2.2.2.2.1
  have hA := hI.2.2.2.2.2.1
  have hc := hW.2.1
  obtain ⟨φ, ma, fs, rk⟩ := hI.2.2.1
  refine ⟨_, ct_X7_may hC hc fs, fun r1 M1 N1 h1 => ?_⟩
  obtain ⟨h1, rfl⟩ := h1
  rcases h1 with ⟨a1, a2, a3⟩ | ⟨a1, a2, a3⟩ | ⟨a1, a2, a3⟩
  · have k1 : Qk p 0 M M1 := by rw [a3]; exact Qk_tr
    refine ⟨_, ct_X8_may (QR_m hQ k1.m) hW hW.wa hW.ne, fun r2 M2 N2 h2 => ?_⟩
    obtain ⟨h2, rfl⟩ := h2
    rcases h2 with ⟨b1, b2, b3⟩ | ⟨b1, b2, b3⟩ | ⟨b1, b2, b3⟩
    · refine ⟨?_, p, q, Iv_q hI k1 (by decide) b3 rfl⟩
      obtain ⟨e1, e2, e3⟩ := Fm_ag (M := M) hW rk a1.1 a1.2.1
      rw [a2, b2, e3]
    · exact absurd a1 (by clear a2 a3 b2 b3 k1; omega)
    · exact absurd a1 (by clear a2 a3 b2 b3 k1; omega)
  · have k1 : Qk p 5 M M1 := by rw [a3]; exact Qk_tr
    refine ⟨_, ct_X8_may (QR_m hQ k1.m) hW hW.wa hW.ne, fun r2 M2 N2 h2 => ?_⟩
    obtain ⟨h2, rfl⟩ := h2
    rcases h2 with ⟨b1, b2, b3⟩ | ⟨b1, b2, b3⟩ | ⟨b1, b2, b3⟩
    · exact absurd a1 (by clear a2 a3 b2 b3 k1; omega)
    · refine ⟨?_, p, q, Iv_q hI k1 (by decide) b3 rfl⟩
      exact a2.trans b2.symm
    · exact absurd a1 (by clear a2 a3 b2 b3 k1; omega)
  · have k1 : Qk p 1 M M1 := by rw [a3]; exact Qk_tr
    refine ⟨_, ct_X8_may (QR_m hQ k1.m) hW hW.wa hW.ne, fun r2 M2 N2 h2 => ?_⟩
    obtain ⟨h2, rfl⟩ := h2
    rcases h2 with ⟨b1, b2, b3⟩ | ⟨b1, b2, b3⟩ | ⟨b1, b2, b3⟩
    · exact absurd a1 (by clear a2 a3 b2 b3 k1; omega)
    · exact absurd a1 (by clear a2 a3 b2 b3 k1; omega)
    · refine ⟨?_, p, q, Iv_q hI k1 (by decide) b3 rfl⟩
      exact a2.trans b2.symm
theorem cs_climb {E : Ev} {M : Mm} {N : Nn} {v k sd : Int} (hI : Iv M N) : ∃ P7 : Int → Mm → Nn → Prop, Ct E yX7_climb cX7_climb 4 ((some .long)) (rmH 8) [vr (3, 0, 0), vi v, vi k, vi sd] M N (ql P7) ∧ ∀ r1 M1 N1, P7 r1 M1 N1 → ∃ P8 : Int → Mm → Nn → Prop, Ct E yX8_climb cX8_climb 4 ((some .long)) (rmH 9) [vr (29, 0, 0), vi v, vi k, vi sd] M1 N1 (ql P8) ∧ ∀ r2 M2 N2, P8 r2 M2 N2 → r1 = r2 ∧ Iv M2 N2 := by
  obtain ⟨p, q, hI⟩ := hI
  have hC := hI.1.1
  have hW := hI.2.1
  have hQ := hI.2.2.2.2.1
  have hA := hI.2.2.2.2.2.1
  have hc := hW.2.1
  refine ⟨_, ct_X7_climb hC hc (fun _ v0 v1 => hW.sk v0 v1), fun r1 M1 N1 h1 => ?_⟩
  obtain ⟨h1, rfl⟩ := h1
  rcases h1 with ⟨a1, a2, a3⟩ | ⟨a1, a2, a3⟩ | ⟨a1, a2, a3⟩
  · have k1 : Qk p 0 M M1 := Qk_Sf a3
    refine ⟨_, ct_X8_climb (QR_m hQ k1.m) hW, fun r2 M2 N2 h2 => ?_⟩
    obtain ⟨h2, rfl⟩ := h2
    rcases h2 with ⟨b1, b2, b3⟩ | ⟨b1, b2, b3⟩ | ⟨b1, b2, b3⟩
    · refine ⟨?_, p, q, Iv_q hI k1 (by decide) b3 rfl⟩
      rw [a2, b2]
      exact (sk_rk (s := (M (25, 0, 0), sd, -1, M (24, 0, 0))) (t := (M1 (30, 0, 32), sd, -1, M1 (30, 0, 49))) hW a1.1 a1.2.1 rfl a1.2.2.2.2.1 a1.2.2.2.2.2 rfl rfl k.toNat).2.1
    · exact absurd a1 (by clear a2 a3 b2 b3 k1; omega)
    · exact absurd a1 (by clear a2 a3 b2 b3 k1; omega)
  · have k1 : Qk p 2 M M1 := by rw [a3]; exact Qk_tr
    refine ⟨_, ct_X8_climb (QR_m hQ k1.m) hW, fun r2 M2 N2 h2 => ?_⟩
    obtain ⟨h2, rfl⟩ := h2
    rcases h2 with ⟨b1, b2, b3⟩ | ⟨b1, b2, b3⟩ | ⟨b1, b2, b3⟩
    · exact absurd a1 (by clear a2 a3 b2 b3 k1; omega)
    · refine ⟨?_, p, q, Iv_q hI k1 (by decide) b3 rfl⟩
      exact a2.trans b2.symm
    · exact absurd a1 (by clear a2 a3 b2 b3 k1; omega)
  · have k1 : Qk p 1 M M1 := by rw [a3]; exact Qk_tr
    refine ⟨_, ct_X8_climb (QR_m hQ k1.m) hW, fun r2 M2 N2 h2 => ?_⟩
    obtain ⟨h2, rfl⟩ := h2
    rcases h2 with ⟨b1, b2, b3⟩ | ⟨b1, b2, b3⟩ | ⟨b1, b2, b3⟩
    · exact absurd a1 (by clear a2 a3 b2 b3 k1; omega)
    · exact absurd a1 (by clear a2 a3 b2 b3 k1; omega)
    · refine ⟨?_, p, q, Iv_q hI k1 (by decide) b3 rfl⟩
      exact a2.trans b2.symm
theorem cs_witness {E : Ev} {M : Mm} {N : Nn} {v k sd w : Int} (hI : Iv M N) : ∃ P7 : Int → Mm → Nn → Prop, Ct E yX7_witness cX7_witness 5 ((some .long)) (rmH 8) [vr (3, 0, 0), vi v, vi k, vi sd, vi w] M N (ql P7) ∧ ∀ r1 M1 N1, P7 r1 M1 N1 → ∃ P8 : Int → Mm → Nn → Prop, Ct E yX8_witness cX8_witness 5 ((some .long)) (rmH 9) [vr (29, 0, 0), vi v, vi k, vi sd, vi w] M1 N1 (ql P8) ∧ ∀ r2 M2 N2, P8 r2 M2 N2 → r1 = r2 ∧ Iv M2 N2 := by
  obtain ⟨p, q, hI⟩ := hI
  have hC := hI.1.1
  have hW := hI.2.1
  have hQ := hI.2.2.2.2.1
  have hA := hI.2.2.2.2.2.1
  have hc := hW.2.1
  refine ⟨_, ct_X7_witness hC hc (fun _ v0 v1 => hW.sk v0 v1), fun r1 M1 N1 h1 => ?_⟩
  obtain ⟨h1, rfl⟩ := h1
  rcases h1 with ⟨a1, a2, a3⟩ | ⟨a1, a2, a3⟩ | ⟨a1, a2, a3⟩ | ⟨a1, a2, a3⟩
  · have k1 : Qk p 0 M M1 := Qk_Sf a3
    refine ⟨_, ct_X8_witness (QR_m hQ k1.m) hW, fun r2 M2 N2 h2 => ?_⟩
    obtain ⟨h2, rfl⟩ := h2
    rcases h2 with ⟨b1, b2, b3⟩ | ⟨b1, b2, b3⟩ | ⟨b1, b2, b3⟩ | ⟨b1, b2, b3⟩
    · refine ⟨?_, p, q, Iv_q hI k1 (by decide) b3 rfl⟩
      rw [a2, b2]
      have z := (sk_rk (s := (M (25, 0, 0), sd, -1, M (24, 0, 0))) (t := (M1 (30, 0, 32), sd, -1, M1 (30, 0, 49))) hW a1.1 a1.2.1 rfl a1.2.2.2.2.1 a1.2.2.2.2.2.1 rfl rfl k.toNat).2.2.2 (by omega)
      exact (z w a1.2.2.2.2.2.2.1 a1.2.2.2.2.2.2.2.1 a1.2.2.2.2.2.2.2.2).symm
    · exact absurd a1 (by clear a2 a3 b2 b3 k1; omega)
    · exact absurd a1 (by clear a2 a3 b2 b3 k1; omega)
    · exact absurd a1 (by clear a2 a3 b2 b3 k1; omega)
  · have k1 : Qk p 1 M M1 := by rw [a3]; exact Qk_tr
    refine ⟨_, ct_X8_witness (QR_m hQ k1.m) hW, fun r2 M2 N2 h2 => ?_⟩
    obtain ⟨h2, rfl⟩ := h2
    rcases h2 with ⟨b1, b2, b3⟩ | ⟨b1, b2, b3⟩ | ⟨b1, b2, b3⟩ | ⟨b1, b2, b3⟩
    · exact absurd a1 (by clear a2 a3 b2 b3 k1; omega)
    · refine ⟨?_, p, q, Iv_q hI k1 (by decide) b3 rfl⟩
      exact a2.trans b2.symm
    · exact absurd a1 (by clear a2 a3 b2 b3 k1; omega)
    · exact absurd a1 (by clear a2 a3 b2 b3 k1; omega)
  · have k1 : Qk p 2 M M1 := by rw [a3]; exact Qk_tr
    refine ⟨_, ct_X8_witness (QR_m hQ k1.m) hW, fun r2 M2 N2 h2 => ?_⟩
    obtain ⟨h2, rfl⟩ := h2
    rcases h2 with ⟨b1, b2, b3⟩ | ⟨b1, b2, b3⟩ | ⟨b1, b2, b3⟩ | ⟨b1, b2, b3⟩
    · exact absurd a1 (by clear a2 a3 b2 b3 k1; omega)
    · exact absurd a1 (by clear a2 a3 b2 b3 k1; omega)
    · refine ⟨?_, p, q, Iv_q hI k1 (by decide) b3 rfl⟩
      exact a2.trans b2.symm
    · exact absurd a1 (by clear a2 a3 b2 b3 k1; omega)
  · have k1 : Qk p 1 M M1 := by rw [a3]; exact Qk_tr
    refine ⟨_, ct_X8_witness (QR_m hQ k1.m) hW, fun r2 M2 N2 h2 => ?_⟩
    obtain ⟨h2, rfl⟩ := h2
    rcases h2 with ⟨b1, b2, b3⟩ | ⟨b1, b2, b3⟩ | ⟨b1, b2, b3⟩ | ⟨b1, b2, b3⟩
    · exact absurd a1 (by clear a2 a3 b2 b3 k1; omega)
    · exact absurd a1 (by clear a2 a3 b2 b3 k1; omega)
    · exact absurd a1 (by clear a2 a3 b2 b3 k1; omega)
    · refine ⟨?_, p, q, Iv_q hI k1 (by decide) b3 rfl⟩
      exact a2.trans b2.symm
theorem cs_worst {E : Ev} {M : Mm} {N : Nn} {v : Int} (hI : Iv M N) : ∃ P7 : Int → Mm → Nn → Prop, Ct E yX7_worst cX7_worst 2 ((some .long)) (rmH 6) [vr (3, 0, 0), vi v] M N (ql P7) ∧ ∀ r1 M1 N1, P7 r1 M1 N1 → ∃ P8 : Int → Mm → Nn → Prop, Ct E yX8_worst cX8_worst 6 ((some .long)) (rmH 5) [vr (29, 0, 0), vi v] M1 N1 (ql P8) ∧ ∀ r2 M2 N2, P8 r2 M2 N2 → r1 = r2 ∧ Iv M2 N2 := by
  obtain ⟨p, q, hI⟩ := hI
  have hC := hI.1.1
  have hW := hI.2.1
  have hQ := hI.2.2.2.2.1
  have hA := hI.2.2.2.2.2.1
  have hc := hW.2.1
  refine ⟨_, ct_X7_worst hC hc (fun _ v0 v1 => hW.sk v0 v1) hW.iw, fun r1 M1 N1 h1 => ?_⟩
  obtain ⟨h1, rfl⟩ := h1
  rcases h1 with ⟨a1, a2, a3⟩ | ⟨a1, a2, a3⟩ | ⟨a1, a2, a3⟩
  · have k1 : Qk p 0 M M1 := Qk_Vf a3
    refine ⟨_, ct_X8_worst (QR_m hQ k1.m) hW, fun r2 M2 N2 h2 => ?_⟩
    obtain ⟨h2, rfl⟩ := h2
    rcases h2 with ⟨b1, b2, b3⟩ | ⟨b1, b2, b3⟩ | ⟨b1, b2, b3⟩
    · refine ⟨?_, p, q, Iv_q hI k1 (by decide) b3 rfl⟩
      rw [a2]
      exact MX_eq (ga_all hW a1.1 a1.2.1 a1.2.2) b2
    · exact absurd a1 (by clear a2 a3 b2 b3 k1; omega)
    · exact absurd a1 (by clear a2 a3 b2 b3 k1; omega)
  · have k1 : Qk p 3 M M1 := by rw [a3]; exact Qk_tr
    refine ⟨_, ct_X8_worst (QR_m hQ k1.m) hW, fun r2 M2 N2 h2 => ?_⟩
    obtain ⟨h2, rfl⟩ := h2
    rcases h2 with ⟨b1, b2, b3⟩ | ⟨b1, b2, b3⟩ | ⟨b1, b2, b3⟩
    · exact absurd a1 (by clear a2 a3 b2 b3 k1; omega)
    · refine ⟨?_, p, q, Iv_q hI k1 (by decide) b3 rfl⟩
      exact a2.trans b2.symm
    · exact absurd a1 (by clear a2 a3 b2 b3 k1; omega)
  · have k1 : Qk p 1 M M1 := by rw [a3]; exact Qk_tr
    refine ⟨_, ct_X8_worst (QR_m hQ k1.m) hW, fun r2 M2 N2 h2 => ?_⟩
    obtain ⟨h2, rfl⟩ := h2
    rcases h2 with ⟨b1, b2, b3⟩ | ⟨b1, b2, b3⟩ | ⟨b1, b2, b3⟩
    · exact absurd a1 (by clear a2 a3 b2 b3 k1; omega)
    · exact absurd a1 (by clear a2 a3 b2 b3 k1; omega)
    · refine ⟨?_, p, q, Iv_q hI k1 (by decide) b3 rfl⟩
      exact a2.trans b2.symm
theorem cs_parts {E : Ev} {M : Mm} {N : Nn} {v k sd : Int} (hI : Iv M N) : ∃ P7 : Int → Mm → Nn → Prop, Ct E yX7_parts cX7_parts 4 ((some .int)) (rmH 6) [vr (3, 0, 0), vi v, vi k, vi sd] M N (qi P7) ∧ ∀ r1 M1 N1, P7 r1 M1 N1 → ∃ P8 : Int → Mm → Nn → Prop, Ct E yX8_parts cX8_parts 7 ((some .int)) (rmH 6) [vr (29, 0, 0), vi v, vi k, vi sd] M1 N1 (qi P8) ∧ ∀ r2 M2 N2, P8 r2 M2 N2 → r1 = r2 ∧ Iv M2 N2 := by
  obtain ⟨p, q, hI⟩ := hI
  have hC := hI.1.1
  have hW := hI.2.1
  have hQ := hI.2.2.2.2.1
  have hA := hI.2.2.2.2.2.1
  have hc := hW.2.1
  refine ⟨_, ct_X7_parts hC hc (fun _ v0 v1 => hW.sk v0 v1), fun r1 M1 N1 h1 => ?_⟩
  obtain ⟨h1, rfl⟩ := h1
  rcases h1 with ⟨a1, a2, a3⟩ | ⟨a1, a2, a3⟩ | ⟨a1, a2, a3⟩ | ⟨a1, a2, a3⟩
  · have k1 : Qk p 0 M M1 := Qk_Sf a3
    refine ⟨_, ct_X8_parts (QR_m hQ k1.m) hW, fun r2 M2 N2 h2 => ?_⟩
    obtain ⟨h2, rfl⟩ := h2
    rcases h2 with ⟨b1, b2, b3⟩ | ⟨b1, b2, b3⟩ | ⟨b1, b2, b3⟩ | ⟨b1, b2, b3⟩
    · refine ⟨?_, p, q, Iv_q hI k1 (by decide) b3 rfl⟩
      rw [a2, b2]
      exact fp_eq hW a1.2.1 _ _ _ _ _
    · exact absurd a1 (by clear a2 a3 b2 b3 k1; omega)
    · exact absurd a1 (by clear a2 a3 b2 b3 k1; omega)
    · exact absurd a1 (by clear a2 a3 b2 b3 k1; omega)
  · have k1 : Qk p 2 M M1 := by rw [a3]; exact Qk_tr
    refine ⟨_, ct_X8_parts (QR_m hQ k1.m) hW, fun r2 M2 N2 h2 => ?_⟩
    obtain ⟨h2, rfl⟩ := h2
    rcases h2 with ⟨b1, b2, b3⟩ | ⟨b1, b2, b3⟩ | ⟨b1, b2, b3⟩ | ⟨b1, b2, b3⟩
    · exact absurd a1 (by clear a2 a3 b2 b3 k1; omega)
    · refine ⟨?_, p, q, Iv_q hI k1 (by decide) b3 rfl⟩
      exact a2.trans b2.symm
    · exact absurd a1 (by clear a2 a3 b2 b3 k1; omega)
    · exact absurd a1 (by clear a2 a3 b2 b3 k1; omega)
  · have k1 : Qk p 5 M M1 := by rw [a3]; exact Qk_tr
    refine ⟨_, ct_X8_parts (QR_m hQ k1.m) hW, fun r2 M2 N2 h2 => ?_⟩
    obtain ⟨h2, rfl⟩ := h2
    rcases h2 with ⟨b1, b2, b3⟩ | ⟨b1, b2, b3⟩ | ⟨b1, b2, b3⟩ | ⟨b1, b2, b3⟩
    · exact absurd a1 (by clear a2 a3 b2 b3 k1; omega)
    · exact absurd a1 (by clear a2 a3 b2 b3 k1; omega)
    · refine ⟨?_, p, q, Iv_q hI k1 (by decide) b3 rfl⟩
      exact a2.trans b2.symm
    · exact absurd a1 (by clear a2 a3 b2 b3 k1; omega)
  · have k1 : Qk p 1 M M1 := by rw [a3]; exact Qk_tr
    refine ⟨_, ct_X8_parts (QR_m hQ k1.m) hW, fun r2 M2 N2 h2 => ?_⟩
    obtain ⟨h2, rfl⟩ := h2
    rcases h2 with ⟨b1, b2, b3⟩ | ⟨b1, b2, b3⟩ | ⟨b1, b2, b3⟩ | ⟨b1, b2, b3⟩
    · exact absurd a1 (by clear a2 a3 b2 b3 k1; omega)
    · exact absurd a1 (by clear a2 a3 b2 b3 k1; omega)
    · exact absurd a1 (by clear a2 a3 b2 b3 k1; omega)
    · refine ⟨?_, p, q, Iv_q hI k1 (by decide) b3 rfl⟩
      exact a2.trans b2.symm
theorem cs_fault {E : Ev} {M : Mm} {N : Nn} (hI : Iv M N) : ∃ P7 : Int → Mm → Nn → Prop, Ct E yX7_fault cX7_fault 1 ((some .int)) (rmH 1) [vr (3, 0, 0)] M N (qi P7) ∧ ∀ r1 M1 N1, P7 r1 M1 N1 → ∃ P8 : Int → Mm → Nn → Prop, Ct E yX8_fault cX8_fault 1 ((some .int)) (rmH 1) [vr (29, 0, 0)] M1 N1 (qi P8) ∧ ∀ r2 M2 N2, P8 r2 M2 N2 → r1 = r2 ∧ Iv M2 N2 := by
  obtain ⟨p, q, hI⟩ := hI
  obtain ⟨-, -, -, -, -, -, t1, t2, t3, t4, t5, t6, t7⟩ := id hI
  refine ⟨_, ct_X7_fault, fun r1 M1 N1 h1 => ?_⟩
  obtain ⟨a1, rfl, rfl⟩ := h1
  refine ⟨_, ct_X8_fault, fun r2 M2 N2 h2 => ?_⟩
  obtain ⟨b1, b2, rfl⟩ := h2
  subst b2
  refine ⟨?_, p, q, Iv_k hI (Kr.ws (K := [0]) (A := []) Kr.rf (by decide)) (by decide) (by decide)⟩
  rw [a1, b1]; exact t6
theorem cs_where {E : Ev} {M : Mm} {N : Nn} (hI : Iv M N) : ∃ P7 : Int → Mm → Nn → Prop, Ct E yX7_where cX7_where 1 ((some .int)) (rmH 1) [vr (3, 0, 0)] M N (qi P7) ∧ ∀ r1 M1 N1, P7 r1 M1 N1 → ∃ P8 : Int → Mm → Nn → Prop, Ct E yX8_where cX8_where 1 ((some .int)) (rmH 1) [vr (29, 0, 0)] M1 N1 (qi P8) ∧ ∀ r2 M2 N2, P8 r2 M2 N2 → r1 = r2 ∧ Iv M2 N2 := by
  obtain ⟨p, q, hI⟩ := hI
  obtain ⟨-, -, -, -, -, -, t1, t2, t3, t4, t5, t6, t7⟩ := id hI
  refine ⟨_, ct_X7_where, fun r1 M1 N1 h1 => ?_⟩
  obtain ⟨a1, rfl, rfl⟩ := h1
  refine ⟨_, ct_X8_where, fun r2 M2 N2 h2 => ?_⟩
  obtain ⟨b1, b2, rfl⟩ := h2
  subst b2
  refine ⟨?_, p, q, Iv_k hI (Kr.ws (K := [0]) (A := []) Kr.rf (by decide)) (by decide) (by decide)⟩
  rw [a1, b1, t5]
  by_cases z : M (29, 0, 0) 1 = 4
  · rw [if_pos z, if_pos z, t7 (t5.trans z)]
  · rw [if_neg z, if_neg z]
theorem cs_size {E : Ev} {M : Mm} {N : Nn} (hI : Iv M N) : ∃ P7 : Int → Mm → Nn → Prop, Ct E yX7_size cX7_size 1 ((some .int)) (rmH 1) [vr (3, 0, 0)] M N (qi P7) ∧ ∀ r1 M1 N1, P7 r1 M1 N1 → ∃ P8 : Int → Mm → Nn → Prop, Ct E yX8_size cX8_size 1 ((some .int)) (rmH 1) [vr (29, 0, 0)] M1 N1 (qi P8) ∧ ∀ r2 M2 N2, P8 r2 M2 N2 → r1 = r2 ∧ Iv M2 N2 := by
  obtain ⟨p, q, hI⟩ := hI
  obtain ⟨-, -, -, -, -, -, t1, t2, t3, t4, t5, t6, t7⟩ := id hI
  refine ⟨_, ct_X7_size, fun r1 M1 N1 h1 => ?_⟩
  obtain ⟨a1, rfl, rfl⟩ := h1
  refine ⟨_, ct_X8_size, fun r2 M2 N2 h2 => ?_⟩
  obtain ⟨b1, b2, rfl⟩ := h2
  subst b2
  refine ⟨?_, p, q, Iv_k hI (Kr.ws (K := [0]) (A := []) Kr.rf (by decide)) (by decide) (by decide)⟩
  rw [a1, b1]; exact t1
theorem cs_trouble {E : Ev} {M : Mm} {N : Nn} (hI : Iv M N) : ∃ P7 : Int → Mm → Nn → Prop, Ct E yX7_trouble cX7_trouble 1 ((some .int)) (rmH 1) [vr (3, 0, 0)] M N (qi P7) ∧ ∀ r1 M1 N1, P7 r1 M1 N1 → ∃ P8 : Int → Mm → Nn → Prop, Ct E yX8_trouble cX8_trouble 1 ((some .int)) (rmH 1) [vr (29, 0, 0)] M1 N1 (qi P8) ∧ ∀ r2 M2 N2, P8 r2 M2 N2 → r1 = r2 ∧ Iv M2 N2 := by
  obtain ⟨p, q, hI⟩ := hI
  obtain ⟨-, -, -, -, -, -, t1, t2, t3, t4, t5, t6, t7⟩ := id hI
  refine ⟨_, ct_X7_trouble, fun r1 M1 N1 h1 => ?_⟩
  obtain ⟨a1, rfl, rfl⟩ := h1
  refine ⟨_, ct_X8_trouble, fun r2 M2 N2 h2 => ?_⟩
  obtain ⟨b1, b2, rfl⟩ := h2
  subst b2
  refine ⟨?_, p, q, Iv_k hI (Kr.ws (K := [0]) (A := []) Kr.rf (by decide)) (by decide) (by decide)⟩
  rw [a1, b1]; exact t5
