def maU (ma : Int → Int) (v x : Int) : Int → Int := fun w => if w = v then x else ma w
theorem FS.may {M : Mm} {f : Nat} {φ : Nat → FV} {ν : Nu} {ma : Int → Int} {v x : Int} (h : FS M f φ ν ma) : FS (wr M (8, f, 0) v x) f φ ν (maU ma v x) := by
  obtain ⟨h1, h2, h3, h4, h5, h6, h7⟩ := h
  refine ⟨h1.keep (fun j => by funext i; rw [wr_nn (nm_ne1 (by decide))]) (fun j => by funext i; rw [wr_nn (nm_ne1 (by decide))]), by rw [wr_nn (nm_ne1 (by decide))]; exact h2, h3, h4, fun i i0 i1 => ?_, fun w w0 w1 => ?_, h7⟩
  · rw [wr_nn (nm_ne1 (by decide)), wr_nn (nm_ne1 (by decide))]; exact h5 i i0 i1
  · show _ = if w = v then x else ma w
    by_cases e : w = v
    · rw [if_pos e, e, wr_eq]
    · rw [if_neg e, wr_nk e]; exact h6 w w0 w1
theorem ff_may {M M1 : Mm} {f : Nat} {v x : Int} (h : Ff f M M1) : Ff f M (wr M1 (8, f, 0) v x) := Ff.wr h (by decide) (by decide)
/-- a step's two forms are new, those of other variables as they were -/
def St (v : Nat) (φ φ1 : Nat → FV) (A D : FV) : Prop := φ1 v = A ∧ φ1 (15 + v) = D ∧ ∀ j, j < 30 → j ≠ v → j ≠ 15 + v → φ1 j = φ j
theorem vj_ok {S : Pg} {v k : Int} (h0 : 0 ≤ v) (h1 : v < 15) (k0 : 0 ≤ k) (k1 : k < 4) (ho : S 8 (4 * v + k) < v) : vj S v k < 34 ∧ vj S v k ≠ v.toNat ∧ vj S v k ≠ 15 + v.toNat := by
  unfold vj
  split <;> omega
theorem dj_ok {S : Pg} {v k : Int} (h0 : 0 ≤ v) (h1 : v < 15) (ho : S 8 (4 * v + k) < v) : dj S v k < 39 ∧ dj S v k ≠ v.toNat ∧ dj S v k ≠ 15 + v.toNat := by
  unfold dj
  split <;> omega
theorem vA_congr {S : Pg} {φ φ' : Nat → FV} {v k : Int} (h0 : 0 ≤ v) (h1 : v < 15) (ho : S 8 (4 * v + k) < v) (h : ∀ j, j < 30 → j ≠ v.toNat → j ≠ 15 + v.toNat → φ' j = φ j) : vA S φ' v k = vA S φ v k := by
  unfold vA
  split
  · exact h _ (by omega) (by omega) (by omega)
  · rfl
theorem dA_congr {S : Pg} {φ φ' : Nat → FV} {v k : Int} (h0 : 0 ≤ v) (h1 : v < 15) (ho : S 8 (4 * v + k) < v) (h : ∀ j, j < 30 → j ≠ v.toNat → j ≠ 15 + v.toNat → φ' j = φ j) : dA S φ' v k = dA S φ v k := by
  unfold dA
  split
  · exact h _ (by omega) (by omega) (by omega)
  · rfl
theorem fad_fz {a b : FV} {t : Int} : fad (fad (fnum 0) 1 a) t b = fad a t b := by
  unfold fad fnum
  dsimp only
  refine Prod.ext ?_ (funext fun i => ?_)
  · show w64 (w64 (0 + 1 * a.1) + t * b.1) = w64 (a.1 + t * b.1)
    rw [w64_add, Int.zero_add, Int.one_mul]
  · show w64 (w64 (0 + 1 * a.2 i) + t * b.2 i) = w64 (a.2 i + t * b.2 i)
    rw [w64_add, Int.zero_add, Int.one_mul]
/-- one and P of two -/
def fma (x a b : FV) : FV := (w64 (x.1 + a.1 * b.1), fun i => w64 (x.2 i + (a.1 * b.2 i + b.1 * a.2 i)))
theorem fan_fma {x a b : FV} : fan (fad x a.1 b) b.1 a = fma x a b := by
  unfold fan fad fma
  refine Prod.ext rfl (funext fun i => ?_)
  show w64 (w64 (x.2 i + a.1 * b.2 i) + b.1 * a.2 i) = _
  rw [w64_add, Int.add_assoc]
set_option maxRecDepth 100000 in
set_option maxHeartbeats 4000000 in
theorem ct_X1_reckonInput {E : Ev} {M : Mm} {N : Nn} {f p : Nat} {φ : Nat → FV} {ν : Nu} {ma : Int → Int} {v : Int} (hF : FS M f φ ν ma) (h0 : 0 ≤ v) (h1 : v < 15) (hlt : ν.1 < 63) (hr : -1000 ≤ pgC M p 2 v ∧ pgC M p 2 v ≤ pgC M p 3 v ∧ pgC M p 3 v ≤ 1000) : Ct E yX1_reckonInput cX1_reckonInput 4 (none) (rmH 2) [vr (7, f, 0), vr (18, p, 0), vi v] M N (qv (fun M1 N1 => FS M1 f (va_up (va_up φ v.toNat (fno (fnum (pgC M p 2 v + (pgC M p 3 v - pgC M p 2 v).tdiv 2)) ν.1 ((pgC M p 3 v - pgC M p 2 v).tdiv 2))) (15 + v.toNat) fz) (nw ν v 0) (maU ma v 0) ∧ Ff f M M1 ∧ N = N1)) := by
  refine ct_of (own := RX1) (L0 := [vr (7, f, 0), vr (18, p, 0), vi v, vn]) rfl (by decide +kernel) rfl rfl ?_
  refine go_aload_n dX1_reckonInput_0 rfl rfl ?_
  refine g1_140 dX1_reckonInput_1 ?_
  refine go_iload_n dX1_reckonInput_4 rfl ?_
  refine go_iald dX1_reckonInput_5 rfl (by omega) (by omega) ?_
  refine go_nmi (fun t et => ?_)
  have et : t = pgC M p 3 v := et
  refine go_aload_n dX1_reckonInput_6 rfl rfl ?_
  refine g1_143 dX1_reckonInput_7 ?_
  refine go_iload_n dX1_reckonInput_10 rfl ?_
  refine go_iald dX1_reckonInput_11 rfl (by omega) (by omega) ?_
  refine go_nmi (fun a ea => ?_)
  have ea : a = pgC M p 2 v := ea
  rw [← et, ← ea] at hr
  have hd : (t - a).tdiv 2 = (t - a) / 2 := Int.tdiv_eq_ediv_of_nonneg (by omega)
  have hd0 : 0 ≤ (t - a) / 2 ∧ (t - a) / 2 ≤ 1000 := by omega
  refine go_isubc dX1_reckonInput_12 ⟨by omega, by omega⟩ ?_
  refine go_iconst dX1_reckonInput_13 (R32_lit rfl) ?_
  refine go_idivc dX1_reckonInput_14 (by decide) (by rw [hd]; exact ⟨by omega, by omega⟩) ?_
  refine go_nmi (fun hf eh => ?_)
  have hh : 0 ≤ hf ∧ hf ≤ 1000 := by rw [eh, hd]; exact hd0
  refine go_ist3 dX1_reckonInput_15 rfl rfl ?_
  refine go_aload_n dX1_reckonInput_16 rfl rfl ?_
  refine g1_23 dX1_reckonInput_17 ?_
  refine go_iload_n dX1_reckonInput_20 rfl ?_
  refine go_aaldV dX1_reckonInput_21 (by omega) (by omega) ?_
  refine go_aload_n dX1_reckonInput_22 rfl rfl ?_
  refine g1_143 dX1_reckonInput_23 ?_
  refine go_iload_n dX1_reckonInput_26 rfl ?_
  refine go_iald dX1_reckonInput_27 rfl (by omega) (by omega) ?_
  rw [show M (19, p, 2) v = a from ea.symm]
  refine go_iload_n dX1_reckonInput_28 rfl ?_
  refine go_iaddc dX1_reckonInput_29 ⟨by omega, by omega⟩ ?_
  refine go_i2l dX1_reckonInput_30 ?_
  refine v1_136 dX1_reckonInput_31 rfl ⟨rfl, rfl⟩ ⟨rfl, rfl⟩ (ct_X0_become (hF.fi (j := v.toNat) (by omega))) (fun M1 N1 hq1 => ?_)
  obtain ⟨hI1, ho1, rfl⟩ := hq1
  have hF1 := hF.upd hI1 ho1 (by omega)
  refine go_aload_n dX1_reckonInput_34 rfl rfl ?_
  refine g1_23 dX1_reckonInput_35 ?_
  refine go_iload_n dX1_reckonInput_38 rfl ?_
  refine go_aaldV dX1_reckonInput_39 (by omega) (by omega) ?_
  refine go_aload_n dX1_reckonInput_40 rfl rfl ?_
  refine go_iload_n dX1_reckonInput_41 rfl ?_
  refine go_iconst dX1_reckonInput_42 (R32_lit rfl) ?_
  refine v1_122 dX1_reckonInput_43 rfl ⟨rfl, rfl⟩ ⟨rfl, rfl⟩ (ct_X1_newNoise hF1 hlt) (fun r2 M2 N2 hr2 hq2 => ?_)
  obtain ⟨rfl, hF2, hf2, rfl⟩ := hq2
  refine go_iload_n dX1_reckonInput_46 rfl ?_
  refine go_i2l dX1_reckonInput_47 ?_
  refine v1_126 dX1_reckonInput_48 rfl ⟨rfl, rfl⟩ ⟨rfl, rfl⟩ (ct_X0_addNoise (hF2.fi (j := v.toNat) (by omega)) hF.2.2.1 hlt) (fun M3 N3 hq3 => ?_)
  obtain ⟨hI3, ho3, rfl⟩ := hq3
  have hF3 := hF2.upd hI3 ho3 (by omega)
  refine go_aload_n dX1_reckonInput_51 rfl rfl ?_
  refine g1_27 dX1_reckonInput_52 ?_
  refine go_iload_n dX1_reckonInput_55 rfl ?_
  refine go_aaldD dX1_reckonInput_56 (by omega) (by omega) ?_
  refine go_lconst (x := 0) dX1_reckonInput_57 rfl ?_
  refine v1_136 dX1_reckonInput_58 rfl ⟨rfl, rfl⟩ ⟨rfl, rfl⟩ (ct_X0_become (hF3.fi (j := 15 + v.toNat) (by omega))) (fun M4 N4 hq4 => ?_)
  obtain ⟨hI4, ho4, rfl⟩ := hq4
  have hF4 := hF3.upd hI4 ho4 (by omega)
  refine go_aload_n dX1_reckonInput_61 rfl rfl ?_
  refine g1_9 dX1_reckonInput_62 ?_
  refine go_iload_n dX1_reckonInput_65 rfl ?_
  refine go_iconst dX1_reckonInput_66 (R32_lit rfl) ?_
  refine go_iast dX1_reckonInput_67 rfl (by omega) (by omega) ?_
  refine go_retv dX1_reckonInput_68 ?_
  refine ⟨?_, ff_may ((((ho1.ff).tr hf2).tr ho3.ff).tr ho4.ff), rfl⟩
  have h9 := hF4.may (v := v) (x := 0)
  rw [← et, ← ea, ← eh]
  rw [up_eq] at h9
  have e : va_up (va_up (va_up φ v.toNat (fnum (a + hf))) v.toNat (fno (fnum (a + hf)) ν.1 hf)) (15 + v.toNat) (fnum 0) = va_up (va_up φ v.toNat (fno (fnum (a + hf)) ν.1 hf)) (15 + v.toNat) fz := by
    funext j
    unfold va_up
    split
    · rfl
    · split <;> rfl
  rw [e] at h9
  exact h9
set_option maxRecDepth 100000 in
set_option maxHeartbeats 4000000 in
theorem ct_X1_reckonSum {E : Ev} {M : Mm} {N : Nn} {f p : Nat} {φ : Nat → FV} {ν : Nu} {ma : Int → Int} {v t : Int} (hF : FS M f φ ν ma) (h0 : 0 ≤ v) (h1 : v < 15) (ho0 : pgC M p 8 (4 * v + 0) < v) (ho1 : pgC M p 8 (4 * v + 1) < v) : Ct E yX1_reckonSum cX1_reckonSum 4 (none) (rmH 3) [vr (7, f, 0), vr (18, p, 0), vi v, vi t] M N (qv (fun M1 N1 => (∃ φ1, FS M1 f φ1 ν (maU ma v 0) ∧ St v.toNat φ φ1 (fad (vA (pgC M p) φ v 0) t (vA (pgC M p) φ v 1)) (fad (dA (pgC M p) φ v 0) t (dA (pgC M p) φ v 1))) ∧ Ff f M M1 ∧ N = N1)) := by
  refine ct_of (own := RX1) (L0 := [vr (7, f, 0), vr (18, p, 0), vi v, vi t]) rfl (by decide +kernel) rfl rfl ?_
  refine go_aload_n dX1_reckonSum_0 rfl rfl ?_
  refine g1_23 dX1_reckonSum_1 ?_
  refine go_iload_n dX1_reckonSum_4 rfl ?_
  refine go_aaldV dX1_reckonSum_5 (by omega) (by omega) ?_
  refine go_lconst (x := 0) dX1_reckonSum_6 rfl ?_
  refine v1_136 dX1_reckonSum_7 rfl ⟨rfl, rfl⟩ ⟨rfl, rfl⟩ (ct_X0_become (hF.fi (j := v.toNat) (by omega))) (fun M1 N1 hq1 => ?_)
  obtain ⟨hI1, hw1, rfl⟩ := hq1
  have hF1 := hF.upd hI1 hw1 (by omega)
  have hf1 : Ff f M M1 := hw1.ff
  have hp1 : pgC M1 p = pgC M p := hf1.pg
  have hk1 : ∀ j, j < 30 → j ≠ v.toNat → j ≠ 15 + v.toNat → va_up φ v.toNat (fnum 0) j = φ j := fun j _ a _ => up_ne a
  refine go_aload_n dX1_reckonSum_10 rfl rfl ?_
  refine g1_23 dX1_reckonSum_11 ?_
  refine go_iload_n dX1_reckonSum_14 rfl ?_
  refine go_aaldV dX1_reckonSum_15 (by omega) (by omega) ?_
  refine go_aload_n dX1_reckonSum_16 rfl rfl ?_
  refine go_aload_n dX1_reckonSum_17 rfl rfl ?_
  refine go_iload_n dX1_reckonSum_18 rfl ?_
  refine go_iconst dX1_reckonSum_19 (R32_lit rfl) ?_
  refine v1_146 dX1_reckonSum_20 rfl ⟨rfl, rfl⟩ ⟨rfl, rfl⟩ (ct_X1_valueIn hF1 h0 h1 (by decide) (by decide) (by rw [hp1]; omega)) (fun r2 M2 N2 hq2 => ?_)
  obtain ⟨e2, ⟨φ2, hF2, hlo2, hj2, -⟩, hf2, rfl⟩ := hq2
  rw [hp1] at e2 hj2
  subst e2
  have hv0 := vj_ok h0 h1 (by decide) (by decide) ho0
  have hk2 : ∀ j, j < 30 → j ≠ v.toNat → j ≠ 15 + v.toNat → φ2 j = φ j := fun j a b c => (hlo2 j a).trans (hk1 j a b c)
  refine go_lconst (x := 1) dX1_reckonSum_23 rfl ?_
  refine v1_150 dX1_reckonSum_24 rfl ⟨rfl, rfl⟩ ⟨rfl, rfl⟩ (ct_X0_add (hF2.fi (j := v.toNat) (by omega)) (hF2.fi (by omega)) hv0.2.1) (fun M3 N3 hq3 => ?_)
  obtain ⟨hI3, hw3, rfl⟩ := hq3
  have hF3 := hF2.upd hI3 hw3 (by omega)
  rw [hlo2 v.toNat (by omega), up_eq, hj2, vA_congr h0 h1 ho0 hk1] at hF3
  have hf3 := (hf1.tr hf2).tr hw3.ff
  have hp3 : pgC M3 p = pgC M p := hf3.pg
  refine go_aload_n dX1_reckonSum_27 rfl rfl ?_
  refine g1_23 dX1_reckonSum_28 ?_
  refine go_iload_n dX1_reckonSum_31 rfl ?_
  refine go_aaldV dX1_reckonSum_32 (by omega) (by omega) ?_
  refine go_aload_n dX1_reckonSum_33 rfl rfl ?_
  refine go_aload_n dX1_reckonSum_34 rfl rfl ?_
  refine go_iload_n dX1_reckonSum_35 rfl ?_
  refine go_iconst dX1_reckonSum_36 (R32_lit rfl) ?_
  refine v1_146 dX1_reckonSum_37 rfl ⟨rfl, rfl⟩ ⟨rfl, rfl⟩ (ct_X1_valueIn hF3 h0 h1 (by decide) (by decide) (by rw [hp3]; omega)) (fun r4 M4 N4 hq4 => ?_)
  obtain ⟨e4, ⟨φ4, hF4, hlo4, hj4, -⟩, hf4, rfl⟩ := hq4
  rw [hp3] at e4 hj4
  subst e4
  have hv1 := vj_ok h0 h1 (by decide) (by decide) ho1
  have hk3 : ∀ j, j < 30 → j ≠ v.toNat → j ≠ 15 + v.toNat → va_up φ2 v.toNat (fad (fnum 0) 1 (vA (pgC M p) φ v 0)) j = φ j := fun j a b c => (up_ne b).trans (hk2 j a b c)
  have hk4 : ∀ j, j < 30 → j ≠ v.toNat → j ≠ 15 + v.toNat → φ4 j = φ j := fun j a b c => (hlo4 j a).trans (hk3 j a b c)
  refine go_iload_n dX1_reckonSum_40 rfl ?_
  refine go_i2l dX1_reckonSum_41 ?_
  refine v1_150 dX1_reckonSum_42 rfl ⟨rfl, rfl⟩ ⟨rfl, rfl⟩ (ct_X0_add (hF4.fi (j := v.toNat) (by omega)) (hF4.fi (by omega)) hv1.2.1) (fun M5 N5 hq5 => ?_)
  obtain ⟨hI5, hw5, rfl⟩ := hq5
  have hF5 := hF4.upd hI5 hw5 (by omega)
  rw [hlo4 v.toNat (by omega), up_eq, hj4, vA_congr h0 h1 ho1 hk3, fad_fz] at hF5
  have hf5 := (hf3.tr hf4).tr hw5.ff
  refine go_aload_n dX1_reckonSum_45 rfl rfl ?_
  refine g1_27 dX1_reckonSum_46 ?_
  refine go_iload_n dX1_reckonSum_49 rfl ?_
  refine go_aaldD dX1_reckonSum_50 (by omega) (by omega) ?_
  refine go_lconst (x := 0) dX1_reckonSum_51 rfl ?_
  refine v1_136 dX1_reckonSum_52 rfl ⟨rfl, rfl⟩ ⟨rfl, rfl⟩ (ct_X0_become (hF5.fi (j := 15 + v.toNat) (by omega))) (fun M6 N6 hq6 => ?_)
  obtain ⟨hI6, hw6, rfl⟩ := hq6
  have hF6 := hF5.upd hI6 hw6 (by omega)
  have hf6 := hf5.tr hw6.ff
  have hp6 : pgC M6 p = pgC M p := hf6.pg
  have hk6 : ∀ j, j < 30 → j ≠ v.toNat → j ≠ 15 + v.toNat → va_up (va_up φ4 v.toNat (fad (vA (pgC M p) φ v 0) t (vA (pgC M p) φ v 1))) (15 + v.toNat) (fnum 0) j = φ j := fun j a b c => (up_ne c).trans ((up_ne b).trans (hk4 j a b c))
  refine go_aload_n dX1_reckonSum_55 rfl rfl ?_
  refine g1_27 dX1_reckonSum_56 ?_
  refine go_iload_n dX1_reckonSum_59 rfl ?_
  refine go_aaldD dX1_reckonSum_60 (by omega) (by omega) ?_
  refine go_aload_n dX1_reckonSum_61 rfl rfl ?_
  refine go_aload_n dX1_reckonSum_62 rfl rfl ?_
  refine go_iload_n dX1_reckonSum_63 rfl ?_
  refine go_iconst dX1_reckonSum_64 (R32_lit rfl) ?_
  refine v1_154 dX1_reckonSum_65 rfl ⟨rfl, rfl⟩ ⟨rfl, rfl⟩ (ct_X1_driftIn hF6 h0 h1 (by decide) (by decide) (by rw [hp6]; omega)) (fun r7 M7 N7 hq7 => ?_)
  obtain ⟨e7, hj7, rfl, rfl⟩ := hq7
  rw [hp6] at e7 hj7
  subst e7
  have hd0 := dj_ok h0 h1 ho0
  refine go_lconst (x := 1) dX1_reckonSum_68 rfl ?_
  refine v1_150 dX1_reckonSum_69 rfl ⟨rfl, rfl⟩ ⟨rfl, rfl⟩ (ct_X0_add (hF6.fi (j := 15 + v.toNat) (by omega)) (hF6.fi hd0.1) hd0.2.2) (fun M8 N8 hq8 => ?_)
  obtain ⟨hI8, hw8, rfl⟩ := hq8
  have hF8 := hF6.upd hI8 hw8 (by omega)
  rw [up_eq, hj7, dA_congr h0 h1 ho0 hk6] at hF8
  have hf8 := hf6.tr hw8.ff
  have hp8 : pgC M8 p = pgC M p := hf8.pg
  have hk8 : ∀ j, j < 30 → j ≠ v.toNat → j ≠ 15 + v.toNat → va_up (va_up (va_up φ4 v.toNat (fad (vA (pgC M p) φ v 0) t (vA (pgC M p) φ v 1))) (15 + v.toNat) (fnum 0)) (15 + v.toNat) (fad (fnum 0) 1 (dA (pgC M p) φ v 0)) j = φ j := fun j a b c => (up_ne c).trans (hk6 j a b c)
  refine go_aload_n dX1_reckonSum_72 rfl rfl ?_
  refine g1_27 dX1_reckonSum_73 ?_
  refine go_iload_n dX1_reckonSum_76 rfl ?_
  refine go_aaldD dX1_reckonSum_77 (by omega) (by omega) ?_
  refine go_aload_n dX1_reckonSum_78 rfl rfl ?_
  refine go_aload_n dX1_reckonSum_79 rfl rfl ?_
  refine go_iload_n dX1_reckonSum_80 rfl ?_
  refine go_iconst dX1_reckonSum_81 (R32_lit rfl) ?_
  refine v1_154 dX1_reckonSum_82 rfl ⟨rfl, rfl⟩ ⟨rfl, rfl⟩ (ct_X1_driftIn hF8 h0 h1 (by decide) (by decide) (by rw [hp8]; omega)) (fun r9 M9 N9 hq9 => ?_)
  obtain ⟨e9, hj9, rfl, rfl⟩ := hq9
  rw [hp8] at e9 hj9
  subst e9
  have hd1 := dj_ok h0 h1 ho1
  refine go_iload_n dX1_reckonSum_85 rfl ?_
  refine go_i2l dX1_reckonSum_86 ?_
  refine v1_150 dX1_reckonSum_87 rfl ⟨rfl, rfl⟩ ⟨rfl, rfl⟩ (ct_X0_add (hF8.fi (j := 15 + v.toNat) (by omega)) (hF8.fi hd1.1) hd1.2.2) (fun M10 N10 hq10 => ?_)
  obtain ⟨hI10, hw10, rfl⟩ := hq10
  have hF10 := hF8.upd hI10 hw10 (by omega)
  rw [up_eq, hj9, dA_congr h0 h1 ho1 hk8, fad_fz] at hF10
  have hf10 := hf8.tr hw10.ff
  refine go_aload_n dX1_reckonSum_90 rfl rfl ?_
  refine g1_9 dX1_reckonSum_91 ?_
  refine go_iload_n dX1_reckonSum_94 rfl ?_
  refine go_iconst dX1_reckonSum_95 (R32_lit rfl) ?_
  refine go_iast dX1_reckonSum_96 rfl (by omega) (by omega) ?_
  refine go_retv dX1_reckonSum_97 ?_
  refine ⟨⟨_, hF10.may, ?_, up_eq, fun j a b c => (up_ne c).trans (hk8 j a b c)⟩, ff_may hf10, rfl⟩
  rw [up_ne (by omega), up_ne (by omega), up_ne (by omega), up_eq]
