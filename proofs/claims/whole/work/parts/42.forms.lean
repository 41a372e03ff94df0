set_option maxRecDepth 100000 in
set_option maxHeartbeats 4000000 in
theorem ct_X1_addProduct {E : Ev} {M : Mm} {N : Nn} {f j ja jb : Nat} {φ : Nat → FV} {ν : Nu} {ma : Int → Int} {v : Int} (hF : FS M f φ ν ma) (hj : j < 39) (ha : ja < 39) (hb : jb < 39) (h34 : j ≠ 34) (hja : ja ≠ j) (hjb : jb ≠ j) (hlt : ν.1 < 63) : Ct E yX1_addProduct cX1_addProduct 5 (none) (rmH 3) [vr (7, f, 0), vr (15, f, j), vr (15, f, ja), vr (15, f, jb), vi v] M N (qv (fun M1 N1 => FS M1 f (va_up φ j (bfo ν (fma (φ j) (φ ja) (φ jb)) (w64 (fra (φ ja) * fra (φ jb))))) (bnu ν (w64 (fra (φ ja) * fra (φ jb))) v 1) ma ∧ Ff f M M1 ∧ N = N1)) := by
  refine ct_of (own := RX1) (L0 := [vr (7, f, 0), vr (15, f, j), vr (15, f, ja), vr (15, f, jb), vi v]) rfl (by decide +kernel) rfl rfl ?_
  refine go_aload_n dX1_addProduct_0 rfl rfl ?_
  refine go_aload_n dX1_addProduct_1 rfl rfl ?_
  refine go_aload_n dX1_addProduct_2 rfl rfl ?_
  refine g1_96 dX1_addProduct_3 ?_
  rw [(hF.fi ha).1]
  refine v1_150 dX1_addProduct_6 rfl ⟨rfl, rfl⟩ ⟨rfl, rfl⟩ (ct_X0_add (hF.fi hj) (hF.fi hb) hjb) (fun M1 N1 hq1 => ?_)
  obtain ⟨hI1, hw1, rfl⟩ := hq1
  have hF1 := hF.upd hI1 hw1 h34
  have ea : va_up φ j (fad (φ j) (φ ja).1 (φ jb)) ja = φ ja := up_ne hja
  have eb : va_up φ j (fad (φ j) (φ ja).1 (φ jb)) jb = φ jb := up_ne hjb
  refine go_aload_n dX1_addProduct_9 rfl rfl ?_
  refine go_aload_n dX1_addProduct_10 rfl rfl ?_
  refine go_aload_n dX1_addProduct_11 rfl rfl ?_
  refine g1_96 dX1_addProduct_12 ?_
  rw [(hF1.fi hb).1, eb]
  refine v1_161 dX1_addProduct_15 rfl ⟨rfl, rfl⟩ ⟨rfl, rfl⟩ (ct_X0_addNumbers (hF1.fi hj) (hF1.fi ha) hja) (fun M2 N2 hq2 => ?_)
  obtain ⟨hI2, hw2, rfl⟩ := hq2
  have hF2 := hF1.upd hI2 hw2 h34
  rw [up_eq, ea, fan_fma] at hF2
  have e2a : va_up (va_up φ j (fad (φ j) (φ ja).1 (φ jb))) j (fma (φ j) (φ ja) (φ jb)) = va_up φ j (fma (φ j) (φ ja) (φ jb)) := by
    funext i
    unfold va_up
    split <;> rfl
  rw [e2a] at hF2
  have e3 : va_up φ j (fma (φ j) (φ ja) (φ jb)) ja = φ ja := up_ne hja
  have e4 : va_up φ j (fma (φ j) (φ ja) (φ jb)) jb = φ jb := up_ne hjb
  have c3 := cr_radius (E := E) (N := N) (hF2.fi ha)
  have c4 := cr_radius (E := E) (N := N) (hF2.fi hb)
  rw [e3] at c3
  rw [e4] at c4
  refine go_aload_n dX1_addProduct_18 rfl rfl ?_
  refine go_aload_n dX1_addProduct_19 rfl rfl ?_
  refine go_aload_n dX1_addProduct_20 rfl rfl ?_
  refine v1_100 dX1_addProduct_21 rfl ⟨rfl, rfl⟩ ⟨rfl, rfl⟩ c3 (fun r3 M3 N3 hr3 hq3 => ?_)
  obtain ⟨rfl, rfl, rfl⟩ := hq3
  refine go_aload_n dX1_addProduct_24 rfl rfl ?_
  refine v1_100 dX1_addProduct_25 rfl ⟨rfl, rfl⟩ ⟨rfl, rfl⟩ c4 (fun r4 M4 N4 hr4 hq4 => ?_)
  obtain ⟨rfl, rfl, rfl⟩ := hq4
  refine go_lmul dX1_addProduct_28 ?_
  refine go_iload dX1_addProduct_29 rfl ?_
  refine go_iconst dX1_addProduct_31 (R32_lit rfl) ?_
  refine v1_92 dX1_addProduct_32 rfl ⟨rfl, rfl⟩ ⟨rfl, rfl⟩ (ct_X1_bring hF2 hj h34 hlt) (fun M5 N5 hq5 => ?_)
  obtain ⟨hF5, hf5, rfl⟩ := hq5
  rw [up_eq] at hF5
  have e5 : ∀ X, va_up (va_up φ j (fma (φ j) (φ ja) (φ jb))) j X = va_up φ j X := by
    intro X
    funext i
    unfold va_up
    split <;> rfl
  rw [e5] at hF5
  exact go_retv dX1_addProduct_35 ⟨hF5, ((hw1.ff).tr hw2.ff).tr hf5, rfl⟩
/-- the four noises of a product, one behind another -/
def pr1 (A B DA DB : FV) : Int := w64 (fra A * fra B)
def prV (ν : Nu) (A B : FV) : FV := bfo ν (fma (fnum 0) A B) (w64 (fra A * fra B))
def prN1 (ν : Nu) (A B : FV) (v : Int) : Nu := bnu ν (w64 (fra A * fra B)) v 1
def prD1 (ν : Nu) (A B DB : FV) (v : Int) : FV := bfo (prN1 ν A B v) (fma (fnum 0) A DB) (w64 (fra A * fra DB))
def prN2 (ν : Nu) (A B DB : FV) (v : Int) : Nu := bnu (prN1 ν A B v) (w64 (fra A * fra DB)) v 1
def prD2 (ν : Nu) (A B DA DB : FV) (v : Int) : FV := bfo (prN2 ν A B DB v) (fma (prD1 ν A B DB v) DA B) (w64 (fra DA * fra B))
def prN3 (ν : Nu) (A B DA DB : FV) (v : Int) : Nu := bnu (prN2 ν A B DB v) (w64 (fra DA * fra B)) v 1
def prD3 (ν : Nu) (A B DA DB : FV) (v : Int) : FV := bfo (prN3 ν A B DA DB v) (fma (prD2 ν A B DA DB v) DA DB) (w64 (fra DA * fra DB))
def prN4 (ν : Nu) (A B DA DB : FV) (v : Int) : Nu := bnu (prN3 ν A B DA DB v) (w64 (fra DA * fra DB)) v 1
theorem bnu_le {ν : Nu} {c v b : Int} : ν.1 ≤ (bnu ν c v b).1 ∧ (bnu ν c v b).1 ≤ ν.1 + 1 := by
  unfold bnu
  split
  · omega
  · show ν.1 ≤ ν.1 + 1 ∧ ν.1 + 1 ≤ ν.1 + 1; omega
set_option maxRecDepth 100000 in
set_option maxHeartbeats 4000000 in
theorem ct_X1_reckonProduct {E : Ev} {M : Mm} {N : Nn} {f p : Nat} {φ : Nat → FV} {ν : Nu} {ma : Int → Int} {v : Int} (hF : FS M f φ ν ma) (h0 : 0 ≤ v) (h1 : v < 15) (ho0 : pgC M p 8 (4 * v + 0) < v) (ho1 : pgC M p 8 (4 * v + 1) < v) (hlt : ν.1 + 4 ≤ 63) : Ct E yX1_reckonProduct cX1_reckonProduct 7 (none) (rmH 4) [vr (7, f, 0), vr (18, p, 0), vi v] M N (qv (fun M1 N1 => (∃ φ1, FS M1 f φ1 (prN4 ν (vA (pgC M p) φ v 0) (vA (pgC M p) φ v 1) (dA (pgC M p) φ v 0) (dA (pgC M p) φ v 1) v) (maU ma v 0) ∧ St v.toNat φ φ1 (prV ν (vA (pgC M p) φ v 0) (vA (pgC M p) φ v 1)) (prD3 ν (vA (pgC M p) φ v 0) (vA (pgC M p) φ v 1) (dA (pgC M p) φ v 0) (dA (pgC M p) φ v 1) v)) ∧ Ff f M M1 ∧ N = N1)) := by
  refine ct_of (own := RX1) (L0 := [vr (7, f, 0), vr (18, p, 0), vi v, vn, vn, vn, vn]) rfl (by decide +kernel) rfl rfl ?_
  have hv0 := vj_ok h0 h1 (by decide) (by decide) ho0
  have hv1 := vj_ok h0 h1 (by decide) (by decide) ho1
  have hd0 := dj_ok h0 h1 ho0
  have hd1 := dj_ok h0 h1 ho1
  refine go_aload_n dX1_reckonProduct_0 rfl rfl ?_
  refine go_aload_n dX1_reckonProduct_1 rfl rfl ?_
  refine go_iload_n dX1_reckonProduct_2 rfl ?_
  refine go_iconst dX1_reckonProduct_3 (R32_lit rfl) ?_
  refine v1_146 dX1_reckonProduct_4 rfl ⟨rfl, rfl⟩ ⟨rfl, rfl⟩ (ct_X1_valueIn hF h0 h1 (by decide) (by decide) (by omega)) (fun r1 M1 N1 hq1 => ?_)
  obtain ⟨e1, ⟨φ1, hF1, hlo1, hj1, hx1⟩, hf1, rfl⟩ := hq1
  subst e1
  have hp1 : pgC M1 p = pgC M p := hf1.pg
  refine go_ast3 dX1_reckonProduct_7 rfl rfl rfl ?_
  refine go_aload_n dX1_reckonProduct_8 rfl rfl ?_
  refine go_aload_n dX1_reckonProduct_9 rfl rfl ?_
  refine go_iload_n dX1_reckonProduct_10 rfl ?_
  refine go_iconst dX1_reckonProduct_11 (R32_lit rfl) ?_
  refine v1_146 dX1_reckonProduct_12 rfl ⟨rfl, rfl⟩ ⟨rfl, rfl⟩ (ct_X1_valueIn hF1 h0 h1 (by decide) (by decide) (by rw [hp1]; omega)) (fun r2 M2 N2 hq2 => ?_)
  obtain ⟨e2, ⟨φ2, hF2, hlo2, hj2, hx2⟩, hf2, rfl⟩ := hq2
  rw [hp1] at e2 hj2
  subst e2
  have hf2 := hf1.tr hf2
  have hp2 : pgC M2 p = pgC M p := hf2.pg
  have hk2 : ∀ j, j < 30 → φ2 j = φ j := fun j a => (hlo2 j a).trans (hlo1 j a)
  have hA2 : φ2 (vj (pgC M p) v 0) = vA (pgC M p) φ v 0 := by
    rw [← hj1]
    refine hx2 _ ?_
    unfold vj
    split
    · omega
    · decide
  have hB2 : φ2 (vj (pgC M p) v 1) = vA (pgC M p) φ v 1 := by
    rw [hj2]
    exact vA_congr h0 h1 ho1 (fun j a _ _ => hlo1 j a)
  refine go_ast4 dX1_reckonProduct_15 rfl rfl rfl ?_
  refine go_aload_n dX1_reckonProduct_17 rfl rfl ?_
  refine go_aload_n dX1_reckonProduct_18 rfl rfl ?_
  refine go_iload_n dX1_reckonProduct_19 rfl ?_
  refine go_iconst dX1_reckonProduct_20 (R32_lit rfl) ?_
  refine v1_154 dX1_reckonProduct_21 rfl ⟨rfl, rfl⟩ ⟨rfl, rfl⟩ (ct_X1_driftIn hF2 h0 h1 (by decide) (by decide) (by rw [hp2]; omega)) (fun r3 M3 N3 hq3 => ?_)
  obtain ⟨e3, hj3, rfl, rfl⟩ := hq3
  rw [hp2] at e3 hj3
  subst e3
  have hDA2 : φ2 (dj (pgC M p) v 0) = dA (pgC M p) φ v 0 := by
    rw [hj3]
    exact dA_congr h0 h1 ho0 (fun j a _ _ => hk2 j a)
  refine go_ast5 dX1_reckonProduct_24 rfl rfl rfl ?_
  refine go_aload_n dX1_reckonProduct_26 rfl rfl ?_
  refine go_aload_n dX1_reckonProduct_27 rfl rfl ?_
  refine go_iload_n dX1_reckonProduct_28 rfl ?_
  refine go_iconst dX1_reckonProduct_29 (R32_lit rfl) ?_
  refine v1_154 dX1_reckonProduct_30 rfl ⟨rfl, rfl⟩ ⟨rfl, rfl⟩ (ct_X1_driftIn hF2 h0 h1 (by decide) (by decide) (by rw [hp2]; omega)) (fun r4 M4 N4 hq4 => ?_)
  obtain ⟨e4, hj4, rfl, rfl⟩ := hq4
  rw [hp2] at e4 hj4
  subst e4
  have hDB2 : φ2 (dj (pgC M p) v 1) = dA (pgC M p) φ v 1 := by
    rw [hj4]
    exact dA_congr h0 h1 ho1 (fun j a _ _ => hk2 j a)
  generalize hAe : vA (pgC M p) φ v 0 = A at *
  generalize hBe : vA (pgC M p) φ v 1 = B at *
  generalize hDAe : dA (pgC M p) φ v 0 = DA at *
  generalize hDBe : dA (pgC M p) φ v 1 = DB at *
  generalize hn0 : vj (pgC M p) v 0 = n0 at *
  generalize hn1 : vj (pgC M p) v 1 = n1 at *
  generalize hm0 : dj (pgC M p) v 0 = m0 at *
  generalize hm1 : dj (pgC M p) v 1 = m1 at *
  refine go_ast6 dX1_reckonProduct_33 rfl rfl rfl ?_
  refine go_aload_n dX1_reckonProduct_35 rfl rfl ?_
  refine g1_23 dX1_reckonProduct_36 ?_
  refine go_iload_n dX1_reckonProduct_39 rfl ?_
  refine go_aaldV dX1_reckonProduct_40 (by omega) (by omega) ?_
  refine go_lconst (x := 0) dX1_reckonProduct_41 rfl ?_
  refine v1_136 dX1_reckonProduct_42 rfl ⟨rfl, rfl⟩ ⟨rfl, rfl⟩ (ct_X0_become (hF2.fi (j := v.toNat) (by omega))) (fun M5 N5 hq5 => ?_)
  obtain ⟨hI5, hw5, rfl⟩ := hq5
  have hF5 := hF2.upd hI5 hw5 (by omega)
  obtain ⟨φ5, e5⟩ : ∃ z, z = va_up φ2 v.toNat (fnum 0) := ⟨_, rfl⟩
  rw [← e5] at hF5
  have v5 : φ5 v.toNat = fnum 0 := by rw [e5, up_eq]
  have k5 : ∀ j, j ≠ v.toNat → φ5 j = φ2 j := fun j a => by rw [e5, up_ne a]
  have hf5 := hf2.tr hw5.ff
  refine go_aload_n dX1_reckonProduct_45 rfl rfl ?_
  refine go_aload_n dX1_reckonProduct_46 rfl rfl ?_
  refine g1_23 dX1_reckonProduct_47 ?_
  refine go_iload_n dX1_reckonProduct_50 rfl ?_
  refine go_aaldV dX1_reckonProduct_51 (by omega) (by omega) ?_
  refine go_aload_n dX1_reckonProduct_52 rfl rfl ?_
  refine go_aload dX1_reckonProduct_53 rfl rfl ?_
  refine go_iload_n dX1_reckonProduct_55 rfl ?_
  refine v1_157 dX1_reckonProduct_56 rfl ⟨rfl, rfl⟩ ⟨rfl, rfl⟩ (ct_X1_addProduct hF5 (j := v.toNat) (by omega) (by omega) (by omega) (by omega) hv0.2.1 hv1.2.1 (by omega)) (fun M6 N6 hq6 => ?_)
  obtain ⟨hF6, hf6, rfl⟩ := hq6
  rw [v5, k5 n0 hv0.2.1, k5 n1 hv1.2.1, hA2, hB2] at hF6
  obtain ⟨φ6, e6⟩ : ∃ z, z = va_up φ5 v.toNat (prV ν A B) := ⟨_, rfl⟩
  have hF6 : FS M6 f φ6 (prN1 ν A B v) ma := by rw [e6]; exact hF6
  have v6 : φ6 v.toNat = prV ν A B := by rw [e6, up_eq]
  have k6 : ∀ j, j ≠ v.toNat → φ6 j = φ2 j := fun j a => by rw [e6, up_ne a, k5 j a]
  have b1 : (prN1 ν A B v).1 ≤ ν.1 + 1 := bnu_le.2
  have hf6 := hf5.tr hf6
  refine go_aload_n dX1_reckonProduct_59 rfl rfl ?_
  refine g1_27 dX1_reckonProduct_60 ?_
  refine go_iload_n dX1_reckonProduct_63 rfl ?_
  refine go_aaldD dX1_reckonProduct_64 (by omega) (by omega) ?_
  refine go_lconst (x := 0) dX1_reckonProduct_65 rfl ?_
  refine v1_136 dX1_reckonProduct_66 rfl ⟨rfl, rfl⟩ ⟨rfl, rfl⟩ (ct_X0_become (hF6.fi (j := 15 + v.toNat) (by omega))) (fun M7 N7 hq7 => ?_)
  obtain ⟨hI7, hw7, rfl⟩ := hq7
  have hF7 := hF6.upd hI7 hw7 (by omega)
  obtain ⟨φ7, e7⟩ : ∃ z, z = va_up φ6 (15 + v.toNat) (fnum 0) := ⟨_, rfl⟩
  rw [← e7] at hF7
  have v7 : φ7 v.toNat = prV ν A B := by rw [e7, up_ne (by omega), v6]
  have d7 : φ7 (15 + v.toNat) = fnum 0 := by rw [e7, up_eq]
  have k7 : ∀ j, j ≠ v.toNat → j ≠ 15 + v.toNat → φ7 j = φ2 j := fun j a b => by rw [e7, up_ne b, k6 j a]
  have hf7 := hf6.tr hw7.ff
  refine go_aload_n dX1_reckonProduct_69 rfl rfl ?_
  refine go_aload_n dX1_reckonProduct_70 rfl rfl ?_
  refine g1_27 dX1_reckonProduct_71 ?_
  refine go_iload_n dX1_reckonProduct_74 rfl ?_
  refine go_aaldD dX1_reckonProduct_75 (by omega) (by omega) ?_
  refine go_aload_n dX1_reckonProduct_76 rfl rfl ?_
  refine go_aload dX1_reckonProduct_77 rfl rfl ?_
  refine go_iload_n dX1_reckonProduct_79 rfl ?_
  refine v1_157 dX1_reckonProduct_80 rfl ⟨rfl, rfl⟩ ⟨rfl, rfl⟩ (ct_X1_addProduct hF7 (j := 15 + v.toNat) (by omega) (by omega) (by omega) (by omega) hv0.2.2 hd1.2.2 (by omega)) (fun M8 N8 hq8 => ?_)
  obtain ⟨hF8, hf8, rfl⟩ := hq8
  rw [d7, k7 n0 hv0.2.1 hv0.2.2, k7 m1 hd1.2.1 hd1.2.2, hA2, hDB2] at hF8
  obtain ⟨φ8, e8⟩ : ∃ z, z = va_up φ7 (15 + v.toNat) (prD1 ν A B DB v) := ⟨_, rfl⟩
  have hF8 : FS M8 f φ8 (prN2 ν A B DB v) ma := by rw [e8]; exact hF8
  have v8 : φ8 v.toNat = prV ν A B := by rw [e8, up_ne (by omega), v7]
  have d8 : φ8 (15 + v.toNat) = prD1 ν A B DB v := by rw [e8, up_eq]
  have k8 : ∀ j, j ≠ v.toNat → j ≠ 15 + v.toNat → φ8 j = φ2 j := fun j a b => by rw [e8, up_ne b, k7 j a b]
  have bb8 : (prN2 ν A B DB v).1 ≤ (prN1 ν A B v).1 + 1 := bnu_le.2
  have hf8 := hf7.tr hf8
  refine go_aload_n dX1_reckonProduct_83 rfl rfl ?_
  refine go_aload_n dX1_reckonProduct_84 rfl rfl ?_
  refine g1_27 dX1_reckonProduct_85 ?_
  refine go_iload_n dX1_reckonProduct_88 rfl ?_
  refine go_aaldD dX1_reckonProduct_89 (by omega) (by omega) ?_
  refine go_aload dX1_reckonProduct_90 rfl rfl ?_
  refine go_aload dX1_reckonProduct_92 rfl rfl ?_
  refine go_iload_n dX1_reckonProduct_94 rfl ?_
  refine v1_157 dX1_reckonProduct_95 rfl ⟨rfl, rfl⟩ ⟨rfl, rfl⟩ (ct_X1_addProduct hF8 (j := 15 + v.toNat) (by omega) (by omega) (by omega) (by omega) hd0.2.2 hv1.2.2 (by omega)) (fun M9 N9 hq9 => ?_)
  obtain ⟨hF9, hf9, rfl⟩ := hq9
  rw [d8, k8 m0 hd0.2.1 hd0.2.2, k8 n1 hv1.2.1 hv1.2.2, hDA2, hB2] at hF9
  obtain ⟨φ9, e9⟩ : ∃ z, z = va_up φ8 (15 + v.toNat) (prD2 ν A B DA DB v) := ⟨_, rfl⟩
  have hF9 : FS M9 f φ9 (prN3 ν A B DA DB v) ma := by rw [e9]; exact hF9
  have v9 : φ9 v.toNat = prV ν A B := by rw [e9, up_ne (by omega), v8]
  have d9 : φ9 (15 + v.toNat) = prD2 ν A B DA DB v := by rw [e9, up_eq]
  have k9 : ∀ j, j ≠ v.toNat → j ≠ 15 + v.toNat → φ9 j = φ2 j := fun j a b => by rw [e9, up_ne b, k8 j a b]
  have bb9 : (prN3 ν A B DA DB v).1 ≤ (prN2 ν A B DB v).1 + 1 := bnu_le.2
  have hf9 := hf8.tr hf9
  refine go_aload_n dX1_reckonProduct_98 rfl rfl ?_
  refine go_aload_n dX1_reckonProduct_99 rfl rfl ?_
  refine g1_27 dX1_reckonProduct_100 ?_
  refine go_iload_n dX1_reckonProduct_103 rfl ?_
  refine go_aaldD dX1_reckonProduct_104 (by omega) (by omega) ?_
  refine go_aload dX1_reckonProduct_105 rfl rfl ?_
  refine go_aload dX1_reckonProduct_107 rfl rfl ?_
  refine go_iload_n dX1_reckonProduct_109 rfl ?_
  refine v1_157 dX1_reckonProduct_110 rfl ⟨rfl, rfl⟩ ⟨rfl, rfl⟩ (ct_X1_addProduct hF9 (j := 15 + v.toNat) (by omega) (by omega) (by omega) (by omega) hd0.2.2 hd1.2.2 (by omega)) (fun M10 N10 hq10 => ?_)
  obtain ⟨hF10, hf10, rfl⟩ := hq10
  rw [d9, k9 m0 hd0.2.1 hd0.2.2, k9 m1 hd1.2.1 hd1.2.2, hDA2, hDB2] at hF10
  obtain ⟨φ10, e10⟩ : ∃ z, z = va_up φ9 (15 + v.toNat) (prD3 ν A B DA DB v) := ⟨_, rfl⟩
  have hF10 : FS M10 f φ10 (prN4 ν A B DA DB v) ma := by rw [e10]; exact hF10
  have v10 : φ10 v.toNat = prV ν A B := by rw [e10, up_ne (by omega), v9]
  have d10 : φ10 (15 + v.toNat) = prD3 ν A B DA DB v := by rw [e10, up_eq]
  have k10 : ∀ j, j ≠ v.toNat → j ≠ 15 + v.toNat → φ10 j = φ2 j := fun j a b => by rw [e10, up_ne b, k9 j a b]
  have bb10 : (prN4 ν A B DA DB v).1 ≤ (prN3 ν A B DA DB v).1 + 1 := bnu_le.2
  have hf10 := hf9.tr hf10
  refine go_aload_n dX1_reckonProduct_113 rfl rfl ?_
  refine g1_9 dX1_reckonProduct_114 ?_
  refine go_iload_n dX1_reckonProduct_117 rfl ?_
  refine go_iconst dX1_reckonProduct_118 (R32_lit rfl) ?_
  refine go_iast dX1_reckonProduct_119 rfl (by omega) (by omega) ?_
  refine go_retv dX1_reckonProduct_120 ?_
  refine ⟨⟨φ10, hF10.may, v10, d10, fun j a b c => (k10 j b c).trans (hk2 j a)⟩, ff_may hf10, rfl⟩
