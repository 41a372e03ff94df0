theorem FS.rg {M : Mm} {N : Nn} {f : Nat} {φ : Nat → FV} {ν : Nu} {ma : Int → Int} (h : FS M f φ ν ma) (hR : Rg M N) {j : Nat} (hj : j < 39) : R64 (φ j).1 ∧ ∀ i, R64 ((φ j).2 i) := by
  have hI := h.fi hj
  refine ⟨by rw [← hI.1]; exact hR.mid f j, fun i => ?_⟩
  by_cases h0 : i < 0
  · rw [hI.2.2.2.2.2 i h0]; exact R64_lit rfl
  · by_cases h1 : i < 63
    · rw [← hI.2.2.2.1 i (by omega) h1]; exact hR.num f j (by omega)
    · rw [hI.2.2.2.2.1 i (by have := hI.2.2.1; omega)]; exact R64_lit rfl
theorem fad_0 {a : FV} (h : R64 a.1 ∧ ∀ i, R64 (a.2 i)) : fad (fnum 0) 1 a = a := by
  unfold fad fnum
  refine Prod.ext ?_ (funext fun i => ?_)
  · show w64 (0 + 1 * a.1) = a.1
    rw [Int.zero_add, Int.one_mul, w64_id h.1]
  · show w64 (0 + 1 * a.2 i) = a.2 i
    rw [Int.zero_add, Int.one_mul, w64_id (h.2 i)]
def b2 (c : Prop) [Decidable c] (k : Int) : Int := if c then k else 0
/-- the may bits of a test T with its drift U -/
def wyS (T U : FV) : Int := b2 (flo T < 0) 1 + b2 (0 ≤ fhi T) 2 + b2 (w64 (flo T + flo U) < 0) 4 + b2 (0 ≤ w64 (fhi T + fhi U)) 8 + b2 (max (flo T) (w64 (-(fhi U))) ≤ min (fhi T) (-1)) 16 + b2 (max (flo T) 0 ≤ min (fhi T) (w64 (w64 (-(flo U)) - 1))) 32
theorem ior_1 : ∀ a : Fin 1, ior ((a : Nat) : Int) 1 = ((a : Nat) : Int) + 1 := by decide +kernel
theorem ior_2 : ∀ a : Fin 2, ior ((a : Nat) : Int) 2 = ((a : Nat) : Int) + 2 := by decide +kernel
theorem ior_4 : ∀ a : Fin 4, ior ((a : Nat) : Int) 4 = ((a : Nat) : Int) + 4 := by decide +kernel
theorem ior_8 : ∀ a : Fin 8, ior ((a : Nat) : Int) 8 = ((a : Nat) : Int) + 8 := by decide +kernel
theorem ior_16 : ∀ a : Fin 16, ior ((a : Nat) : Int) 16 = ((a : Nat) : Int) + 16 := by decide +kernel
theorem ior_32 : ∀ a : Fin 32, ior ((a : Nat) : Int) 32 = ((a : Nat) : Int) + 32 := by decide +kernel
theorem ior_0 : ∀ a : Fin 64, ior ((a : Nat) : Int) 0 = ((a : Nat) : Int) := by decide +kernel
theorem ior_b {a k x : Int} {n : Nat} (hn : n ≤ 64) (h : ∀ b : Fin n, ior ((b : Nat) : Int) k = ((b : Nat) : Int) + k) (h0 : 0 ≤ a) (h1 : a < n) (hx : x = 0 ∨ x = k) : ior a x = a + x := by
  have e : ((a.toNat : Nat) : Int) = a := Int.toNat_of_nonneg h0
  rcases hx with rfl | rfl
  · have := ior_0 ⟨a.toNat, by omega⟩
    rw [show (((⟨a.toNat, by omega⟩ : Fin 64) : Nat) : Int) = a from e] at this
    rw [this, Int.add_zero]
  · have := h ⟨a.toNat, by omega⟩
    rw [show (((⟨a.toNat, by omega⟩ : Fin n) : Nat) : Int) = a from e] at this
    exact this
theorem b2_c {c : Prop} [Decidable c] {k : Int} : b2 c k = 0 ∨ b2 c k = k := by
  unfold b2
  split
  · exact Or.inr rfl
  · exact Or.inl rfl
set_option maxRecDepth 100000 in
set_option maxHeartbeats 4000000 in
theorem ct_X1_waysOf {E : Ev} {M : Mm} {N : Nn} {f p : Nat} {φ : Nat → FV} {ν : Nu} {ma : Int → Int} {v : Int} (hF : FS M f φ ν ma) (h0 : 0 ≤ v) (h1 : v < 15) (ho0 : pgC M p 8 (4 * v + 0) < v) (ho1 : pgC M p 8 (4 * v + 1) < v) : Ct E yX1_waysOf cX1_waysOf 12 ((some .int)) (rmH 4) [vr (7, f, 0), vr (18, p, 0), vi v] M N (qi (fun r M1 N1 => r = wyS (fad (vA (pgC M p) φ v 0) (-1) (vA (pgC M p) φ v 1)) (fad (dA (pgC M p) φ v 0) (-1) (dA (pgC M p) φ v 1)) ∧ (∃ φ1, FS M1 f φ1 ν ma ∧ Lo φ φ1) ∧ Ff f M M1 ∧ N = N1)) := by
  refine ct_of (own := RX1) (L0 := [vr (7, f, 0), vr (18, p, 0), vi v, vn, vn, vn, vn, vn, vn, vn, vn, vn]) rfl (by decide +kernel) rfl rfl ?_
  have hv0 := vj_ok h0 h1 (by decide) (by decide) ho0
  have hv1 := vj_ok h0 h1 (by decide) (by decide) ho1
  have hd0 := dj_ok h0 h1 ho0
  have hd1 := dj_ok h0 h1 ho1
  have hdx0 : dj (pgC M p) v 0 < 35 := by unfold dj; split <;> omega
  have hdx1 : dj (pgC M p) v 1 < 35 := by unfold dj; split <;> omega
  refine go_aload_n dX1_waysOf_0 rfl rfl ?_
  refine g1_38 dX1_waysOf_1 ?_
  refine go_lconst (x := 0) dX1_waysOf_4 rfl ?_
  refine v1_136 dX1_waysOf_5 rfl ⟨rfl, rfl⟩ ⟨rfl, rfl⟩ (ct_X0_become (hF.fi (j := 35) (by decide))) (fun M1 N1 hq1 => ?_)
  obtain ⟨hI1, hw1, rfl⟩ := hq1
  have hF1 := hF.upd hI1 hw1 (by decide)
  have hf1 : Ff f M M1 := hw1.ff
  have hp1 : pgC M1 p = pgC M p := hf1.pg
  refine go_aload_n dX1_waysOf_8 rfl rfl ?_
  refine g1_38 dX1_waysOf_9 ?_
  refine go_aload_n dX1_waysOf_12 rfl rfl ?_
  refine go_aload_n dX1_waysOf_13 rfl rfl ?_
  refine go_iload_n dX1_waysOf_14 rfl ?_
  refine go_iconst dX1_waysOf_15 (R32_lit rfl) ?_
  refine v1_146 dX1_waysOf_16 rfl ⟨rfl, rfl⟩ ⟨rfl, rfl⟩ (ct_X1_valueIn hF1 h0 h1 (by decide) (by decide) (by rw [hp1]; omega)) (fun r2 M2 N2 hq2 => ?_)
  obtain ⟨e2, ⟨φ2, hF2, hlo2, hj2, hx2⟩, hf2, rfl⟩ := hq2
  rw [hp1] at e2 hj2
  subst e2
  rw [vA_congr h0 h1 ho0 (fun j a _ _ => up_ne (by omega))] at hj2
  have t2 : φ2 35 = fnum 0 := by rw [hx2 35 (by decide), up_eq]
  have k2 : ∀ j, j < 30 → φ2 j = φ j := fun j a => by rw [hlo2 j a, up_ne (by omega)]
  refine go_lconst (x := 1) dX1_waysOf_19 rfl ?_
  refine v1_150 dX1_waysOf_20 rfl ⟨rfl, rfl⟩ ⟨rfl, rfl⟩ (ct_X0_add (hF2.fi (j := 35) (by decide)) (hF2.fi (by omega)) (by omega)) (fun M3 N3 hq3 => ?_)
  obtain ⟨hI3, hw3, rfl⟩ := hq3
  have hF3 := hF2.upd hI3 hw3 (by decide)
  rw [t2, hj2] at hF3
  have hf3 := (hf1.tr hf2).tr hw3.ff
  have hp3 : pgC M3 p = pgC M p := hf3.pg
  refine go_aload_n dX1_waysOf_23 rfl rfl ?_
  refine g1_38 dX1_waysOf_24 ?_
  refine go_aload_n dX1_waysOf_27 rfl rfl ?_
  refine go_aload_n dX1_waysOf_28 rfl rfl ?_
  refine go_iload_n dX1_waysOf_29 rfl ?_
  refine go_iconst dX1_waysOf_30 (R32_lit rfl) ?_
  refine v1_146 dX1_waysOf_31 rfl ⟨rfl, rfl⟩ ⟨rfl, rfl⟩ (ct_X1_valueIn hF3 h0 h1 (by decide) (by decide) (by rw [hp3]; omega)) (fun r4 M4 N4 hq4 => ?_)
  obtain ⟨e4, ⟨φ4, hF4, hlo4, hj4, hx4⟩, hf4, rfl⟩ := hq4
  rw [hp3] at e4 hj4
  subst e4
  rw [vA_congr h0 h1 ho1 (fun j a _ _ => (up_ne (by omega)).trans (k2 j a))] at hj4
  have t4 : φ4 35 = fad (fnum 0) 1 (vA (pgC M p) φ v 0) := by rw [hx4 35 (by decide), up_eq]
  have k4 : ∀ j, j < 30 → φ4 j = φ j := fun j a => by rw [hlo4 j a, up_ne (by omega), k2 j a]
  refine c1_183 dX1_waysOf_34 ?_
  refine v1_150 dX1_waysOf_37 rfl ⟨rfl, rfl⟩ ⟨rfl, rfl⟩ (ct_X0_add (hF4.fi (j := 35) (by decide)) (hF4.fi (by omega)) (by omega)) (fun M5 N5 hq5 => ?_)
  obtain ⟨hI5, hw5, rfl⟩ := hq5
  have hF5 := hF4.upd hI5 hw5 (by decide)
  rw [t4, hj4, fad_fz] at hF5
  have hf5 := (hf3.tr hf4).tr hw5.ff
  refine go_aload_n dX1_waysOf_40 rfl rfl ?_
  refine g1_41 dX1_waysOf_41 ?_
  refine go_lconst (x := 0) dX1_waysOf_44 rfl ?_
  refine v1_136 dX1_waysOf_45 rfl ⟨rfl, rfl⟩ ⟨rfl, rfl⟩ (ct_X0_become (hF5.fi (j := 36) (by decide))) (fun M6 N6 hq6 => ?_)
  obtain ⟨hI6, hw6, rfl⟩ := hq6
  have hF6 := hF5.upd hI6 hw6 (by decide)
  obtain ⟨φ6, e6⟩ : ∃ z, z = va_up (va_up φ4 35 (fad (vA (pgC M p) φ v 0) (-1) (vA (pgC M p) φ v 1))) 36 (fnum 0) := ⟨_, rfl⟩
  rw [← e6] at hF6
  have t6 : φ6 35 = (fad (vA (pgC M p) φ v 0) (-1) (vA (pgC M p) φ v 1)) := by rw [e6, up_ne (by decide), up_eq]
  have u6 : φ6 36 = fnum 0 := by rw [e6, up_eq]
  have k6 : ∀ j, j < 30 → φ6 j = φ j := fun j a => by rw [e6, up_ne (by omega), up_ne (by omega), k4 j a]
  have hf6 := hf5.tr hw6.ff
  have hp6 : pgC M6 p = pgC M p := hf6.pg
  refine go_aload_n dX1_waysOf_48 rfl rfl ?_
  refine g1_41 dX1_waysOf_49 ?_
  refine go_aload_n dX1_waysOf_52 rfl rfl ?_
  refine go_aload_n dX1_waysOf_53 rfl rfl ?_
  refine go_iload_n dX1_waysOf_54 rfl ?_
  refine go_iconst dX1_waysOf_55 (R32_lit rfl) ?_
  refine v1_154 dX1_waysOf_56 rfl ⟨rfl, rfl⟩ ⟨rfl, rfl⟩ (ct_X1_driftIn hF6 h0 h1 (by decide) (by decide) (by rw [hp6]; omega)) (fun r7 M7 N7 hq7 => ?_)
  obtain ⟨e7, hj7, rfl, rfl⟩ := hq7
  rw [hp6] at e7 hj7
  subst e7
  rw [dA_congr h0 h1 ho0 (fun j a _ _ => k6 j a)] at hj7
  refine go_lconst (x := 1) dX1_waysOf_59 rfl ?_
  refine v1_150 dX1_waysOf_60 rfl ⟨rfl, rfl⟩ ⟨rfl, rfl⟩ (ct_X0_add (hF6.fi (j := 36) (by decide)) (hF6.fi (by omega)) (by omega)) (fun M8 N8 hq8 => ?_)
  obtain ⟨hI8, hw8, rfl⟩ := hq8
  have hF8 := hF6.upd hI8 hw8 (by decide)
  rw [u6, hj7] at hF8
  have hf8 := hf6.tr hw8.ff
  have hp8 : pgC M8 p = pgC M p := hf8.pg
  have k8 : ∀ j, j < 30 → va_up φ6 36 (fad (fnum 0) 1 (dA (pgC M p) φ v 0)) j = φ j := fun j a => by rw [up_ne (by omega), k6 j a]
  refine go_aload_n dX1_waysOf_63 rfl rfl ?_
  refine g1_41 dX1_waysOf_64 ?_
  refine go_aload_n dX1_waysOf_67 rfl rfl ?_
  refine go_aload_n dX1_waysOf_68 rfl rfl ?_
  refine go_iload_n dX1_waysOf_69 rfl ?_
  refine go_iconst dX1_waysOf_70 (R32_lit rfl) ?_
  refine v1_154 dX1_waysOf_71 rfl ⟨rfl, rfl⟩ ⟨rfl, rfl⟩ (ct_X1_driftIn hF8 h0 h1 (by decide) (by decide) (by rw [hp8]; omega)) (fun r9 M9 N9 hq9 => ?_)
  obtain ⟨e9, hj9, rfl, rfl⟩ := hq9
  rw [hp8] at e9 hj9
  subst e9
  rw [dA_congr h0 h1 ho1 (fun j a _ _ => k8 j a)] at hj9
  refine c1_183 dX1_waysOf_74 ?_
  refine v1_150 dX1_waysOf_77 rfl ⟨rfl, rfl⟩ ⟨rfl, rfl⟩ (ct_X0_add (hF8.fi (j := 36) (by decide)) (hF8.fi (by omega)) (by omega)) (fun M10 N10 hq10 => ?_)
  obtain ⟨hI10, hw10, rfl⟩ := hq10
  have hF10 := hF8.upd hI10 hw10 (by decide)
  rw [up_eq, hj9, fad_fz] at hF10
  obtain ⟨φ10, e10⟩ : ∃ z, z = va_up (va_up φ6 36 (fad (fnum 0) 1 (dA (pgC M p) φ v 0))) 36 (fad (dA (pgC M p) φ v 0) (-1) (dA (pgC M p) φ v 1)) := ⟨_, rfl⟩
  rw [← e10] at hF10
  have t10 : φ10 35 = (fad (vA (pgC M p) φ v 0) (-1) (vA (pgC M p) φ v 1)) := by rw [e10, up_ne (by decide), up_ne (by decide), t6]
  have u10 : φ10 36 = (fad (dA (pgC M p) φ v 0) (-1) (dA (pgC M p) φ v 1)) := by rw [e10, up_eq]
  have k10 : ∀ j, j < 30 → φ10 j = φ j := fun j a => by rw [e10, up_ne (by omega), k8 j a]
  have hf10 := hf8.tr hw10.ff
  have cT := hF10.fi (j := 35) (by decide)
  have cU := hF10.fi (j := 36) (by decide)
  rw [t10] at cT
  rw [u10] at cU
  clear e10
  generalize hTe : (fad (vA (pgC M p) φ v 0) (-1) (vA (pgC M p) φ v 1)) = T at *
  generalize hUe : (fad (dA (pgC M p) φ v 0) (-1) (dA (pgC M p) φ v 1)) = U at *
  refine go_aload_n dX1_waysOf_80 rfl rfl ?_
  refine g1_38 dX1_waysOf_81 ?_
  refine v1_185 dX1_waysOf_84 rfl ⟨rfl, rfl⟩ ⟨rfl, rfl⟩ (ct_X0_least cT) (fun r11 M11 N11 hr11 hq11 => ?_)
  obtain ⟨rfl, rfl, rfl⟩ := hq11
  refine go_lst3 dX1_waysOf_87 rfl rfl ?_
  refine go_aload_n dX1_waysOf_88 rfl rfl ?_
  refine g1_38 dX1_waysOf_89 ?_
  refine v1_188 dX1_waysOf_92 rfl ⟨rfl, rfl⟩ ⟨rfl, rfl⟩ (ct_X0_greatest cT) (fun r12 M12 N12 hr12 hq12 => ?_)
  obtain ⟨rfl, rfl, rfl⟩ := hq12
  refine go_lst5 dX1_waysOf_95 rfl rfl ?_
  refine go_aload_n dX1_waysOf_97 rfl rfl ?_
  refine g1_41 dX1_waysOf_98 ?_
  refine v1_185 dX1_waysOf_101 rfl ⟨rfl, rfl⟩ ⟨rfl, rfl⟩ (ct_X0_least cU) (fun r13 M13 N13 hr13 hq13 => ?_)
  obtain ⟨rfl, rfl, rfl⟩ := hq13
  refine go_lst7 dX1_waysOf_104 rfl rfl ?_
  refine go_aload_n dX1_waysOf_106 rfl rfl ?_
  refine g1_41 dX1_waysOf_107 ?_
  refine v1_188 dX1_waysOf_110 rfl ⟨rfl, rfl⟩ ⟨rfl, rfl⟩ (ct_X0_greatest cU) (fun r14 M14 N14 hr14 hq14 => ?_)
  obtain ⟨rfl, rfl, rfl⟩ := hq14
  refine go_lst9 dX1_waysOf_113 rfl rfl ?_
  refine go_iconst dX1_waysOf_115 (R32_lit rfl) ?_
  refine go_nmi (fun acc0 ea0 => ?_)
  have hb0 : 0 ≤ acc0 ∧ acc0 < 1 := by omega
  refine go_ist11 dX1_waysOf_116 rfl rfl ?_
  refine go_iload dX1_waysOf_118 rfl ?_
  refine go_lload_n dX1_waysOf_120 rfl ?_
  refine go_lconst (x := 0) dX1_waysOf_121 rfl ?_
  have jn131 : ∀ x : Int, x = (b2 (flo T < 0) 1) → Go E RX1 cX1_waysOf 12 ((some .int)) (rmH 4) 0 0 (zM E (qi (fun r M1 N1 => r = wyS T U ∧ (∃ φ1, FS M1 f φ1 ν ma ∧ Lo φ φ1) ∧ Ff f M M1 ∧ N = N1))) 131 [vr (7, f, 0), vr (18, p, 0), vi v, vl (flo T), vn, vl (fhi T), vn, vl (flo U), vn, vl (fhi U), vn, vi acc0] [vi x, vi acc0] M10 N := by
    intro x ex
    refine go_ior dX1_waysOf_131 ?_
    rw [ior_b (n := 1) (by decide) ior_1 (by omega) (by omega) (by rw [ex]; exact b2_c)]
    refine go_nmi (fun acc1 ea1 => ?_)
    have hb1 : 0 ≤ acc1 ∧ acc1 < 2 := by
      have := b2_c (c := flo T < 0) (k := 1)
      omega
    rw [ex] at ea1
    clear ex
    refine go_ist11 dX1_waysOf_132 rfl rfl ?_
    refine go_iload dX1_waysOf_134 rfl ?_
    refine go_lload dX1_waysOf_136 rfl ?_
    refine go_lconst (x := 0) dX1_waysOf_138 rfl ?_
    have jn148 : ∀ x : Int, x = (b2 (0 ≤ fhi T) 2) → Go E RX1 cX1_waysOf 12 ((some .int)) (rmH 4) 0 0 (zM E (qi (fun r M1 N1 => r = wyS T U ∧ (∃ φ1, FS M1 f φ1 ν ma ∧ Lo φ φ1) ∧ Ff f M M1 ∧ N = N1))) 148 [vr (7, f, 0), vr (18, p, 0), vi v, vl (flo T), vn, vl (fhi T), vn, vl (flo U), vn, vl (fhi U), vn, vi acc1] [vi x, vi acc1] M10 N := by
      intro x ex
      refine go_ior dX1_waysOf_148 ?_
      rw [ior_b (n := 2) (by decide) ior_2 (by omega) (by omega) (by rw [ex]; exact b2_c)]
      refine go_nmi (fun acc2 ea2 => ?_)
      have hb2 : 0 ≤ acc2 ∧ acc2 < 4 := by
        have := b2_c (c := 0 ≤ fhi T) (k := 2)
        omega
      rw [ex] at ea2
      clear ex
      refine go_ist11 dX1_waysOf_149 rfl rfl ?_
      refine go_iload dX1_waysOf_151 rfl ?_
      refine go_lload_n dX1_waysOf_153 rfl ?_
      refine go_lload dX1_waysOf_154 rfl ?_
      refine go_ladd dX1_waysOf_156 ?_
      refine go_lconst (x := 0) dX1_waysOf_157 rfl ?_
      have jn167 : ∀ x : Int, x = (b2 (w64 (flo T + flo U) < 0) 4) → Go E RX1 cX1_waysOf 12 ((some .int)) (rmH 4) 0 0 (zM E (qi (fun r M1 N1 => r = wyS T U ∧ (∃ φ1, FS M1 f φ1 ν ma ∧ Lo φ φ1) ∧ Ff f M M1 ∧ N = N1))) 167 [vr (7, f, 0), vr (18, p, 0), vi v, vl (flo T), vn, vl (fhi T), vn, vl (flo U), vn, vl (fhi U), vn, vi acc2] [vi x, vi acc2] M10 N := by
        intro x ex
        refine go_ior dX1_waysOf_167 ?_
        rw [ior_b (n := 4) (by decide) ior_4 (by omega) (by omega) (by rw [ex]; exact b2_c)]
        refine go_nmi (fun acc3 ea3 => ?_)
        have hb3 : 0 ≤ acc3 ∧ acc3 < 8 := by
          have := b2_c (c := w64 (flo T + flo U) < 0) (k := 4)
          omega
        rw [ex] at ea3
        clear ex
        refine go_ist11 dX1_waysOf_168 rfl rfl ?_
        refine go_iload dX1_waysOf_170 rfl ?_
        refine go_lload dX1_waysOf_172 rfl ?_
        refine go_lload dX1_waysOf_174 rfl ?_
        refine go_ladd dX1_waysOf_176 ?_
        refine go_lconst (x := 0) dX1_waysOf_177 rfl ?_
        have jn188 : ∀ x : Int, x = (b2 (0 ≤ w64 (fhi T + fhi U)) 8) → Go E RX1 cX1_waysOf 12 ((some .int)) (rmH 4) 0 0 (zM E (qi (fun r M1 N1 => r = wyS T U ∧ (∃ φ1, FS M1 f φ1 ν ma ∧ Lo φ φ1) ∧ Ff f M M1 ∧ N = N1))) 188 [vr (7, f, 0), vr (18, p, 0), vi v, vl (flo T), vn, vl (fhi T), vn, vl (flo U), vn, vl (fhi U), vn, vi acc3] [vi x, vi acc3] M10 N := by
          intro x ex
          refine go_ior dX1_waysOf_188 ?_
          rw [ior_b (n := 8) (by decide) ior_8 (by omega) (by omega) (by rw [ex]; exact b2_c)]
          refine go_nmi (fun acc4 ea4 => ?_)
          have hb4 : 0 ≤ acc4 ∧ acc4 < 16 := by
            have := b2_c (c := 0 ≤ w64 (fhi T + fhi U)) (k := 8)
            omega
          rw [ex] at ea4
          clear ex
          refine go_ist11 dX1_waysOf_189 rfl rfl ?_
          refine go_iload dX1_waysOf_191 rfl ?_
          refine go_lload_n dX1_waysOf_193 rfl ?_
          refine go_lload dX1_waysOf_194 rfl ?_
          refine go_lneg dX1_waysOf_196 ?_
          refine v1_191 dX1_waysOf_197 rfl ⟨rfl, rfl⟩ ⟨rfl, rfl⟩ ct_J9_max_f86c9 (fun r15 M15 N15 hr15 hq15 => ?_)
          obtain ⟨ez1, rfl, rfl⟩ := hq15
          refine go_lload dX1_waysOf_200 rfl ?_
          refine c1_183 dX1_waysOf_202 ?_
          refine v1_195 dX1_waysOf_205 rfl ⟨rfl, rfl⟩ ⟨rfl, rfl⟩ ct_J9_min_f86c9 (fun r16 M16 N16 hr16 hq16 => ?_)
          obtain ⟨ez2, rfl, rfl⟩ := hq16
          have jn218 : ∀ x : Int, x = (b2 (max (flo T) (w64 (-(fhi U))) ≤ min (fhi T) (-1)) 16) → Go E RX1 cX1_waysOf 12 ((some .int)) (rmH 4) 0 0 (zM E (qi (fun r M1 N1 => r = wyS T U ∧ (∃ φ1, FS M1 f φ1 ν ma ∧ Lo φ φ1) ∧ Ff f M M1 ∧ N = N1))) 218 [vr (7, f, 0), vr (18, p, 0), vi v, vl (flo T), vn, vl (fhi T), vn, vl (flo U), vn, vl (fhi U), vn, vi acc4] [vi x, vi acc4] M10 N := by
            intro x ex
            refine go_ior dX1_waysOf_218 ?_
            rw [ior_b (n := 16) (by decide) ior_16 (by omega) (by omega) (by rw [ex]; exact b2_c)]
            refine go_nmi (fun acc5 ea5 => ?_)
            have hb5 : 0 ≤ acc5 ∧ acc5 < 32 := by
              have := b2_c (c := max (flo T) (w64 (-(fhi U))) ≤ min (fhi T) (-1)) (k := 16)
              omega
            rw [ex] at ea5
            clear ex
            refine go_ist11 dX1_waysOf_219 rfl rfl ?_
            refine go_iload dX1_waysOf_221 rfl ?_
            refine go_lload_n dX1_waysOf_223 rfl ?_
            refine go_lconst (x := 0) dX1_waysOf_224 rfl ?_
            refine v1_191 dX1_waysOf_225 rfl ⟨rfl, rfl⟩ ⟨rfl, rfl⟩ ct_J9_max_f86c9 (fun r17 M17 N17 hr17 hq17 => ?_)
            obtain ⟨ez3, rfl, rfl⟩ := hq17
            refine go_lload dX1_waysOf_228 rfl ?_
            refine go_lload dX1_waysOf_230 rfl ?_
            refine go_lneg dX1_waysOf_232 ?_
            refine go_lconst (x := 1) dX1_waysOf_233 rfl ?_
            refine go_lsub dX1_waysOf_234 ?_
            refine v1_195 dX1_waysOf_235 rfl ⟨rfl, rfl⟩ ⟨rfl, rfl⟩ ct_J9_min_f86c9 (fun r18 M18 N18 hr18 hq18 => ?_)
            obtain ⟨ez4, rfl, rfl⟩ := hq18
            have jn248 : ∀ x : Int, x = (b2 (max (flo T) 0 ≤ min (fhi T) (w64 (w64 (-(flo U)) - 1))) 32) → Go E RX1 cX1_waysOf 12 ((some .int)) (rmH 4) 0 0 (zM E (qi (fun r M1 N1 => r = wyS T U ∧ (∃ φ1, FS M1 f φ1 ν ma ∧ Lo φ φ1) ∧ Ff f M M1 ∧ N = N1))) 248 [vr (7, f, 0), vr (18, p, 0), vi v, vl (flo T), vn, vl (fhi T), vn, vl (flo U), vn, vl (fhi U), vn, vi acc5] [vi x, vi acc5] M10 N := by
              intro x ex
              refine go_ior dX1_waysOf_248 ?_
              rw [ior_b (n := 32) (by decide) ior_32 (by omega) (by omega) (by rw [ex]; exact b2_c)]
              refine go_nmi (fun acc6 ea6 => ?_)
              have hb6 : 0 ≤ acc6 ∧ acc6 < 64 := by
                have := b2_c (c := max (flo T) 0 ≤ min (fhi T) (w64 (w64 (-(flo U)) - 1))) (k := 32)
                omega
              rw [ex] at ea6
              clear ex
              refine go_ist11 dX1_waysOf_249 rfl rfl ?_
              refine go_iload dX1_waysOf_251 rfl ?_
              refine go_reti dX1_waysOf_253 ?_
              refine ⟨?_, ⟨φ10, hF10, fun j a => k10 j a⟩, hf10, rfl⟩
              rw [ea6, ea5, ea4, ea3, ea2, ea1, ea0, Int.zero_add]
              rfl
            refine go_lcmp_gt (tgt := 247) dX1_waysOf_238 dX1_waysOf_239 rfl (fun h238 => ?_) (fun h238 => ?_)
            · refine go_iconst dX1_waysOf_247 (R32_lit rfl) ?_
              exact jn248 _ (by unfold b2; first | rw [if_pos (by omega)] | rw [if_neg (by omega)])
            · refine go_bipush dX1_waysOf_242 ⟨by decide, by decide⟩ ?_
              refine go_goto (tgt := 248) dX1_waysOf_244 rfl ?_
              exact jn248 _ (by unfold b2; first | rw [if_pos (by omega)] | rw [if_neg (by omega)])
          refine go_lcmp_gt (tgt := 217) dX1_waysOf_208 dX1_waysOf_209 rfl (fun h208 => ?_) (fun h208 => ?_)
          · refine go_iconst dX1_waysOf_217 (R32_lit rfl) ?_
            exact jn218 _ (by unfold b2; first | rw [if_pos (by omega)] | rw [if_neg (by omega)])
          · refine go_bipush dX1_waysOf_212 ⟨by decide, by decide⟩ ?_
            refine go_goto (tgt := 218) dX1_waysOf_214 rfl ?_
            exact jn218 _ (by unfold b2; first | rw [if_pos (by omega)] | rw [if_neg (by omega)])
        refine go_lcmp_lt (tgt := 187) dX1_waysOf_178 dX1_waysOf_179 rfl (fun h178 => ?_) (fun h178 => ?_)
        · refine go_iconst dX1_waysOf_187 (R32_lit rfl) ?_
          exact jn188 _ (by unfold b2; first | rw [if_pos (by omega)] | rw [if_neg (by omega)])
        · refine go_bipush dX1_waysOf_182 ⟨by decide, by decide⟩ ?_
          refine go_goto (tgt := 188) dX1_waysOf_184 rfl ?_
          exact jn188 _ (by unfold b2; first | rw [if_pos (by omega)] | rw [if_neg (by omega)])
      refine go_lcmp_ge (tgt := 166) dX1_waysOf_158 dX1_waysOf_159 rfl (fun h158 => ?_) (fun h158 => ?_)
      · refine go_iconst dX1_waysOf_166 (R32_lit rfl) ?_
        exact jn167 _ (by unfold b2; first | rw [if_pos (by omega)] | rw [if_neg (by omega)])
      · refine go_iconst dX1_waysOf_162 (R32_lit rfl) ?_
        refine go_goto (tgt := 167) dX1_waysOf_163 rfl ?_
        exact jn167 _ (by unfold b2; first | rw [if_pos (by omega)] | rw [if_neg (by omega)])
    refine go_lcmp_lt (tgt := 147) dX1_waysOf_139 dX1_waysOf_140 rfl (fun h139 => ?_) (fun h139 => ?_)
    · refine go_iconst dX1_waysOf_147 (R32_lit rfl) ?_
      exact jn148 _ (by unfold b2; first | rw [if_pos (by omega)] | rw [if_neg (by omega)])
    · refine go_iconst dX1_waysOf_143 (R32_lit rfl) ?_
      refine go_goto (tgt := 148) dX1_waysOf_144 rfl ?_
      exact jn148 _ (by unfold b2; first | rw [if_pos (by omega)] | rw [if_neg (by omega)])
  refine go_lcmp_ge (tgt := 130) dX1_waysOf_122 dX1_waysOf_123 rfl (fun h122 => ?_) (fun h122 => ?_)
  · refine go_iconst dX1_waysOf_130 (R32_lit rfl) ?_
    exact jn131 _ (by unfold b2; first | rw [if_pos (by omega)] | rw [if_neg (by omega)])
  · refine go_iconst dX1_waysOf_126 (R32_lit rfl) ?_
    refine go_goto (tgt := 131) dX1_waysOf_127 rfl ?_
    exact jn131 _ (by unfold b2; first | rw [if_pos (by omega)] | rw [if_neg (by omega)])
