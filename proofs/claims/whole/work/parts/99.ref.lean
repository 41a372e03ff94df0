theorem bit_b2 {c : Prop} [Decidable c] {x r k : Int} (e : x = if c then 1 else 0) (z : r = if x = 0 then 0 else k) : r = b2 c k := by
  unfold b2
  subst e z
  by_cases h : c
  · rw [if_pos h, if_pos h]; rfl
  · rw [if_neg h, if_neg h]; rfl
theorem and_b2 {c d : Prop} [Decidable c] [Decidable d] {x y : Int} (e : x = if c then 1 else 0) (z : y = if d then 1 else 0) : (if x = 0 ∨ y = 0 then 0 else 1) = b2 (c ∧ d) 1 := by
  unfold b2
  subst e z
  by_cases h : c
  · by_cases g : d
    · rw [if_pos h, if_pos g, if_neg (by omega), if_pos (show c ∧ d from ⟨h, g⟩)]
    · rw [if_neg g, if_pos (Or.inr rfl), if_neg (show ¬ (c ∧ d) from fun q => g q.2)]
  · rw [if_neg h, if_pos (Or.inl rfl), if_neg (show ¬ (c ∧ d) from fun q => h q.1)]
theorem sel_le {α β : Type} {x : Int} {a : α} {b : β} : (sel x a).length = (sel x b).length := by unfold sel; split <;> rfl
theorem vA_lo {S : Pg} {ψ ψ' : Int → FV} {v k : Int} (w : WFo S v (4 * v + k)) (v1 : v < 15) (h : ∀ j, 0 ≤ j → j < 30 → ψ' j = ψ j) : vA S (tN ψ') v k = vA S (tN ψ) v k ∧ dA S (tN ψ') v k = dA S (tN ψ) v k := by
  rw [vA_N, vA_N, dA_N, dA_N]
  by_cases q : 0 ≤ S 8 (4 * v + k)
  · have := w.1 q
    rw [if_pos q, if_pos q, if_pos q, if_pos q, h _ q (by omega), h _ (by omega) (by omega)]
    exact ⟨rfl, rfl⟩
  · rw [if_neg q, if_neg q, if_neg q, if_neg q]
    exact ⟨rfl, rfl⟩
theorem go_ist14 {E : Ev} {own : String} {cc : ByteArray} {nL : Nat} {ret : Option FieldType} {R : Room} {cl sl : Nat} {Z : Zt} {pc : Nat} {st : List Vv} {M : Mm} {N : Nn} {v0 v1 v2 v3 v4 v5 v6 v7 v8 v9 v10 v11 v12 v13 v14 : Vv} {x : Int} {t : List Vv} (hd : decode cc pc = .ok (.istore 14, 2)) (hj : Nat.blt 14 nL = true) (hv : adj v13 = v13) (k : Go E own cc nL ret R cl sl Z (pc + 2) (v0 :: v1 :: v2 :: v3 :: v4 :: v5 :: v6 :: v7 :: v8 :: v9 :: v10 :: v11 :: v12 :: v13 :: vi x :: t) st M N) : Go E own cc nL ret R cl sl Z pc (v0 :: v1 :: v2 :: v3 :: v4 :: v5 :: v6 :: v7 :: v8 :: v9 :: v10 :: v11 :: v12 :: v13 :: v14 :: t) (vi x :: st) M N := go_istore (j := 14) hd hj (st1_adj [v0, v1, v2, v3, v4, v5, v6, v7, v8, v9, v10, v11, v12] v13 v14 (vi x) t hv) k
theorem go_ist15 {E : Ev} {own : String} {cc : ByteArray} {nL : Nat} {ret : Option FieldType} {R : Room} {cl sl : Nat} {Z : Zt} {pc : Nat} {st : List Vv} {M : Mm} {N : Nn} {v0 v1 v2 v3 v4 v5 v6 v7 v8 v9 v10 v11 v12 v13 v14 v15 : Vv} {x : Int} {t : List Vv} (hd : decode cc pc = .ok (.istore 15, 2)) (hj : Nat.blt 15 nL = true) (hv : adj v14 = v14) (k : Go E own cc nL ret R cl sl Z (pc + 2) (v0 :: v1 :: v2 :: v3 :: v4 :: v5 :: v6 :: v7 :: v8 :: v9 :: v10 :: v11 :: v12 :: v13 :: v14 :: vi x :: t) st M N) : Go E own cc nL ret R cl sl Z pc (v0 :: v1 :: v2 :: v3 :: v4 :: v5 :: v6 :: v7 :: v8 :: v9 :: v10 :: v11 :: v12 :: v13 :: v14 :: v15 :: t) (vi x :: st) M N := go_istore (j := 15) hd hj (st1_adj [v0, v1, v2, v3, v4, v5, v6, v7, v8, v9, v10, v11, v12, v13] v14 v15 (vi x) t hv) k
set_option maxRecDepth 100000 in
set_option maxHeartbeats 4000000 in
theorem pk77 {E : Ev} {M : Mm} {N : Nn} {ψ : Int → FV} {ν : Nu} {v t0 t1 u0 u1 : Int} {Q : Mm → Nn → Prop} (hF : FQ M ψ ν) (ht0 : t0 = flo (ψ 38)) (ht1 : t1 = fhi (ψ 38)) (hu0 : u0 = flo (ψ 39)) (hu1 : u1 = fhi (ψ 39)) (hV : 1 ≤ (pkV (ψ 38) (ψ 34) (ψ 36)).length) (hD : 1 ≤ (pkD (ψ 38) (ψ 39) (ψ 34) (ψ 36) (ψ 35) (ψ 37)).length) (hn : ν.1 + 2 ≤ 63) (v0 : 0 ≤ v) (v1 : v < 15) (hQ : ∀ M1, FQ M1 (upF (upF (upF (upF ψ v (jnF ν (pkV (ψ 38) (ψ 34) (ψ 36)))) 40 (fad (fad (ψ 36) 1 (ψ 37)) (-1) (ψ 34))) 41 (fad (fad (ψ 34) 1 (ψ 35)) (-1) (ψ 36))) (15 + v) (jnF (jnN ν (pkV (ψ 38) (ψ 34) (ψ 36)) (M (29, 0, 0) 37)) (pkD (ψ 38) (ψ 39) (ψ 34) (ψ 36) (ψ 35) (ψ 37)))) (jnN (jnN ν (pkV (ψ 38) (ψ 34) (ψ 36)) (M (29, 0, 0) 37)) (pkD (ψ 38) (ψ 39) (ψ 34) (ψ 36) (ψ 35) (ψ 37)) (M (29, 0, 0) 37)) → ∀ {M9 : Mm}, M9 (30, 0, 40) = upI (M (30, 0, 40)) v (wyS (ψ 38) (ψ 39)) → Kr [] [40] M M9 → Kr [34, 42] [33, 35, 36, 41] M9 M1 → Q M1 N) : Go E RX8 cX8_laysPick 16 (none) (rmH 5) 0 0 (zM E (qv Q)) 77 [vr (29, 0, 0), vi v, vl t0, vn, vl t1, vn, vl u0, vn, vl u1, vn, vn, vn, vn, vn, vn, vn] [] M N := by
  refine go_lload_n dX8_laysPick_77 rfl ?_
  refine go_lconst (x := 0) dX8_laysPick_78 rfl ?_
  have jn88 : ∀ x : Int, x = ((if t0 < 0 then 1 else 0)) → Go E RX8 cX8_laysPick 16 (none) (rmH 5) 0 0 (zM E (qv Q)) 88 [vr (29, 0, 0), vi v, vl t0, vn, vl t1, vn, vl u0, vn, vl u1, vn, vn, vn, vn, vn, vn, vn] [vi x] M N := by
    intro x ex
    revert ex
    revert x
    intro x10 e10
    refine go_ist10 dX8_laysPick_88 rfl rfl ?_
    refine go_lload dX8_laysPick_90 rfl ?_
    refine go_lconst (x := 0) dX8_laysPick_92 rfl ?_
    have jn102 : ∀ x : Int, x = ((if 0 ≤ t1 then 1 else 0)) → Go E RX8 cX8_laysPick 16 (none) (rmH 5) 0 0 (zM E (qv Q)) 102 [vr (29, 0, 0), vi v, vl t0, vn, vl t1, vn, vl u0, vn, vl u1, vn, vi x10, vn, vn, vn, vn, vn] [vi x] M N := by
      intro x ex
      revert ex
      revert x
      intro x11 e11
      refine go_ist11 dX8_laysPick_102 rfl rfl ?_
      refine go_lload_n dX8_laysPick_104 rfl ?_
      refine go_lload dX8_laysPick_105 rfl ?_
      refine go_ladd dX8_laysPick_107 ?_
      refine go_lconst (x := 0) dX8_laysPick_108 rfl ?_
      have jn118 : ∀ x : Int, x = ((if w64 (t0 + u0) < 0 then 1 else 0)) → Go E RX8 cX8_laysPick 16 (none) (rmH 5) 0 0 (zM E (qv Q)) 118 [vr (29, 0, 0), vi v, vl t0, vn, vl t1, vn, vl u0, vn, vl u1, vn, vi x10, vi x11, vn, vn, vn, vn] [vi x] M N := by
        intro x ex
        revert ex
        revert x
        intro x12 e12
        refine go_ist12 dX8_laysPick_118 rfl rfl ?_
        refine go_lload dX8_laysPick_120 rfl ?_
        refine go_lload dX8_laysPick_122 rfl ?_
        refine go_ladd dX8_laysPick_124 ?_
        refine go_lconst (x := 0) dX8_laysPick_125 rfl ?_
        have jn135 : ∀ x : Int, x = ((if 0 ≤ w64 (t1 + u1) then 1 else 0)) → Go E RX8 cX8_laysPick 16 (none) (rmH 5) 0 0 (zM E (qv Q)) 135 [vr (29, 0, 0), vi v, vl t0, vn, vl t1, vn, vl u0, vn, vl u1, vn, vi x10, vi x11, vi x12, vn, vn, vn] [vi x] M N := by
          intro x ex
          revert ex
          revert x
          intro x13 e13
          refine go_ist13 dX8_laysPick_135 rfl rfl ?_
          refine go_lload_n dX8_laysPick_137 rfl ?_
          refine go_lload dX8_laysPick_138 rfl ?_
          refine go_lload dX8_laysPick_140 rfl ?_
          refine go_lneg dX8_laysPick_142 ?_
          refine c8_400 dX8_laysPick_143 ?_
          refine v8_402 dX8_laysPick_146 rfl ⟨rfl, rfl⟩ ⟨rfl, rfl⟩ ct_X8_meets (fun x14 M1 N1 hr1 hq1 => ?_)
          obtain ⟨e14, rfl, rfl⟩ := hq1
          refine go_ist14 dX8_laysPick_149 rfl rfl ?_
          refine go_lload_n dX8_laysPick_151 rfl ?_
          refine go_lload dX8_laysPick_152 rfl ?_
          refine go_lconst (x := 0) dX8_laysPick_154 rfl ?_
          refine go_lload dX8_laysPick_155 rfl ?_
          refine go_lneg dX8_laysPick_157 ?_
          refine go_lconst (x := 1) dX8_laysPick_158 rfl ?_
          refine go_lsub dX8_laysPick_159 ?_
          refine v8_402 dX8_laysPick_160 rfl ⟨rfl, rfl⟩ ⟨rfl, rfl⟩ ct_X8_meets (fun x15 M2 N2 hr2 hq2 => ?_)
          obtain ⟨e15, rfl, rfl⟩ := hq2
          refine go_ist15 dX8_laysPick_163 rfl rfl ?_
          refine go_aload_n dX8_laysPick_165 rfl rfl ?_
          refine g8_80 dX8_laysPick_166 ?_
          refine go_iload_n dX8_laysPick_169 rfl ?_
          refine go_iload dX8_laysPick_170 rfl ?_
          refine go_iconst dX8_laysPick_172 (R32_lit rfl) ?_
          refine v8_406 dX8_laysPick_173 rfl ⟨rfl, rfl⟩ ⟨rfl, rfl⟩ ct_X8_bit (fun r3 M3 N3 hr3 hq3 => ?_)
          obtain ⟨y3, rfl, rfl⟩ := hq3
          have y3 := bit_b2 e10 y3
          have k3 : 0 ≤ r3 ∧ r3 ≤ 1 := by rw [y3]; unfold b2; split <;> omega
          refine go_iload dX8_laysPick_176 rfl ?_
          refine go_iconst dX8_laysPick_178 (R32_lit rfl) ?_
          refine v8_406 dX8_laysPick_179 rfl ⟨rfl, rfl⟩ ⟨rfl, rfl⟩ ct_X8_bit (fun r4 M4 N4 hr4 hq4 => ?_)
          obtain ⟨y4, rfl, rfl⟩ := hq4
          have y4 := bit_b2 e11 y4
          have k4 : 0 ≤ r4 ∧ r4 ≤ 2 := by rw [y4]; unfold b2; split <;> omega
          refine go_iaddc dX8_laysPick_182 ⟨by omega, by omega⟩ ?_
          refine go_iload dX8_laysPick_183 rfl ?_
          refine go_iconst dX8_laysPick_185 (R32_lit rfl) ?_
          refine v8_406 dX8_laysPick_186 rfl ⟨rfl, rfl⟩ ⟨rfl, rfl⟩ ct_X8_bit (fun r5 M5 N5 hr5 hq5 => ?_)
          obtain ⟨y5, rfl, rfl⟩ := hq5
          have y5 := bit_b2 e12 y5
          have k5 : 0 ≤ r5 ∧ r5 ≤ 4 := by rw [y5]; unfold b2; split <;> omega
          refine go_iaddc dX8_laysPick_189 ⟨by omega, by omega⟩ ?_
          refine go_iload dX8_laysPick_190 rfl ?_
          refine go_bipush dX8_laysPick_192 ⟨by decide, by decide⟩ ?_
          refine v8_406 dX8_laysPick_194 rfl ⟨rfl, rfl⟩ ⟨rfl, rfl⟩ ct_X8_bit (fun r6 M6 N6 hr6 hq6 => ?_)
          obtain ⟨y6, rfl, rfl⟩ := hq6
          have y6 := bit_b2 e13 y6
          have k6 : 0 ≤ r6 ∧ r6 ≤ 8 := by rw [y6]; unfold b2; split <;> omega
          refine go_iaddc dX8_laysPick_197 ⟨by omega, by omega⟩ ?_
          refine go_iload dX8_laysPick_198 rfl ?_
          refine go_bipush dX8_laysPick_200 ⟨by decide, by decide⟩ ?_
          refine v8_406 dX8_laysPick_202 rfl ⟨rfl, rfl⟩ ⟨rfl, rfl⟩ ct_X8_bit (fun r7 M7 N7 hr7 hq7 => ?_)
          obtain ⟨y7, rfl, rfl⟩ := hq7
          have y7 := bit_b2 e14 y7
          have k7 : 0 ≤ r7 ∧ r7 ≤ 16 := by rw [y7]; unfold b2; split <;> omega
          refine go_iaddc dX8_laysPick_205 ⟨by omega, by omega⟩ ?_
          refine go_iload dX8_laysPick_206 rfl ?_
          refine go_bipush dX8_laysPick_208 ⟨by decide, by decide⟩ ?_
          refine v8_406 dX8_laysPick_210 rfl ⟨rfl, rfl⟩ ⟨rfl, rfl⟩ ct_X8_bit (fun r8 M8 N8 hr8 hq8 => ?_)
          obtain ⟨y8, rfl, rfl⟩ := hq8
          have y8 := bit_b2 e15 y8
          have k8 : 0 ≤ r8 ∧ r8 ≤ 32 := by rw [y8]; unfold b2; split <;> omega
          refine go_iaddc dX8_laysPick_213 ⟨by omega, by omega⟩ ?_
          refine go_nmi (fun y ey => ?_)
          have ey : y = wyS (ψ 38) (ψ 39) := by
            rw [ey, y3, y4, y5, y6, y7, y8]
            unfold wyS
            rw [ht0, ht1, hu0, hu1]
          refine go_iast dX8_laysPick_214 rfl (by omega) (by omega) ?_
          have gv : (([] ++ sel x10 (ψ 34)) ++ sel x11 (ψ 36)) = (pkV (ψ 38) (ψ 34) (ψ 36)) := by
            rw [List.nil_append]
            unfold pkV
            rw [show x10 = b2 (flo (ψ 38) < 0) 1 by rw [e10, ht0]; rfl, show x11 = b2 (0 ≤ fhi (ψ 38)) 1 by rw [e11, ht1]; rfl]
          have gd : (((([] ++ sel (if x10 = 0 ∨ x12 = 0 then 0 else 1) (ψ 35)) ++ sel (if x11 = 0 ∨ x13 = 0 then 0 else 1) (ψ 37)) ++ sel x14 (fad (fad (ψ 36) 1 (ψ 37)) (-1) (ψ 34))) ++ sel x15 (fad (fad (ψ 34) 1 (ψ 35)) (-1) (ψ 36))) = (pkD (ψ 38) (ψ 39) (ψ 34) (ψ 36) (ψ 35) (ψ 37)) := by
            rw [List.nil_append, and_b2 e10 e12, and_b2 e11 e13]
            unfold pkD
            rw [show x14 = b2 (max (flo (ψ 38)) (w64 (-(fhi (ψ 39)))) ≤ min (fhi (ψ 38)) (-1)) 1 by rw [e14, ht0, ht1, hu1]; rfl, show x15 = b2 (max (flo (ψ 38)) 0 ≤ min (fhi (ψ 38)) (w64 (w64 (-(flo (ψ 39))) - 1))) 1 by rw [e15, ht0, ht1, hu0]; rfl]
            simp only [ht0, ht1, hu0, hu1]
          refine go_nmM (fun M9 eM9 => ?_)
          have f9 : Kr [] [40] M M9 := by rw [eM9]; exact Kr.rf.wa (by decide)
          have w9 : M9 (30, 0, 40) = upI (M (30, 0, 40)) v (wyS (ψ 38) (ψ 39)) := by rw [eM9, upI_wr, ey]
          clear eM9
          have F9 := hF.k f9 (by decide) (by decide) (by decide) (by decide)
          have l9 : M9 (29, 0, 0) 37 = M (29, 0, 0) 37 := f9.s 37 (by decide)
          refine pk215 F9 ?_ ?_ hn v0 v1 (fun M3 q3 f3 => ?_)
          · rw [← gv] at hV
            rw [List.length_append, List.length_append] at hV ⊢
            rw [sel_le (a := (34 : Int)) (b := ψ 34), sel_le (a := (36 : Int)) (b := ψ 36)]
            exact hV
          · rw [← gd] at hD
            rw [List.length_append, List.length_append, List.length_append, List.length_append] at hD ⊢
            rw [sel_le (a := (35 : Int)) (b := ψ 35), sel_le (a := (37 : Int)) (b := ψ 37), sel_le (a := (40 : Int)) (b := (fad (fad (ψ 36) 1 (ψ 37)) (-1) (ψ 34))), sel_le (a := (41 : Int)) (b := (fad (fad (ψ 34) 1 (ψ 35)) (-1) (ψ 36)))]
            exact hD
          · rw [gv, gd, l9] at q3
            exact hQ M3 q3 w9 f9 f3
        refine go_lcmp_lt (tgt := 134) dX8_laysPick_126 dX8_laysPick_127 rfl (fun h126 => ?_) (fun h126 => ?_)
        · refine go_iconst dX8_laysPick_134 (R32_lit rfl) ?_
          exact jn135 _ (by first | rw [if_pos (by omega)] | rw [if_neg (by omega)])
        · refine go_iconst dX8_laysPick_130 (R32_lit rfl) ?_
          refine go_goto (tgt := 135) dX8_laysPick_131 rfl ?_
          exact jn135 _ (by first | rw [if_pos (by omega)] | rw [if_neg (by omega)])
      refine go_lcmp_ge (tgt := 117) dX8_laysPick_109 dX8_laysPick_110 rfl (fun h109 => ?_) (fun h109 => ?_)
      · refine go_iconst dX8_laysPick_117 (R32_lit rfl) ?_
        exact jn118 _ (by first | rw [if_pos (by omega)] | rw [if_neg (by omega)])
      · refine go_iconst dX8_laysPick_113 (R32_lit rfl) ?_
        refine go_goto (tgt := 118) dX8_laysPick_114 rfl ?_
        exact jn118 _ (by first | rw [if_pos (by omega)] | rw [if_neg (by omega)])
    refine go_lcmp_lt (tgt := 101) dX8_laysPick_93 dX8_laysPick_94 rfl (fun h93 => ?_) (fun h93 => ?_)
    · refine go_iconst dX8_laysPick_101 (R32_lit rfl) ?_
      exact jn102 _ (by first | rw [if_pos (by omega)] | rw [if_neg (by omega)])
    · refine go_iconst dX8_laysPick_97 (R32_lit rfl) ?_
      refine go_goto (tgt := 102) dX8_laysPick_98 rfl ?_
      exact jn102 _ (by first | rw [if_pos (by omega)] | rw [if_neg (by omega)])
  refine go_lcmp_ge (tgt := 87) dX8_laysPick_79 dX8_laysPick_80 rfl (fun h79 => ?_) (fun h79 => ?_)
  · refine go_iconst dX8_laysPick_87 (R32_lit rfl) ?_
    exact jn88 _ (by first | rw [if_pos (by omega)] | rw [if_neg (by omega)])
  · refine go_iconst dX8_laysPick_83 (R32_lit rfl) ?_
    refine go_goto (tgt := 88) dX8_laysPick_84 rfl ?_
    exact jn88 _ (by first | rw [if_pos (by omega)] | rw [if_neg (by omega)])
set_option maxRecDepth 100000 in
set_option maxHeartbeats 4000000 in
theorem ct_X8_laysPick {E : Ev} {M : Mm} {N : Nn} {ψ : Int → FV} {ν : Nu} {S : Pg} {n v : Int} {A0 A1 D0 D1 : FV} (hF : FQ M ψ ν) (hP : PR 0 n S M) (v0 : 0 ≤ v) (v1 : v < n) (n5 : n ≤ 15) (hs : S 0 v ≠ -2) (w : WFr S v) (h3 : S 0 v = 3) (h30 : ψ 30 = A0) (h31 : ψ 31 = D0) (h32 : ψ 32 = A1) (h33 : ψ 33 = D1) (hn : ν.1 + 2 ≤ 63) (hV : 1 ≤ (pkV (fad A0 (-1) A1) (vA S (tN ψ) v 2) (vA S (tN ψ) v 3)).length) (hD : 1 ≤ (pkD (fad A0 (-1) A1) (fad D0 (-1) D1) (vA S (tN ψ) v 2) (vA S (tN ψ) v 3) (dA S (tN ψ) v 2) (dA S (tN ψ) v 3)).length) : Ct E yX8_laysPick cX8_laysPick 16 (none) (rmH 5) [vr (29, 0, 0), vi v] M N (qv (fun M1 N1 => ∃ ψ1, FQ M1 ψ1 (jnN (jnN ν (pkV (fad A0 (-1) A1) (vA S (tN ψ) v 2) (vA S (tN ψ) v 3)) (M (29, 0, 0) 37)) (pkD (fad A0 (-1) A1) (fad D0 (-1) D1) (vA S (tN ψ) v 2) (vA S (tN ψ) v 3) (dA S (tN ψ) v 2) (dA S (tN ψ) v 3)) (M (29, 0, 0) 37)) ∧ ψ1 v = jnF ν (pkV (fad A0 (-1) A1) (vA S (tN ψ) v 2) (vA S (tN ψ) v 3)) ∧ ψ1 (15 + v) = jnF (jnN ν (pkV (fad A0 (-1) A1) (vA S (tN ψ) v 2) (vA S (tN ψ) v 3)) (M (29, 0, 0) 37)) (pkD (fad A0 (-1) A1) (fad D0 (-1) D1) (vA S (tN ψ) v 2) (vA S (tN ψ) v 3) (dA S (tN ψ) v 2) (dA S (tN ψ) v 3)) ∧ (∀ j, 0 ≤ j → j < 30 → j ≠ v → j ≠ 15 + v → ψ1 j = ψ j) ∧ M1 (30, 0, 40) = upI (M (30, 0, 40)) v (wyS (fad A0 (-1) A1) (fad D0 (-1) D1)) ∧ Kr [34, 42] [33, 35, 36, 40, 41] M M1 ∧ N = N1)) := by
  refine ct_of (own := RX8) (L0 := [vr (29, 0, 0), vi v, vn, vn, vn, vn, vn, vn, vn, vn, vn, vn, vn, vn, vn, vn]) rfl (by decide +kernel) rfl rfl ?_
  have ww := (w.2 hs).2.2.2.2
  have o3 := opn_3 h3
  refine go_aload_n dX8_laysPick_0 rfl rfl ?_
  refine go_iload_n dX8_laysPick_1 rfl ?_
  refine go_iconst dX8_laysPick_2 (R32_lit rfl) ?_
  refine go_bipush dX8_laysPick_3 ⟨by decide, by decide⟩ ?_
  refine go_bipush dX8_laysPick_5 ⟨by decide, by decide⟩ ?_
  refine v8_396 dX8_laysPick_7 rfl ⟨rfl, rfl⟩ ⟨rfl, rfl⟩ (ct_X8_laysOperand hF hP v0 v1 n5 hs w (by decide) (by omega) (by decide) (by decide) (by decide) (by decide) (by decide)) (fun M1 N1 hq1 => ?_)
  obtain ⟨q1, f1, rfl⟩ := hq1
  obtain ⟨ψ1, hψ1⟩ : ∃ p, p = upF (upF ψ 34 (vA S (tN ψ) v 2)) 35 (dA S (tN ψ) v 2) := ⟨_, rfl⟩
  rw [← hψ1] at q1
  have P1 : PR 0 n S M1 := hP.k (f1.a 7 (by decide)) (f1.a 8 (by decide)) (f1.a 9 (by decide)) (f1.a 10 (by decide)) (f1.a 11 (by decide)) (f1.a 12 (by decide))
  have lo1 := vA_lo (ψ := ψ) (ψ' := ψ1) (ww 3 (by decide) (by omega)) (by omega) (fun j j0 j1 => by rw [hψ1, upF_ne (by omega), upF_ne (by omega)])
  refine go_aload_n dX8_laysPick_10 rfl rfl ?_
  refine go_iload_n dX8_laysPick_11 rfl ?_
  refine go_iconst dX8_laysPick_12 (R32_lit rfl) ?_
  refine go_bipush dX8_laysPick_13 ⟨by decide, by decide⟩ ?_
  refine go_bipush dX8_laysPick_15 ⟨by decide, by decide⟩ ?_
  refine v8_396 dX8_laysPick_17 rfl ⟨rfl, rfl⟩ ⟨rfl, rfl⟩ (ct_X8_laysOperand q1 P1 v0 v1 n5 hs w (by decide) (by omega) (by decide) (by decide) (by decide) (by decide) (by decide)) (fun M2 N2 hq2 => ?_)
  obtain ⟨q2, f2, rfl⟩ := hq2
  rw [lo1.1, lo1.2] at q2
  obtain ⟨ψ2, hψ2⟩ : ∃ p, p = upF (upF ψ1 36 (vA S (tN ψ) v 3)) 37 (dA S (tN ψ) v 3) := ⟨_, rfl⟩
  rw [← hψ2] at q2
  have b30 : ψ2 30 = A0 := by rw [hψ2, upF_ne (by decide), upF_ne (by decide), hψ1, upF_ne (by decide), upF_ne (by decide)]; exact h30
  have b31 : ψ2 31 = D0 := by rw [hψ2, upF_ne (by decide), upF_ne (by decide), hψ1, upF_ne (by decide), upF_ne (by decide)]; exact h31
  have b32 : ψ2 32 = A1 := by rw [hψ2, upF_ne (by decide), upF_ne (by decide), hψ1, upF_ne (by decide), upF_ne (by decide)]; exact h32
  have b33 : ψ2 33 = D1 := by rw [hψ2, upF_ne (by decide), upF_ne (by decide), hψ1, upF_ne (by decide), upF_ne (by decide)]; exact h33
  refine go_aload_n dX8_laysPick_20 rfl rfl ?_
  refine go_bipush dX8_laysPick_21 ⟨by decide, by decide⟩ ?_
  refine go_bipush dX8_laysPick_23 ⟨by decide, by decide⟩ ?_
  refine go_bipush dX8_laysPick_25 ⟨by decide, by decide⟩ ?_
  refine c8_400 dX8_laysPick_27 ?_
  refine v8_392 dX8_laysPick_30 rfl ⟨rfl, rfl⟩ ⟨rfl, rfl⟩ (ct_X8_sums q2 (by decide) (by decide) (by decide) (by decide) (by decide) (by decide)) (fun M3 N3 hq3 => ?_)
  obtain ⟨q3, f3, rfl⟩ := hq3
  rw [b30, b32] at q3
  obtain ⟨ψ3, hψ3⟩ : ∃ p, p = upF ψ2 38 (fad A0 (-1) A1) := ⟨_, rfl⟩
  rw [← hψ3] at q3
  have c31 : ψ3 31 = D0 := by rw [hψ3, upF_ne (by decide)]; exact b31
  have c33 : ψ3 33 = D1 := by rw [hψ3, upF_ne (by decide)]; exact b33
  refine go_aload_n dX8_laysPick_33 rfl rfl ?_
  refine go_bipush dX8_laysPick_34 ⟨by decide, by decide⟩ ?_
  refine go_bipush dX8_laysPick_36 ⟨by decide, by decide⟩ ?_
  refine go_bipush dX8_laysPick_38 ⟨by decide, by decide⟩ ?_
  refine c8_400 dX8_laysPick_40 ?_
  refine v8_392 dX8_laysPick_43 rfl ⟨rfl, rfl⟩ ⟨rfl, rfl⟩ (ct_X8_sums q3 (by decide) (by decide) (by decide) (by decide) (by decide) (by decide)) (fun M4 N4 hq4 => ?_)
  obtain ⟨q4, f4, rfl⟩ := hq4
  rw [c31, c33] at q4
  obtain ⟨ψ4, hψ4⟩ : ∃ p, p = upF ψ3 39 (fad D0 (-1) D1) := ⟨_, rfl⟩
  rw [← hψ4] at q4
  have p39 : ψ4 39 = (fad D0 (-1) D1) := by rw [hψ4, upF_eq]
  have p38 : ψ4 38 = (fad A0 (-1) A1) := by rw [hψ4, upF_ne (by decide), hψ3, upF_eq]
  have p37 : ψ4 37 = (dA S (tN ψ) v 3) := by rw [hψ4, upF_ne (by decide), hψ3, upF_ne (by decide), hψ2, upF_eq]
  have p36 : ψ4 36 = (vA S (tN ψ) v 3) := by rw [hψ4, upF_ne (by decide), hψ3, upF_ne (by decide), hψ2, upF_ne (by decide), upF_eq]
  have p35 : ψ4 35 = (dA S (tN ψ) v 2) := by rw [hψ4, upF_ne (by decide), hψ3, upF_ne (by decide), hψ2, upF_ne (by decide), upF_ne (by decide), hψ1, upF_eq]
  have p34 : ψ4 34 = (vA S (tN ψ) v 2) := by rw [hψ4, upF_ne (by decide), hψ3, upF_ne (by decide), hψ2, upF_ne (by decide), upF_ne (by decide), hψ1, upF_ne (by decide), upF_eq]
  refine go_aload_n dX8_laysPick_46 rfl rfl ?_
  refine go_bipush dX8_laysPick_47 ⟨by decide, by decide⟩ ?_
  refine v8_379 dX8_laysPick_49 rfl ⟨rfl, rfl⟩ ⟨rfl, rfl⟩ (ct_X8_leastOf q4 (a := 38) (by decide) (by decide)) (fun r5 M5 N5 hr5 hq5 => ?_)
  obtain ⟨z5, rfl, rfl⟩ := hq5
  subst z5
  refine go_lst2 dX8_laysPick_52 rfl rfl ?_
  refine go_aload_n dX8_laysPick_53 rfl rfl ?_
  refine go_bipush dX8_laysPick_54 ⟨by decide, by decide⟩ ?_
  refine v8_382 dX8_laysPick_56 rfl ⟨rfl, rfl⟩ ⟨rfl, rfl⟩ (ct_X8_greatestOf q4 (a := 38) (by decide) (by decide)) (fun r6 M6 N6 hr6 hq6 => ?_)
  obtain ⟨z6, rfl, rfl⟩ := hq6
  subst z6
  refine go_lst4 dX8_laysPick_59 rfl rfl ?_
  refine go_aload_n dX8_laysPick_61 rfl rfl ?_
  refine go_bipush dX8_laysPick_62 ⟨by decide, by decide⟩ ?_
  refine v8_379 dX8_laysPick_64 rfl ⟨rfl, rfl⟩ ⟨rfl, rfl⟩ (ct_X8_leastOf q4 (a := 39) (by decide) (by decide)) (fun r7 M7 N7 hr7 hq7 => ?_)
  obtain ⟨z7, rfl, rfl⟩ := hq7
  subst z7
  refine go_lst6 dX8_laysPick_67 rfl rfl ?_
  refine go_aload_n dX8_laysPick_69 rfl rfl ?_
  refine go_bipush dX8_laysPick_70 ⟨by decide, by decide⟩ ?_
  refine v8_382 dX8_laysPick_72 rfl ⟨rfl, rfl⟩ ⟨rfl, rfl⟩ (ct_X8_greatestOf q4 (a := 39) (by decide) (by decide)) (fun r8 M8 N8 hr8 hq8 => ?_)
  obtain ⟨z8, rfl, rfl⟩ := hq8
  subst z8
  refine go_lst8 dX8_laysPick_75 rfl rfl ?_
  refine pk77 q4 rfl rfl rfl rfl (by rw [p38, p34, p36]; exact hV) (by rw [p38, p39, p34, p35, p36, p37]; exact hD) hn v0 (by omega) (fun M9 q9 M8 w8 f8 f9 => ?_)
  rw [p38, p34, p35, p36, p37, p39] at q9
  rw [p38, p39] at w8
  have l4 : M4 (29, 0, 0) 37 = M (29, 0, 0) 37 := by rw [f4.s 37 (by decide), f3.s 37 (by decide), f2.s 37 (by decide), f1.s 37 (by decide)]
  rw [l4] at q9
  refine ⟨_, q9, ?_, ?_, ?_, ?_, ?_, rfl⟩
  · rw [upF_ne (by omega), upF_ne (by omega), upF_ne (by omega), upF_eq]
  · rw [upF_eq]
  · intro j j0 j1 j2 j3
    rw [upF_ne j3, upF_ne (by omega), upF_ne (by omega), upF_ne j2, hψ4, upF_ne (by omega), hψ3, upF_ne (by omega), hψ2, upF_ne (by omega), upF_ne (by omega), hψ1, upF_ne (by omega), upF_ne (by omega)]
  · rw [f9.a 40 (by decide), w8, f4.a 40 (by decide), f3.a 40 (by decide), f2.a 40 (by decide), f1.a 40 (by decide)]
  · exact (((((f1.up (by decide) (by decide)).tr (f2.up (by decide) (by decide))).tr (f3.up (by decide) (by decide))).tr (f4.up (by decide) (by decide))).tr (f8.up (by decide) (by decide))).tr (f9.up (by decide) (by decide))
