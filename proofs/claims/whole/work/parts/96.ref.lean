theorem upF_up {ψ : Int → FV} {r : Int} {a b : FV} : upF (upF ψ r a) r b = upF ψ r b := by
  funext j; unfold upF; split <;> rfl
theorem FM_mid {M M1 : Mm} {ψ : Int → FV} {r x : Int} (h : FM M ψ) (e : M1 (30, 0, 33) = upI (M (30, 0, 33)) (81 * r) x) : FM M1 (upF ψ r (x, (ψ r).2)) := by
  intro q q0 q1
  unfold fR
  rw [e]
  obtain ⟨a, d⟩ := h q q0 q1
  unfold upI
  by_cases z : q = r
  · subst z
    rw [upF_eq]
    exact ⟨by rw [if_pos rfl], fun i i0 i1 => by rw [if_neg (by omega)]; exact d i i0 i1⟩
  · rw [upF_ne z]
    exact ⟨by rw [if_neg (by omega)]; exact a, fun i i0 i1 => by rw [if_neg (by omega)]; exact d i i0 i1⟩
theorem Zn_bfo {ν : Nu} {a : FV} {c v w : Int} (h : Zn a ν.1) (h0 : 0 ≤ ν.1) : Zn (bfo ν a c) (bnu ν c v w).1 := by
  unfold bfo bnu
  split
  · exact h
  · exact Zn_fno h rfl h0
set_option maxRecDepth 100000 in
set_option maxHeartbeats 4000000 in
theorem lp_X8_multiplies {E : Ev} {M : Mm} {N : Nn} {ψ : Int → FV} {ν : Nu} {r a b : Int} (hF : FQ M ψ ν) (r0 : 0 ≤ r) (r1 : r < 50) (a0 : 0 ≤ a) (a1 : a < 50) (b0 : 0 ≤ b) (b1 : b < 50) (hn : ν.1 < 63) : ∀ (n : Nat) (k : Int) (M2 : Mm), (k + n = 81) → (1 ≤ k) → (∀ j, M2 (30, 0, 33) j = if 81 * r + 1 ≤ j ∧ j < 81 * r + k then (w64 ((ψ a).1 * M (30, 0, 33) (81 * b + (j - 81 * r)) + (ψ b).1 * M (30, 0, 33) (81 * a + (j - 81 * r)))) else M (30, 0, 33) j) → (Kr [] [33] M M2) → Go E RX8 cX8_multiplies 11 (none) (rmH 3) 0 0 (zM E (qv (fun M1 N1 => FQ M1 (upF ψ r (bfo ν (fml (ψ a) (ψ b)) (w64 (fra (ψ a) * fra (ψ b))))) (bnu ν (w64 (fra (ψ a) * fra (ψ b))) (M (29, 0, 0) 37) 1) ∧ Kr [34] [33, 35, 36] M M1 ∧ N = N1))) 38 [vr (29, 0, 0), vi r, vi a, vi b, vl (w64 (fra (ψ a) * fra (ψ b))), vn, vl (ψ a).1, vn, vl (ψ b).1, vn, vi k] [] M2 N := by
  intro n
  induction n using Nat.strongRecOn with
  | ind n ih =>
  intro k M2 hk k0 hA hf
  refine go_iload dX8_multiplies_38 rfl ?_
  refine go_bipush dX8_multiplies_40 ⟨by decide, by decide⟩ ?_
  refine go_icmp_ge (tgt := 94) dX8_multiplies_42 rfl (fun h42 => ?_) (fun h42 => ?_)
  · refine go_aload_n dX8_multiplies_94 rfl rfl ?_
    refine g8_65 dX8_multiplies_95 ?_
    refine go_iload_n dX8_multiplies_98 rfl ?_
    refine v8_358 dX8_multiplies_99 rfl ⟨rfl, rfl⟩ ⟨rfl, rfl⟩ (ct_X8_middle r0 (by omega)) (fun r4 M6 N6 hr4 hq4 => ?_)
    obtain ⟨z4, rfl, rfl⟩ := hq4
    subst z4
    refine go_lload dX8_multiplies_102 rfl ?_
    refine go_lload dX8_multiplies_104 rfl ?_
    refine go_lmul dX8_multiplies_106 ?_
    refine go_last dX8_multiplies_107 rfl (by omega) (by omega) ?_
    refine go_nmM (fun M5 eM5 => ?_)
    have f5 : Kr [] [33] M M5 := by rw [eM5]; exact hf.wa (by decide)
    obtain ⟨e0, e1⟩ := hF.1 a a0 a1
    obtain ⟨d0, d1⟩ := hF.1 b b0 b1
    have hA5 : M5 (30, 0, 33) = rwA (M (30, 0, 33)) r 81 (fun k => if k = 0 then w64 ((ψ a).1 * (ψ b).1) else w64 ((ψ a).1 * M (30, 0, 33) (81 * b + k) + (ψ b).1 * M (30, 0, 33) (81 * a + k))) := by
      rw [eM5, upI_wr]
      funext j
      unfold upI
      by_cases q : j = 81 * r
      · rw [if_pos q]; unfold rwA; rw [if_pos (by omega)]; exact (if_pos (by omega)).symm
      · rw [if_neg q, hA]
        unfold rwA
        by_cases z : 81 * r + 1 ≤ j ∧ j < 81 * r + k
        · rw [if_pos z, if_pos (by omega)]; exact (if_neg (by omega)).symm
        · rw [if_neg z, if_neg (by omega)]
    have F5 : FQ M5 (upF ψ r (fml (ψ a) (ψ b))) ν := ⟨FM_row (g := (fun k => if k = 0 then w64 ((ψ a).1 * (ψ b).1) else w64 ((ψ a).1 * M (30, 0, 33) (81 * b + k) + (ψ b).1 * M (30, 0, 33) (81 * a + k)))) hF.1 hA5 (by rw [if_pos rfl]; rfl) (fun i i0 i1 => by rw [if_neg (by omega), ← Int.add_assoc, ← Int.add_assoc, e1 i i0 i1, d1 i i0 i1]; rfl), hF.2.1.k f5 (by decide) (by decide) (by decide), Zn_up hF.2.2 (Zn_fml (hF.2.2 a a0 a1) (hF.2.2 b b0 b1))⟩
    clear eM5
    refine go_lload dX8_multiplies_108 rfl ?_
    refine go_lconst (x := 0) dX8_multiplies_110 rfl ?_
    refine go_lcmp_eq (tgt := 123) dX8_multiplies_111 dX8_multiplies_112 rfl (fun h111 => ?_) (fun h111 => ?_)
    · refine go_retv dX8_multiplies_123 ?_
      first
      | (obtain ⟨q1, q2, rfl⟩ := hq7
         rw [upF_eq, upF_up, f5.s 37 (by decide)] at q1
         refine ⟨?_, (f5.up (by decide) (by decide)).tr q2, rfl⟩
         unfold bfo bnu
         rw [if_neg h111, if_neg h111]
         exact q1)
      | (refine ⟨?_, f5.up (by decide) (by decide), rfl⟩
         unfold bfo bnu
         rw [if_pos h111, if_pos h111]
         exact F5)
    · refine go_aload_n dX8_multiplies_115 rfl rfl ?_
      refine go_iload_n dX8_multiplies_116 rfl ?_
      refine go_lload dX8_multiplies_117 rfl ?_
      refine go_iconst dX8_multiplies_119 (R32_lit rfl) ?_
      refine v8_368 dX8_multiplies_120 rfl ⟨rfl, rfl⟩ ⟨rfl, rfl⟩ (ct_X8_brings F5 r0 r1 hn) (fun M7 N7 hq7 => ?_)
      refine go_retv dX8_multiplies_123 ?_
      first
      | (obtain ⟨q1, q2, rfl⟩ := hq7
         rw [upF_eq, upF_up, f5.s 37 (by decide)] at q1
         refine ⟨?_, (f5.up (by decide) (by decide)).tr q2, rfl⟩
         unfold bfo bnu
         rw [if_neg h111, if_neg h111]
         exact q1)
      | (refine ⟨?_, f5.up (by decide) (by decide), rfl⟩
         unfold bfo bnu
         rw [if_pos h111, if_pos h111]
         exact F5)
  · refine go_aload_n dX8_multiplies_45 rfl rfl ?_
    refine g8_65 dX8_multiplies_46 ?_
    refine go_iload_n dX8_multiplies_49 rfl ?_
    refine v8_358 dX8_multiplies_50 rfl ⟨rfl, rfl⟩ ⟨rfl, rfl⟩ (ct_X8_middle r0 (by omega)) (fun r1 M1 N1 hr1 hq1 => ?_)
    obtain ⟨z1, rfl, rfl⟩ := hq1
    subst z1
    refine go_iload dX8_multiplies_53 rfl ?_
    refine go_iaddc dX8_multiplies_55 ⟨by omega, by omega⟩ ?_
    refine go_lload dX8_multiplies_56 rfl ?_
    refine go_aload_n dX8_multiplies_58 rfl rfl ?_
    refine g8_65 dX8_multiplies_59 ?_
    refine go_iload_n dX8_multiplies_62 rfl ?_
    refine v8_358 dX8_multiplies_63 rfl ⟨rfl, rfl⟩ ⟨rfl, rfl⟩ (ct_X8_middle b0 (by omega)) (fun r2 M3 N3 hr2 hq2 => ?_)
    obtain ⟨z2, rfl, rfl⟩ := hq2
    subst z2
    refine go_iload dX8_multiplies_66 rfl ?_
    refine go_iaddc dX8_multiplies_68 ⟨by omega, by omega⟩ ?_
    refine go_lald dX8_multiplies_69 rfl (by omega) (by omega) ?_
    rw [hA, if_neg (by omega)]
    refine go_lmul dX8_multiplies_70 ?_
    refine go_lload dX8_multiplies_71 rfl ?_
    refine go_aload_n dX8_multiplies_73 rfl rfl ?_
    refine g8_65 dX8_multiplies_74 ?_
    refine go_iload_n dX8_multiplies_77 rfl ?_
    refine v8_358 dX8_multiplies_78 rfl ⟨rfl, rfl⟩ ⟨rfl, rfl⟩ (ct_X8_middle a0 (by omega)) (fun r3 M4 N4 hr3 hq3 => ?_)
    obtain ⟨z3, rfl, rfl⟩ := hq3
    subst z3
    refine go_iload dX8_multiplies_81 rfl ?_
    refine go_iaddc dX8_multiplies_83 ⟨by omega, by omega⟩ ?_
    refine go_lald dX8_multiplies_84 rfl (by omega) (by omega) ?_
    rw [hA, if_neg (by omega)]
    refine go_lmul dX8_multiplies_85 ?_
    refine go_ladd dX8_multiplies_86 ?_
    rw [w64_add, w64_add']
    refine go_last dX8_multiplies_87 rfl (by omega) (by omega) ?_
    refine go_iinc10c dX8_multiplies_88 rfl rfl ⟨by omega, by omega⟩ ?_
    refine go_goto (tgt := 38) dX8_multiplies_91 rfl ?_
    exact ih (n - 1) (by omega) (k + 1) _ (by omega) (by omega) (fun j => by
      rw [upI_wr]
      unfold upI
      by_cases q : j = 81 * r + k
      · rw [if_pos q, if_pos (by omega), q, show 81 * r + k - 81 * r = k by omega]
      · rw [if_neg q, hA]
        by_cases z : 81 * r + 1 ≤ j ∧ j < 81 * r + k
        · rw [if_pos z, if_pos (by omega)]
        · rw [if_neg z, if_neg (by omega)]) (hf.wa (by decide))
set_option maxRecDepth 100000 in
set_option maxHeartbeats 4000000 in
theorem ct_X8_multiplies {E : Ev} {M : Mm} {N : Nn} {ψ : Int → FV} {ν : Nu} {r a b : Int} (hF : FQ M ψ ν) (r0 : 0 ≤ r) (r1 : r < 50) (a0 : 0 ≤ a) (a1 : a < 50) (b0 : 0 ≤ b) (b1 : b < 50) (hn : ν.1 < 63) : Ct E yX8_multiplies cX8_multiplies 11 (none) (rmH 3) [vr (29, 0, 0), vi r, vi a, vi b] M N (qv (fun M1 N1 => FQ M1 (upF ψ r (bfo ν (fml (ψ a) (ψ b)) (w64 (fra (ψ a) * fra (ψ b))))) (bnu ν (w64 (fra (ψ a) * fra (ψ b))) (M (29, 0, 0) 37) 1) ∧ Kr [34] [33, 35, 36] M M1 ∧ N = N1)) := by
  refine ct_of (own := RX8) (L0 := [vr (29, 0, 0), vi r, vi a, vi b, vn, vn, vn, vn, vn, vn, vn]) rfl (by decide +kernel) rfl rfl ?_
  refine go_aload_n dX8_multiplies_0 rfl rfl ?_
  refine go_iload_n dX8_multiplies_1 rfl ?_
  refine v8_361 dX8_multiplies_2 rfl ⟨rfl, rfl⟩ ⟨rfl, rfl⟩ (ct_X8_radius hF a0 a1) (fun r1 M1 N1 hr1 hq1 => ?_)
  obtain ⟨z1, rfl, rfl⟩ := hq1
  subst z1
  refine go_aload_n dX8_multiplies_5 rfl rfl ?_
  refine go_iload_n dX8_multiplies_6 rfl ?_
  refine v8_361 dX8_multiplies_7 rfl ⟨rfl, rfl⟩ ⟨rfl, rfl⟩ (ct_X8_radius hF b0 b1) (fun r2 M2 N2 hr2 hq2 => ?_)
  obtain ⟨z2, rfl, rfl⟩ := hq2
  subst z2
  refine go_lmul dX8_multiplies_10 ?_
  refine go_lst4 dX8_multiplies_11 rfl rfl ?_
  refine go_aload_n dX8_multiplies_13 rfl rfl ?_
  refine g8_65 dX8_multiplies_14 ?_
  refine go_iload_n dX8_multiplies_17 rfl ?_
  refine v8_358 dX8_multiplies_18 rfl ⟨rfl, rfl⟩ ⟨rfl, rfl⟩ (ct_X8_middle a0 (by omega)) (fun r3 M3 N3 hr3 hq3 => ?_)
  obtain ⟨z3, rfl, rfl⟩ := hq3
  subst z3
  refine go_lald dX8_multiplies_21 rfl (by omega) (by omega) ?_
  rw [(hF.1 a a0 a1).1]
  refine go_lst6 dX8_multiplies_22 rfl rfl ?_
  refine go_aload_n dX8_multiplies_24 rfl rfl ?_
  refine g8_65 dX8_multiplies_25 ?_
  refine go_iload_n dX8_multiplies_28 rfl ?_
  refine v8_358 dX8_multiplies_29 rfl ⟨rfl, rfl⟩ ⟨rfl, rfl⟩ (ct_X8_middle b0 (by omega)) (fun r4 M4 N4 hr4 hq4 => ?_)
  obtain ⟨z4, rfl, rfl⟩ := hq4
  subst z4
  refine go_lald dX8_multiplies_32 rfl (by omega) (by omega) ?_
  rw [(hF.1 b b0 b1).1]
  refine go_lst8 dX8_multiplies_33 rfl rfl ?_
  refine go_iconst dX8_multiplies_35 (R32_lit rfl) ?_
  refine go_ist10 dX8_multiplies_36 rfl rfl ?_
  exact lp_X8_multiplies hF r0 r1 a0 a1 b0 b1 hn 80 1 M (by omega) (by omega) (fun j => by rw [if_neg (by omega)]) Kr.rf
/-- the rows that are joined -/
def JP (M : Mm) (cs : List Int) : Prop := M (29, 0, 0) 42 = cs.length ∧ cs.length ≤ 4 ∧ (∀ (i : Nat) (c : Int), cs[i]? = some c → M (30, 0, 41) i = c) ∧ ∀ c ∈ cs, 30 ≤ c ∧ c < 50
theorem JP.k {M M1 : Mm} {cs : List Int} {K : List Int} {A : List Nat} (h : JP M cs) (f : Kr K A M M1) (h42 : (42 : Int) ∉ K) (h41 : 41 ∉ A) : JP M1 cs := by
  unfold JP
  rw [f.s 42 h42, f.a 41 h41]
  exact h
theorem jn_2 {gs : List FV} {ν : Nu} {v : Int} (h : 2 ≤ gs.length) : jnF ν gs = bfo ν (fnum (jmid gs)) (w64 (jhi gs - jmid gs)) ∧ jnN ν gs v = bnu ν (w64 (jhi gs - jmid gs)) v 2 := by
  match gs, h with
  | a :: b :: t, _ => exact ⟨rfl, rfl⟩
theorem jn_1 {a : FV} {ν : Nu} {v : Int} : jnF ν [a] = a ∧ jnN ν [a] v = ν := ⟨rfl, rfl⟩
theorem w64_sub0 {x y : Int} (hx : R64 x) (hy : R64 y) : w64 (x - y) = 0 ↔ x = y := by unfold R64 at *; unfold w64; omega
set_option maxRecDepth 100000 in
set_option maxHeartbeats 4000000 in
theorem lp_X8_joins {E : Ev} {M : Mm} {N : Nn} {ψ : Int → FV} {ν : Nu} {r : Int} {cs : List Int} (hF : FQ M ψ ν) (r0 : 0 ≤ r) (r1 : r < 30) (hJ : JP M cs) (hn : ν.1 < 63) (h2 : 2 ≤ cs.length) : ∀ (n : Nat) (k x y : Int), (k + n = cs.length) → (1 ≤ k) → (x = jlo ((cs.map ψ).take k.toNat)) → (y = jhi ((cs.map ψ).take k.toNat)) → Go E RX8 cX8_joins 8 (none) (rmH 4) 0 0 (zM E (qv (fun M1 N1 => FQ M1 (upF ψ r (jnF ν (cs.map ψ))) (jnN ν (cs.map ψ) (M (29, 0, 0) 37)) ∧ Kr [34] [33, 35, 36] M M1 ∧ N = N1))) 46 [vr (29, 0, 0), vi r, vl x, vn, vl y, vn, vi k, vn] [] M N := by
  intro n
  induction n using Nat.strongRecOn with
  | ind n ih =>
  intro k x y hk k0 hlo hhi
  have j1 := hJ.1
  have j2 := hJ.2.1
  refine go_iload dX8_joins_46 rfl ?_
  refine go_aload_n dX8_joins_48 rfl rfl ?_
  refine g8_372 dX8_joins_49 ?_
  rw [j1]
  refine go_icmp_ge (tgt := 128) dX8_joins_52 rfl (fun h52 => ?_) (fun h52 => ?_)
  · have hl : (cs.map ψ).length = cs.length := List.length_map _
    rw [List.take_of_length_le (by omega)] at hlo hhi
    have jn := jn_2 (gs := cs.map ψ) (ν := ν) (v := M (29, 0, 0) 37) (by omega)
    refine go_rg (fun _ hL0 _ => ?_)
    have rl : R64 x := hL0.at (i := 2) rfl
    have rh : R64 y := hL0.at (i := 4) rfl
    refine go_aload_n dX8_joins_128 rfl rfl ?_
    refine go_iload_n dX8_joins_129 rfl ?_
    refine v8_385 dX8_joins_130 rfl ⟨rfl, rfl⟩ ⟨rfl, rfl⟩ (ct_X8_clears hF r0 (by omega)) (fun M6 N6 hq5 => ?_)
    obtain ⟨q1, q2, rfl⟩ := hq5
    refine go_lload_n dX8_joins_133 rfl ?_
    refine go_lload dX8_joins_134 rfl ?_
    refine go_ladd dX8_joins_136 ?_
    refine c8_255 dX8_joins_137 ?_
    refine v8_322 dX8_joins_140 rfl ⟨rfl, rfl⟩ ⟨rfl, rfl⟩ (ct_J9_floorDiv_f86c9 (by decide)) (fun r6 M7 N7 hr6 hq6 => ?_)
    obtain ⟨z6, rfl, rfl⟩ := hq6
    have hm : r6 = jmid (cs.map ψ) := by rw [z6]; unfold jmid; rw [hlo, hhi]
    refine go_lst6 dX8_joins_143 rfl rfl ?_
    refine go_aload_n dX8_joins_145 rfl rfl ?_
    refine g8_65 dX8_joins_146 ?_
    refine go_iload_n dX8_joins_149 rfl ?_
    refine v8_358 dX8_joins_150 rfl ⟨rfl, rfl⟩ ⟨rfl, rfl⟩ (ct_X8_middle r0 (by omega)) (fun r7 M9 N9 hr7 hq7 => ?_)
    obtain ⟨z7, rfl, rfl⟩ := hq7
    subst z7
    refine go_lload dX8_joins_153 rfl ?_
    refine go_last dX8_joins_155 rfl (by omega) (by omega) ?_
    refine go_nmM (fun M8 eM8 => ?_)
    have f8 : Kr [] [33] M M8 := by rw [eM8]; exact q2.wa (by decide)
    have F8' : FQ M8 (upF ψ r (fnum r6)) ν := by
      refine ⟨?_, hF.2.1.k f8 (by decide) (by decide) (by decide), Zn_up hF.2.2 Zn_num⟩
      have := FM_mid (M1 := M8) (x := r6) q1.1 (by rw [eM8, upI_wr])
      rw [upF_eq, upF_up] at this
      exact this
    have s0 := w64_sub0 rh hr6
    clear eM8
    refine go_lload dX8_joins_156 rfl ?_
    refine go_lload dX8_joins_158 rfl ?_
    refine go_lcmp_eq (tgt := 175) dX8_joins_160 dX8_joins_161 rfl (fun h160 => ?_) (fun h160 => ?_)
    · refine go_retv dX8_joins_175 ?_
      rw [jn.1, jn.2, ← hhi, ← hm]
      first
      | (obtain ⟨p1, p2, rfl⟩ := hq8
         rw [upF_eq, upF_up, f8.s 37 (by decide)] at p1
         refine ⟨?_, (f8.up (by decide) (by decide)).tr p2, rfl⟩
         unfold bfo bnu
         rw [if_neg (by rw [s0]; omega), if_neg (by rw [s0]; omega)]
         exact p1)
      | (refine ⟨?_, f8.up (by decide) (by decide), rfl⟩
         unfold bfo bnu
         rw [if_pos (s0.mpr (by omega)), if_pos (s0.mpr (by omega))]
         exact F8')
    · refine go_aload_n dX8_joins_164 rfl rfl ?_
      refine go_iload_n dX8_joins_165 rfl ?_
      refine go_lload dX8_joins_166 rfl ?_
      refine go_lload dX8_joins_168 rfl ?_
      refine go_lsub dX8_joins_170 ?_
      refine go_iconst dX8_joins_171 (R32_lit rfl) ?_
      refine v8_368 dX8_joins_172 rfl ⟨rfl, rfl⟩ ⟨rfl, rfl⟩ (ct_X8_brings F8' r0 (by omega) hn) (fun M10 N10 hq8 => ?_)
      refine go_retv dX8_joins_175 ?_
      rw [jn.1, jn.2, ← hhi, ← hm]
      first
      | (obtain ⟨p1, p2, rfl⟩ := hq8
         rw [upF_eq, upF_up, f8.s 37 (by decide)] at p1
         refine ⟨?_, (f8.up (by decide) (by decide)).tr p2, rfl⟩
         unfold bfo bnu
         rw [if_neg (by rw [s0]; omega), if_neg (by rw [s0]; omega)]
         exact p1)
      | (refine ⟨?_, f8.up (by decide) (by decide), rfl⟩
         unfold bfo bnu
         rw [if_pos (s0.mpr (by omega)), if_pos (s0.mpr (by omega))]
         exact F8')
  · obtain ⟨c, hc⟩ : ∃ c, cs[k.toNat]? = some c := ⟨_, List.getElem?_eq_getElem (by omega)⟩
    have ck := hJ.2.2.1 _ c hc
    rw [Int.toNat_of_nonneg (by omega)] at ck
    have cb := hJ.2.2.2 c (List.mem_of_getElem? hc)
    have hg : (cs.map ψ)[k.toNat]? = some (ψ c) := by rw [List.getElem?_map, hc]; rfl
    obtain ⟨t1, t2⟩ := jlo_take (gs := cs.map ψ) (i := k.toNat) (by omega) hg
    rw [← hlo] at t1
    rw [← hhi] at t2
    refine go_aload_n dX8_joins_55 rfl rfl ?_
    refine go_aload_n dX8_joins_56 rfl rfl ?_
    refine g8_83 dX8_joins_57 ?_
    refine go_iload dX8_joins_60 rfl ?_
    refine go_iald dX8_joins_62 rfl (by omega) (by omega) ?_
    rw [ck]
    refine v8_379 dX8_joins_63 rfl ⟨rfl, rfl⟩ ⟨rfl, rfl⟩ (ct_X8_leastOf hF (a := c) (by omega) (by omega)) (fun r1 M1 N1 hr1 hq1 => ?_)
    obtain ⟨z1, rfl, rfl⟩ := hq1
    subst z1
    refine go_lload_n dX8_joins_66 rfl ?_
    refine go_lcmp_ge (tgt := 85) dX8_joins_67 dX8_joins_68 rfl (fun h67 => ?_) (fun h67 => ?_)
    · refine go_lload_n dX8_joins_85 rfl ?_
      refine go_nml (fun y1 ey1 => ?_)
      have hy1 : y1 = jlo ((cs.map ψ).take (k.toNat + 1)) := by omega
      clear ey1
      refine go_lst2 dX8_joins_86 rfl rfl ?_
      refine go_aload_n dX8_joins_87 rfl rfl ?_
      refine go_aload_n dX8_joins_88 rfl rfl ?_
      refine g8_83 dX8_joins_89 ?_
      refine go_iload dX8_joins_92 rfl ?_
      refine go_iald dX8_joins_94 rfl (by omega) (by omega) ?_
      rw [ck]
      refine v8_382 dX8_joins_95 rfl ⟨rfl, rfl⟩ ⟨rfl, rfl⟩ (ct_X8_greatestOf hF (a := c) (by omega) (by omega)) (fun r3 M4 N4 hr3 hq3 => ?_)
      obtain ⟨z3, rfl, rfl⟩ := hq3
      subst z3
      refine go_lload dX8_joins_98 rfl ?_
      refine go_lcmp_le (tgt := 118) dX8_joins_100 dX8_joins_101 rfl (fun h100 => ?_) (fun h100 => ?_)
      · refine go_lload dX8_joins_118 rfl ?_
        refine go_nml (fun y2 ey2 => ?_)
        have hy2 : y2 = jhi ((cs.map ψ).take (k.toNat + 1)) := by omega
        clear ey2
        refine go_lst4 dX8_joins_120 rfl rfl ?_
        refine go_iinc6c dX8_joins_122 rfl rfl ⟨by omega, by omega⟩ ?_
        refine go_goto (tgt := 46) dX8_joins_125 rfl ?_
        exact ih (n - 1) (by omega) (k + 1) _ _ (by omega) (by omega) (by rw [show (k + 1).toNat = k.toNat + 1 by omega]; exact hy1) (by rw [show (k + 1).toNat = k.toNat + 1 by omega]; exact hy2)
      · refine go_aload_n dX8_joins_104 rfl rfl ?_
        refine go_aload_n dX8_joins_105 rfl rfl ?_
        refine g8_83 dX8_joins_106 ?_
        refine go_iload dX8_joins_109 rfl ?_
        refine go_iald dX8_joins_111 rfl (by omega) (by omega) ?_
        rw [ck]
        refine v8_382 dX8_joins_112 rfl ⟨rfl, rfl⟩ ⟨rfl, rfl⟩ (ct_X8_greatestOf hF (a := c) (by omega) (by omega)) (fun r4 M5 N5 hr4 hq4 => ?_)
        obtain ⟨z4, rfl, rfl⟩ := hq4
        subst z4
        refine go_goto (tgt := 120) dX8_joins_115 rfl ?_
        refine go_nml (fun y2 ey2 => ?_)
        have hy2 : y2 = jhi ((cs.map ψ).take (k.toNat + 1)) := by omega
        clear ey2
        refine go_lst4 dX8_joins_120 rfl rfl ?_
        refine go_iinc6c dX8_joins_122 rfl rfl ⟨by omega, by omega⟩ ?_
        refine go_goto (tgt := 46) dX8_joins_125 rfl ?_
        exact ih (n - 1) (by omega) (k + 1) _ _ (by omega) (by omega) (by rw [show (k + 1).toNat = k.toNat + 1 by omega]; exact hy1) (by rw [show (k + 1).toNat = k.toNat + 1 by omega]; exact hy2)
    · refine go_aload_n dX8_joins_71 rfl rfl ?_
      refine go_aload_n dX8_joins_72 rfl rfl ?_
      refine g8_83 dX8_joins_73 ?_
      refine go_iload dX8_joins_76 rfl ?_
      refine go_iald dX8_joins_78 rfl (by omega) (by omega) ?_
      rw [ck]
      refine v8_379 dX8_joins_79 rfl ⟨rfl, rfl⟩ ⟨rfl, rfl⟩ (ct_X8_leastOf hF (a := c) (by omega) (by omega)) (fun r2 M3 N3 hr2 hq2 => ?_)
      obtain ⟨z2, rfl, rfl⟩ := hq2
      subst z2
      refine go_goto (tgt := 86) dX8_joins_82 rfl ?_
      refine go_nml (fun y1 ey1 => ?_)
      have hy1 : y1 = jlo ((cs.map ψ).take (k.toNat + 1)) := by omega
      clear ey1
      refine go_lst2 dX8_joins_86 rfl rfl ?_
      refine go_aload_n dX8_joins_87 rfl rfl ?_
      refine go_aload_n dX8_joins_88 rfl rfl ?_
      refine g8_83 dX8_joins_89 ?_
      refine go_iload dX8_joins_92 rfl ?_
      refine go_iald dX8_joins_94 rfl (by omega) (by omega) ?_
      rw [ck]
      refine v8_382 dX8_joins_95 rfl ⟨rfl, rfl⟩ ⟨rfl, rfl⟩ (ct_X8_greatestOf hF (a := c) (by omega) (by omega)) (fun r3 M4 N4 hr3 hq3 => ?_)
      obtain ⟨z3, rfl, rfl⟩ := hq3
      subst z3
      refine go_lload dX8_joins_98 rfl ?_
      refine go_lcmp_le (tgt := 118) dX8_joins_100 dX8_joins_101 rfl (fun h100 => ?_) (fun h100 => ?_)
      · refine go_lload dX8_joins_118 rfl ?_
        refine go_nml (fun y2 ey2 => ?_)
        have hy2 : y2 = jhi ((cs.map ψ).take (k.toNat + 1)) := by omega
        clear ey2
        refine go_lst4 dX8_joins_120 rfl rfl ?_
        refine go_iinc6c dX8_joins_122 rfl rfl ⟨by omega, by omega⟩ ?_
        refine go_goto (tgt := 46) dX8_joins_125 rfl ?_
        exact ih (n - 1) (by omega) (k + 1) _ _ (by omega) (by omega) (by rw [show (k + 1).toNat = k.toNat + 1 by omega]; exact hy1) (by rw [show (k + 1).toNat = k.toNat + 1 by omega]; exact hy2)
      · refine go_aload_n dX8_joins_104 rfl rfl ?_
        refine go_aload_n dX8_joins_105 rfl rfl ?_
        refine g8_83 dX8_joins_106 ?_
        refine go_iload dX8_joins_109 rfl ?_
        refine go_iald dX8_joins_111 rfl (by omega) (by omega) ?_
        rw [ck]
        refine v8_382 dX8_joins_112 rfl ⟨rfl, rfl⟩ ⟨rfl, rfl⟩ (ct_X8_greatestOf hF (a := c) (by omega) (by omega)) (fun r4 M5 N5 hr4 hq4 => ?_)
        obtain ⟨z4, rfl, rfl⟩ := hq4
        subst z4
        refine go_goto (tgt := 120) dX8_joins_115 rfl ?_
        refine go_nml (fun y2 ey2 => ?_)
        have hy2 : y2 = jhi ((cs.map ψ).take (k.toNat + 1)) := by omega
        clear ey2
        refine go_lst4 dX8_joins_120 rfl rfl ?_
        refine go_iinc6c dX8_joins_122 rfl rfl ⟨by omega, by omega⟩ ?_
        refine go_goto (tgt := 46) dX8_joins_125 rfl ?_
        exact ih (n - 1) (by omega) (k + 1) _ _ (by omega) (by omega) (by rw [show (k + 1).toNat = k.toNat + 1 by omega]; exact hy1) (by rw [show (k + 1).toNat = k.toNat + 1 by omega]; exact hy2)
set_option maxRecDepth 100000 in
set_option maxHeartbeats 4000000 in
theorem ct_X8_joins {E : Ev} {M : Mm} {N : Nn} {ψ : Int → FV} {ν : Nu} {r : Int} {cs : List Int} (hF : FQ M ψ ν) (r0 : 0 ≤ r) (r1 : r < 30) (hJ : JP M cs) (hn : ν.1 < 63) (h1 : 1 ≤ cs.length) : Ct E yX8_joins cX8_joins 8 (none) (rmH 4) [vr (29, 0, 0), vi r] M N (qv (fun M1 N1 => FQ M1 (upF ψ r (jnF ν (cs.map ψ))) (jnN ν (cs.map ψ) (M (29, 0, 0) 37)) ∧ Kr [34] [33, 35, 36] M M1 ∧ N = N1)) := by
  refine ct_of (own := RX8) (L0 := [vr (29, 0, 0), vi r, vn, vn, vn, vn, vn, vn]) rfl (by decide +kernel) rfl rfl ?_
  have j1 := hJ.1
  have j2 := hJ.2.1
  obtain ⟨c, hc⟩ : ∃ c, cs[0]? = some c := ⟨_, List.getElem?_eq_getElem (by omega)⟩
  have ck := hJ.2.2.1 0 c hc
  have ck : M (30, 0, 41) 0 = c := ck
  have cb := hJ.2.2.2 c (List.mem_of_getElem? hc)
  refine go_aload_n dX8_joins_0 rfl rfl ?_
  refine g8_372 dX8_joins_1 ?_
  rw [j1]
  refine go_iconst dX8_joins_4 (R32_lit rfl) ?_
  refine go_icmp_ne (tgt := 20) dX8_joins_5 rfl (fun h5 => ?_) (fun h5 => ?_)
  · refine go_aload_n dX8_joins_20 rfl rfl ?_
    refine go_aload_n dX8_joins_21 rfl rfl ?_
    refine g8_83 dX8_joins_22 ?_
    refine go_iconst dX8_joins_25 (R32_lit rfl) ?_
    refine go_iald dX8_joins_26 rfl (by omega) (by omega) ?_
    rw [ck]
    refine v8_379 dX8_joins_27 rfl ⟨rfl, rfl⟩ ⟨rfl, rfl⟩ (ct_X8_leastOf hF (a := c) (by omega) (by omega)) (fun r2 M2 N2 hr2 hq2 => ?_)
    obtain ⟨z2, rfl, rfl⟩ := hq2
    subst z2
    refine go_lst2 dX8_joins_30 rfl rfl ?_
    refine go_aload_n dX8_joins_31 rfl rfl ?_
    refine go_aload_n dX8_joins_32 rfl rfl ?_
    refine g8_83 dX8_joins_33 ?_
    refine go_iconst dX8_joins_36 (R32_lit rfl) ?_
    refine go_iald dX8_joins_37 rfl (by omega) (by omega) ?_
    rw [ck]
    refine v8_382 dX8_joins_38 rfl ⟨rfl, rfl⟩ ⟨rfl, rfl⟩ (ct_X8_greatestOf hF (a := c) (by omega) (by omega)) (fun r3 M3 N3 hr3 hq3 => ?_)
    obtain ⟨z3, rfl, rfl⟩ := hq3
    subst z3
    refine go_lst4 dX8_joins_41 rfl rfl ?_
    refine go_iconst dX8_joins_43 (R32_lit rfl) ?_
    refine go_ist6 dX8_joins_44 rfl rfl ?_
    have hd : cs = c :: cs.tail := by
      cases cs with
      | nil => cases hc
      | cons d t => have : d = c := Option.some.inj hc; rw [this]; rfl
    have ht1 : (cs.map ψ).take 1 = [ψ c] := by rw [hd]; rfl
    exact lp_X8_joins hF r0 r1 hJ hn (by omega) (cs.length - 1) 1 _ _ (by omega) (by omega) (by rw [show (1 : Int).toNat = 1 from rfl, ht1]; rfl) (by rw [show (1 : Int).toNat = 1 from rfl, ht1]; rfl)
  · refine go_aload_n dX8_joins_8 rfl rfl ?_
    refine go_iload_n dX8_joins_9 rfl ?_
    refine go_aload_n dX8_joins_10 rfl rfl ?_
    refine g8_83 dX8_joins_11 ?_
    refine go_iconst dX8_joins_14 (R32_lit rfl) ?_
    refine go_iald dX8_joins_15 rfl (by omega) (by omega) ?_
    rw [ck]
    refine v8_375 dX8_joins_16 rfl ⟨rfl, rfl⟩ ⟨rfl, rfl⟩ (ct_X8_copies hF r0 (by omega) (a := c) (by omega) (by omega)) (fun M1 N1 hq1 => ?_)
    refine go_retv dX8_joins_19 ?_
    obtain ⟨q1, q2, rfl⟩ := hq1
    have hd : cs = [c] := by
      match cs, hc, h5 with
      | [d], hc, _ => rw [Option.some.inj hc]
      | d :: e :: t, _, h5 => exfalso; simp only [List.length_cons] at h5; omega
    subst hd
    exact ⟨q1, q2.up (by decide) (by decide), rfl⟩
/-- rows as forms by number -/
def tN (ψ : Int → FV) : Nat → FV := fun j => ψ (j : Int)
theorem vA_N {S : Pg} {ψ : Int → FV} {v k : Int} : vA S (tN ψ) v k = if 0 ≤ S 8 (4 * v + k) then ψ (S 8 (4 * v + k)) else fnum (S 9 (4 * v + k)) := by
  unfold vA tN
  split
  · rename_i q; rw [Int.toNat_of_nonneg q]
  · rfl
theorem dA_N {S : Pg} {ψ : Int → FV} {v k : Int} : dA S (tN ψ) v k = if 0 ≤ S 8 (4 * v + k) then ψ (15 + S 8 (4 * v + k)) else fz := by
  unfold dA tN
  split
  · rename_i q
    rw [show ((15 + (S 8 (4 * v + k)).toNat : Nat) : Int) = 15 + S 8 (4 * v + k) by omega]
  · rfl
set_option maxRecDepth 100000 in
set_option maxHeartbeats 4000000 in
theorem ct_X8_laysOperand {E : Ev} {M : Mm} {N : Nn} {ψ : Int → FV} {ν : Nu} {S : Pg} {n v k a d : Int} (hF : FQ M ψ ν) (hP : PR 0 n S M) (v0 : 0 ≤ v) (v1 : v < n) (n5 : n ≤ 15) (hs : S 0 v ≠ -2) (w : WFr S v) (k0 : 0 ≤ k) (k1 : k < opn S v) (ha0 : 30 ≤ a) (ha1 : a < 50) (hd0 : 30 ≤ d) (hd1 : d < 50) (had : a ≠ d) : Ct E yX8_laysOperand cX8_laysOperand 6 (none) (rmH 3) [vr (29, 0, 0), vi v, vi k, vi a, vi d] M N (qv (fun M1 N1 => FQ M1 (upF (upF ψ a (vA S (tN ψ) v k)) d (dA S (tN ψ) v k)) ν ∧ Kr [] [33] M M1 ∧ N = N1)) := by
  refine ct_of (own := RX8) (L0 := [vr (29, 0, 0), vi v, vi k, vi a, vi d, vn]) rfl (by decide +kernel) rfl rfl ?_
  obtain ⟨p1, p2⟩ := (hP v v0 v1).2.2.2 hs k k0 k1
  rw [Int.zero_add] at p1 p2
  have o4 := opn_le S v
  have ww := (w.2 hs).2.2.2.2 k k0 k1
  unfold WFo at ww
  rw [vA_N, dA_N]
  refine go_aload_n dX8_laysOperand_0 rfl rfl ?_
  refine g8_31 dX8_laysOperand_1 ?_
  refine go_iconst dX8_laysOperand_4 (R32_lit rfl) ?_
  refine go_iload_n dX8_laysOperand_5 rfl ?_
  refine go_imulc dX8_laysOperand_6 ⟨by omega, by omega⟩ ?_
  refine go_iload_n dX8_laysOperand_7 rfl ?_
  refine go_iaddc dX8_laysOperand_8 ⟨by omega, by omega⟩ ?_
  refine go_iald dX8_laysOperand_9 rfl (by omega) (by omega) ?_
  rw [p1]
  refine go_ist5 dX8_laysOperand_10 rfl rfl ?_
  refine go_iload dX8_laysOperand_12 rfl ?_
  refine go_bipush dX8_laysOperand_14 ⟨by decide, by decide⟩ ?_
  refine go_icmp_ne (tgt := 53) dX8_laysOperand_16 rfl (fun h16 => ?_) (fun h16 => ?_)
  · refine go_aload_n dX8_laysOperand_53 rfl rfl ?_
    refine go_iload_n dX8_laysOperand_54 rfl ?_
    refine go_iconst dX8_laysOperand_55 (R32_lit rfl) ?_
    refine go_iload dX8_laysOperand_56 rfl ?_
    refine go_iaddc dX8_laysOperand_58 ⟨by omega, by omega⟩ ?_
    refine v8_375 dX8_laysOperand_59 rfl ⟨rfl, rfl⟩ ⟨rfl, rfl⟩ (ct_X8_copies hF (by omega) (by omega) (a := 0 + S 8 (4 * v + k)) (by omega) (by omega)) (fun M4 N4 hq4 => ?_)
    obtain ⟨q1, q2, rfl⟩ := hq4
    refine go_aload_n dX8_laysOperand_62 rfl rfl ?_
    refine go_iload dX8_laysOperand_63 rfl ?_
    refine go_bipush dX8_laysOperand_65 ⟨by decide, by decide⟩ ?_
    refine go_iload dX8_laysOperand_67 rfl ?_
    refine go_iaddc dX8_laysOperand_69 ⟨by omega, by omega⟩ ?_
    refine v8_375 dX8_laysOperand_70 rfl ⟨rfl, rfl⟩ ⟨rfl, rfl⟩ (ct_X8_copies q1 (by omega) (by omega) (a := 15 + S 8 (4 * v + k)) (by omega) (by omega)) (fun M5 N5 hq5 => ?_)
    refine go_retv dX8_laysOperand_73 ?_
    first
    | (obtain ⟨q5, q6, rfl⟩ := hq5
       rw [upF_ne (show 15 + S 8 (4 * v + k) ≠ a by omega), Int.zero_add] at q5
       rw [if_pos (by omega), if_pos (by omega)]
       exact ⟨q5, q2.tr q6, rfl⟩)
    | (rw [if_neg (by omega), if_neg (by omega)]
       have f5 : Kr [] [33] M (wr M2 (30, 0, 33) (81 * a) (S 9 (4 * v + k))) := (q2.tr q4).wa (by decide)
       refine ⟨⟨?_, hF.2.1.k f5 (by decide) (by decide) (by decide), Zn_up (Zn_up hF.2.2 Zn_num) Zn_fz⟩, f5, rfl⟩
       have h := FM_mid (M1 := wr M2 (30, 0, 33) (81 * a) (S 9 (4 * v + k))) (x := S 9 (4 * v + k)) (r := a) q3.1 (by rw [upI_wr])
       have e : upF (upF (upF ψ a fz) d fz) a (S 9 (4 * v + k), (upF (upF ψ a fz) d fz a).2) = upF (upF ψ a (fnum (S 9 (4 * v + k)))) d fz := by
         funext j
         rw [upF_ne had, upF_eq]
         unfold upF
         by_cases z : j = a
         · rw [if_pos z, if_neg (by omega), if_pos z]; rfl
         · rw [if_neg z]
           by_cases y : j = d
           · rw [if_pos y, if_pos y]
           · rw [if_neg y, if_neg z, if_neg y, if_neg z]
       rw [e] at h
       exact h)
  · refine go_aload_n dX8_laysOperand_19 rfl rfl ?_
    refine go_iload_n dX8_laysOperand_20 rfl ?_
    refine v8_385 dX8_laysOperand_21 rfl ⟨rfl, rfl⟩ ⟨rfl, rfl⟩ (ct_X8_clears hF (by omega) (by omega)) (fun M1 N1 hq1 => ?_)
    obtain ⟨q1, q2, rfl⟩ := hq1
    refine go_aload_n dX8_laysOperand_24 rfl rfl ?_
    refine go_iload dX8_laysOperand_25 rfl ?_
    refine v8_385 dX8_laysOperand_27 rfl ⟨rfl, rfl⟩ ⟨rfl, rfl⟩ (ct_X8_clears q1 (by omega) (by omega)) (fun M2 N2 hq2 => ?_)
    obtain ⟨q3, q4, rfl⟩ := hq2
    refine go_aload_n dX8_laysOperand_30 rfl rfl ?_
    refine g8_65 dX8_laysOperand_31 ?_
    refine go_iload_n dX8_laysOperand_34 rfl ?_
    refine v8_358 dX8_laysOperand_35 rfl ⟨rfl, rfl⟩ ⟨rfl, rfl⟩ (ct_X8_middle (by omega) (by omega)) (fun r3 M3 N3 hr3 hq3 => ?_)
    obtain ⟨z3, rfl, rfl⟩ := hq3
    subst z3
    refine go_aload_n dX8_laysOperand_38 rfl rfl ?_
    refine g8_34 dX8_laysOperand_39 ?_
    refine go_iconst dX8_laysOperand_42 (R32_lit rfl) ?_
    refine go_iload_n dX8_laysOperand_43 rfl ?_
    refine go_imulc dX8_laysOperand_44 ⟨by omega, by omega⟩ ?_
    refine go_iload_n dX8_laysOperand_45 rfl ?_
    refine go_iaddc dX8_laysOperand_46 ⟨by omega, by omega⟩ ?_
    refine go_iald dX8_laysOperand_47 rfl (by omega) (by omega) ?_
    rw [q4.a 12 (by decide), q2.a 12 (by decide), (p2 (by omega)).2]
    refine go_i2l dX8_laysOperand_48 ?_
    refine go_last dX8_laysOperand_49 rfl (by omega) (by omega) ?_
    refine go_goto (tgt := 73) dX8_laysOperand_50 rfl ?_
    refine go_retv dX8_laysOperand_73 ?_
    first
    | (obtain ⟨q5, q6, rfl⟩ := hq5
       rw [upF_ne (show 15 + S 8 (4 * v + k) ≠ a by omega), Int.zero_add] at q5
       rw [if_pos (by omega), if_pos (by omega)]
       exact ⟨q5, q2.tr q6, rfl⟩)
    | (rw [if_neg (by omega), if_neg (by omega)]
       have f5 : Kr [] [33] M (wr M2 (30, 0, 33) (81 * a) (S 9 (4 * v + k))) := (q2.tr q4).wa (by decide)
       refine ⟨⟨?_, hF.2.1.k f5 (by decide) (by decide) (by decide), Zn_up (Zn_up hF.2.2 Zn_num) Zn_fz⟩, f5, rfl⟩
       have h := FM_mid (M1 := wr M2 (30, 0, 33) (81 * a) (S 9 (4 * v + k))) (x := S 9 (4 * v + k)) (r := a) q3.1 (by rw [upI_wr])
       have e : upF (upF (upF ψ a fz) d fz) a (S 9 (4 * v + k), (upF (upF ψ a fz) d fz a).2) = upF (upF ψ a (fnum (S 9 (4 * v + k)))) d fz := by
         funext j
         rw [upF_ne had, upF_eq]
         unfold upF
         by_cases z : j = a
         · rw [if_pos z, if_neg (by omega), if_pos z]; rfl
         · rw [if_neg z]
           by_cases y : j = d
           · rw [if_pos y, if_pos y]
           · rw [if_neg y, if_neg z, if_neg y, if_neg z]
       rw [e] at h
       exact h)
