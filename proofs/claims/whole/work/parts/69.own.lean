/-- the step to blame for a variable's drift -/
def blF (S : Pg) (v : Int) : Int := (blS S ((sK S (wB (S 7 v)) (S 11 0).toNat).1 (15 + v.toNat)) (sK S (wB (S 7 v)) (S 11 0).toNat).2.1 (v + 1).toNat).1
/-- a step made finer -/
def fnP (S : Pg) (s : Int) : Pg := pst S 4 s (S 4 s - 1)
def fnA (S : Pg) (s : Int) : Pg := stA (fnP S s) (fnP S s 11 0).toNat
def fnO (S : Pg) (s : Int) : Prop := 0 ≤ s ∧ s < S 11 0 ∧ S 0 s ≠ -2 ∧ S 4 s ≠ 0
def fnS (v lim : Int) : Nat → Int → Pg → Int
  | 0, _, _ => -2
  | k + 1, i, S => if bdF S v ≤ lim then i else if 0 ≤ blF S v ∧ blF S v < S 11 0 ∧ S 0 (blF S v) ≠ -2 ∧ S 4 (blF S v) ≠ 0 then fnS v lim k (i + 1) (fnA S (blF S v)) else -2
/-- what making finer needs, of all programs on the way -/
def FnH (Inv : Pg → Prop) (v : Int) : Prop := (∀ S, Inv S → RC S ∧ Clo S (wB (S 7 v)) ∧ (S 0 v = -2 ∨ wB (S 7 v) v = true) ∧ 0 ≤ v ∧ v < S 11 0) ∧ ∀ S s, Inv S → fnO S s → RW (fnP S s) ∧ okW (fnP S s) ∧ Inv (fnA S s)
/-- what it touches -/
def Qf (q : Nat) (M M1 : Mm) : Prop := ∀ n : Nm, n ≠ (18, q, 0) → ¬ (n.1 = 19 ∧ n.2.1 = q) → ¬ (n.2.1 = 1 ∧ 7 ≤ n.1 ∧ n.1 ≤ 16) → M1 n = M n
theorem Qf.tr {q : Nat} {M M1 M2 : Mm} (h : Qf q M M1) (h2 : Qf q M1 M2) : Qf q M M2 := fun n a b c => (h2 n a b c).trans (h n a b c)
theorem Qf.pf {q : Nat} {M M1 : Mm} (h : Pf q M M1) : Qf q M M1 := fun n a b _ => h n a b
theorem Qf.ff {q : Nat} {M M1 : Mm} (h : Ff 1 M M1) : Qf q M M1 := fun n _ _ c => h n c
theorem Pf.hasF {q : Nat} {M M1 : Mm} (h : Pf q M M1) (hF : hasF M) : hasF M1 := hF.fr (fun a b a0 a1 => h _ (nm_ne1 (by omega)) (fun z => absurd z.1 (by show ¬ a = 19; omega)))
set_option maxRecDepth 100000 in
set_option maxHeartbeats 4000000 in
theorem lp_X7_finer {E : Ev} {M : Mm} {N : Nn} {p q : Nat} {v k : Int} {Inv : Pg → Prop} (hC : N (3, 0, 0) 6 = (18, p, 0)) (hc : (pgC M p) 11 0 ≤ 15) (hD : N (3, 0, 0) 7 = (18, q, 0)) (hpq : p ≠ q) (hF : hasF M) (hI : 0 ≤ v → v < (pgC M p) 11 0 → Inv (pgC M p)) (hH : 0 ≤ v → v < (pgC M p) 11 0 → FnH Inv v) (v0 : 0 ≤ v) (v1 : v < (pgC M p) 11 0) (k0 : 0 ≤ k) (k1 : k ≤ 1000000) : ∀ (n : Nat) (i : Int) (G : Pg) (M' : Mm) (N' : Nn) (x5 : Vv), (i + n = 97) → (0 ≤ i) → (pgC M' q = G) → (Inv G) → (hasF M') → (Qf q (tr M 0) M') → (Nf 1 N N') → (fnS v k n i G = fnS v k 97 0 (pgC M p)) → Go E RX7 cX7_finer 6 ((some .int)) (rmH 7) 0 0 (zM E (qi (fun r M1 N1 => ((0 ≤ v ∧ v < (pgC M p) 11 0 ∧ 0 ≤ k ∧ k ≤ 1000000) ∧ r = fnS v k 97 0 (pgC M p) ∧ Qf q (tr M 0) M1 ∧ hasF M1 ∧ Nf 1 N N1 ∨ (0 ≤ v ∧ v < (pgC M p) 11 0 ∧ ¬ (0 ≤ k ∧ k ≤ 1000000)) ∧ r = -1 ∧ M1 = tr M 2 ∧ N = N1 ∨ ¬ (0 ≤ v ∧ v < (pgC M p) 11 0) ∧ r = -1 ∧ M1 = tr M 1 ∧ N = N1)))) 57 [vr (3, 0, 0), vi v, vi k, vr (7, 1, 0), vi i, x5] [] M' N' := by
  intro n
  induction n using Nat.strongRecOn with
  | ind n ih =>
  intro i G M' N' x5 hn h0 hg hG hF' hq hN he
  obtain ⟨i1, i2, i3, i4, i5⟩ := (hH v0 v1).1 G hG
  have hn1 := i1.2.1
  have hD' : N' (3, 0, 0) 7 = (18, q, 0) := by rw [hN _ (nm_ne1 (by decide))]; exact hD
  obtain ⟨φ0, ν0, ma0, hF0⟩ := id hF'
  have es : 0 < n → fnS v k n i G = if bdF G v ≤ k then i else if 0 ≤ blF G v ∧ blF G v < G 11 0 ∧ G 0 (blF G v) ≠ -2 ∧ G 4 (blF G v) ≠ 0 then fnS v k (n - 1) (i + 1) (fnA G (blF G v)) else -2 := fun z => by
    have e : n = (n - 1) + 1 := by omega
    rw [e]; rfl
  refine go_iload dX7_finer_57 rfl ?_
  refine go_bipush dX7_finer_59 ⟨by decide, by decide⟩ ?_
  refine go_icmp_gt (tgt := 162) dX7_finer_61 rfl (fun h61 => ?_) (fun h61 => ?_)
  · refine go_bipush dX7_finer_162 ⟨by decide, by decide⟩ ?_
    refine go_reti dX7_finer_164 ?_
    have e0 : n = 0 := by omega
    rw [e0] at he
    exact Or.inl ⟨by omega, by rw [← he]; rfl, hq, hF', hN⟩
  · refine go_aload_n dX7_finer_64 rfl rfl ?_
    refine go_aload_n dX7_finer_65 rfl rfl ?_
    refine g7_54 dX7_finer_66 ?_
    rw [hD']
    refine go_aload_n dX7_finer_69 rfl rfl ?_
    refine g7_54 dX7_finer_70 ?_
    rw [hD']
    refine g7_273 dX7_finer_73 ?_
    refine go_iload_n dX7_finer_76 rfl ?_
    refine go_iald dX7_finer_77 rfl (by omega) (by omega) ?_
    rw [show M' (19, q, 7) v = G 7 v from congrFun (congrFun hg 7) v]
    refine v7_276 dX7_finer_78 rfl ⟨rfl, rfl⟩ ⟨rfl, rfl⟩ (ct_X1_reckon hF0 (by rw [hg]; exact i1) (by rw [hg]; exact i2)) (fun M1 N1 hq1 => ?_)
    obtain ⟨⟨φ1, ma1, u1, u2⟩, u3, u4⟩ := hq1
    rw [hg] at u1 u2
    have hg1 : pgC M1 q = G := u3.pg.trans hg
    have hD1 : N1 (3, 0, 0) 7 = (18, q, 0) := by rw [u4 _ (nm_ne1 (by decide))]; exact hD'
    have ea := (u2 v ⟨i4, i5, by
      by_cases zz : G 0 v = -2
      · exact Or.inl zz
      · exact Or.inr ⟨zz, i3.resolve_left zz, i5⟩⟩).1.2
    have es := es (by omega)
    refine go_aload_n dX7_finer_81 rfl rfl ?_
    refine go_iload_n dX7_finer_82 rfl ?_
    refine v7_204 dX7_finer_83 rfl ⟨rfl, rfl⟩ ⟨rfl, rfl⟩ (ct_X1_boundOf u1 i4 (by omega)) (fun r2 M2 N2 hr2 hq2 => ?_)
    obtain ⟨y1, rfl, rfl⟩ := hq2
    rw [ea] at y1
    have y1 : r2 = bdF G v := y1
    refine go_iload_n dX7_finer_86 rfl ?_
    refine go_i2l dX7_finer_87 ?_
    refine go_lcmp_gt (tgt := 95) dX7_finer_88 dX7_finer_89 rfl (fun h88 => ?_) (fun h88 => ?_)
    · refine go_aload_n dX7_finer_95 rfl rfl ?_
      refine go_aload_n dX7_finer_96 rfl rfl ?_
      refine g7_54 dX7_finer_97 ?_
      rw [hD1]
      refine go_iload_n dX7_finer_100 rfl ?_
      refine v7_221 dX7_finer_101 rfl ⟨rfl, rfl⟩ ⟨rfl, rfl⟩ (ct_X1_blamed u1 (by rw [hg1]; exact hn1) i4 (by rw [hg1]; exact i5)) (fun r3 M3 N3 hr3 hq3 => ?_)
      obtain ⟨y2, rfl, rfl⟩ := hq3
      rw [ea, hg1] at y2
      have y2 : r3 = blF G v := y2
      refine go_ist5 dX7_finer_104 rfl rfl ?_
      refine go_aload_n dX7_finer_106 rfl rfl ?_
      refine g7_54 dX7_finer_107 ?_
      rw [hD1]
      refine go_iload dX7_finer_110 rfl ?_
      refine v7_147 dX7_finer_112 rfl ⟨rfl, rfl⟩ ⟨rfl, rfl⟩ (ct_X3_isStep (by rw [hg1]; exact hn1)) (fun r4 M4 N4 hr4 hq4 => ?_)
      obtain ⟨e4, rfl, rfl⟩ := hq4
      rw [hg1] at e4
      have z4 := b1_iff e4
      refine go_if_eq (tgt := 131) dX7_finer_115 rfl (fun h115 => ?_) (fun h115 => ?_)
      · refine go_bipush dX7_finer_131 ⟨by decide, by decide⟩ ?_
        refine go_reti dX7_finer_133 ?_
        first
        | (rw [if_neg (by omega), if_neg (by rw [← y2]; omega)] at es
           exact Or.inl ⟨by omega, by rw [← he, es], hq.tr (Qf.ff u3), ⟨φ1, _, ma1, u1⟩, hN.tr u4⟩)
      · refine go_aload_n dX7_finer_118 rfl rfl ?_
        refine g7_54 dX7_finer_119 ?_
        rw [hD1]
        refine g7_137 dX7_finer_122 ?_
        refine go_iload dX7_finer_125 rfl ?_
        refine go_iald dX7_finer_127 rfl (by omega) (by omega) ?_
        rw [show M1 (19, q, 4) r3 = G 4 r3 from congrFun (congrFun hg1 4) r3]
        refine go_if_ne (tgt := 134) dX7_finer_128 rfl (fun h128 => ?_) (fun h128 => ?_)
        · have hst := i1.2.2.2.2.2.2.2.2 r3 (by omega) (by omega) (by omega)
          have ho := (hH v0 v1).2 G r3 hG ⟨by omega, by omega, by omega, by omega⟩
          refine go_aload_n dX7_finer_134 rfl rfl ?_
          refine g7_54 dX7_finer_135 ?_
          rw [hD1]
          refine g7_137 dX7_finer_138 ?_
          refine go_iload dX7_finer_141 rfl ?_
          refine go_dup2_ir dX7_finer_143 ?_
          refine go_iald dX7_finer_144 rfl (by omega) (by omega) ?_
          rw [show M1 (19, q, 4) r3 = G 4 r3 from congrFun (congrFun hg1 4) r3]
          refine go_iconst dX7_finer_145 (R32_lit rfl) ?_
          refine go_isubc dX7_finer_146 ⟨by omega, by omega⟩ ?_
          refine go_iast dX7_finer_147 rfl (by omega) (by omega) ?_
          refine go_nmM (fun M3 eM3 => ?_)
          have hf3 : Pf q M1 M3 := by rw [eM3]; exact Pf.rf.wr19
          have hg3 : pgC M3 q = fnP G r3 := by rw [eM3, pgC_wr (by decide) (by decide), hg1]; rfl
          refine go_aload_n dX7_finer_148 rfl rfl ?_
          refine g7_54 dX7_finer_149 ?_
          rw [hD1]
          refine v7_279 dX7_finer_152 rfl ⟨rfl, rfl⟩ ⟨rfl, rfl⟩ (ct_X3_settleAll (by rw [hg3]; exact ho.1)) (fun r5 M5 N5 hr5 hq5 => ?_)
          first | refine go_pop_i dX7_finer_155 ?_ | refine go_pop_r dX7_finer_155 ?_
          refine go_iinc4c dX7_finer_156 rfl rfl ⟨by omega, by omega⟩ ?_
          refine go_goto (tgt := 57) dX7_finer_159 rfl ?_
          obtain ⟨s1, s2, rfl⟩ := hq5
          rw [hg3] at s1
          have s1' : pgC M5 q = fnA G r3 := by
            rcases s1 with ⟨_, _, w3⟩ | ⟨_, w2⟩
            · exact w3
            · exact absurd ho.2.1 w2
          rw [if_neg (by omega), if_pos (by rw [← y2]; omega), ← y2] at es
          exact ih (n - 1) (by omega) (i + 1) (fnA G r3) M5 N1 _ (by omega) (by omega) s1' ho.2.2 (s2.hasF (hf3.hasF ⟨φ1, _, ma1, u1⟩)) (hq.tr (Qf.ff u3 |>.tr (Qf.pf (hf3.tr s2)))) (hN.tr u4) (by rw [← es]; exact he)
        · refine go_bipush dX7_finer_131 ⟨by decide, by decide⟩ ?_
          refine go_reti dX7_finer_133 ?_
          first
          | (rw [if_neg (by omega), if_neg (by rw [← y2]; omega)] at es
             exact Or.inl ⟨by omega, by rw [← he, es], hq.tr (Qf.ff u3), ⟨φ1, _, ma1, u1⟩, hN.tr u4⟩)
    · refine go_iload dX7_finer_92 rfl ?_
      refine go_reti dX7_finer_94 ?_
      rw [if_pos (by omega)] at es
      exact Or.inl ⟨by omega, by rw [← he, es], hq.tr (Qf.ff u3), ⟨φ1, _, ma1, u1⟩, hN.tr u4⟩
set_option maxRecDepth 100000 in
set_option maxHeartbeats 4000000 in
theorem ct_X7_finer {E : Ev} {M : Mm} {N : Nn} {p q : Nat} {v k : Int} {Inv : Pg → Prop} (hC : N (3, 0, 0) 6 = (18, p, 0)) (hc : (pgC M p) 11 0 ≤ 15) (hD : N (3, 0, 0) 7 = (18, q, 0)) (hpq : p ≠ q) (hF : hasF M) (hI : 0 ≤ v → v < (pgC M p) 11 0 → Inv (pgC M p)) (hH : 0 ≤ v → v < (pgC M p) 11 0 → FnH Inv v) : Ct E yX7_finer cX7_finer 6 ((some .int)) (rmH 7) [vr (3, 0, 0), vi v, vi k] M N (qi (fun r M1 N1 => ((0 ≤ v ∧ v < (pgC M p) 11 0 ∧ 0 ≤ k ∧ k ≤ 1000000) ∧ r = fnS v k 97 0 (pgC M p) ∧ Qf q (tr M 0) M1 ∧ hasF M1 ∧ Nf 1 N N1 ∨ (0 ≤ v ∧ v < (pgC M p) 11 0 ∧ ¬ (0 ≤ k ∧ k ≤ 1000000)) ∧ r = -1 ∧ M1 = tr M 2 ∧ N = N1 ∨ ¬ (0 ≤ v ∧ v < (pgC M p) 11 0) ∧ r = -1 ∧ M1 = tr M 1 ∧ N = N1))) := by
  refine ct_of (own := RX7) (L0 := [vr (3, 0, 0), vi v, vi k, vn, vn, vn]) rfl (by decide +kernel) rfl rfl ?_
  refine go_aload_n dX7_finer_0 rfl rfl ?_
  refine g7_50 dX7_finer_1 ?_
  rw [hC]
  refine go_iload_n dX7_finer_4 rfl ?_
  refine v7_118 dX7_finer_5 rfl ⟨rfl, rfl⟩ ⟨rfl, rfl⟩ ct_X3_has (fun r1 M1 N1 hr1 hq1 => ?_)
  obtain ⟨e1, rfl, rfl⟩ := hq1
  have z1 := b1_iff e1
  refine go_if_ne (tgt := 17) dX7_finer_8 rfl (fun h8 => ?_) (fun h8 => ?_)
  · refine go_iload_n dX7_finer_17 rfl ?_
    refine v7_241 dX7_finer_18 rfl ⟨rfl, rfl⟩ ⟨rfl, rfl⟩ ct_X7_isLimit (fun r2 M2 N2 hr2 hq2 => ?_)
    obtain ⟨e2, rfl, rfl⟩ := hq2
    have z2 := b1_iff e2
    refine go_if_ne (tgt := 30) dX7_finer_21 rfl (fun h21 => ?_) (fun h21 => ?_)
    · refine go_aload_n dX7_finer_30 rfl rfl ?_
      refine go_iconst dX7_finer_31 (R32_lit rfl) ?_
      refine p7_61 dX7_finer_32 ?_
      refine go_aload_n dX7_finer_35 rfl rfl ?_
      refine g7_36 dX7_finer_36 ?_
      refine g7_266 dX7_finer_39 ?_
      refine go_ast3 dX7_finer_42 rfl rfl rfl ?_
      refine go_aload_n dX7_finer_43 rfl rfl ?_
      refine g7_54 dX7_finer_44 ?_
      rw [hD]
      refine go_aload_n dX7_finer_47 rfl rfl ?_
      refine g7_50 dX7_finer_48 ?_
      rw [hC]
      refine v7_269 dX7_finer_51 rfl ⟨rfl, rfl⟩ ⟨rfl, rfl⟩ (ct_X3_copy (p := q) (q := p) hpq) (fun M3 N3 hq3 => ?_)
      obtain ⟨g1, g2, rfl⟩ := hq3
      rw [pg_tr] at g1
      refine go_iconst dX7_finer_54 (R32_lit rfl) ?_
      refine go_ist4 dX7_finer_55 rfl rfl ?_
      exact lp_X7_finer hC hc hD hpq hF hI hH (by omega) (by omega) (by omega) (by omega) 97 0 (pgC M p) M3 N _ (by omega) (by omega) g1 (hI (by omega) (by omega)) (g2.hasF hF.tr) (Qf.pf g2) Nf.rf rfl
    · refine go_aload_n dX7_finer_24 rfl rfl ?_
      refine go_iconst dX7_finer_25 (R32_lit rfl) ?_
      refine v7_74 dX7_finer_26 rfl ⟨rfl, rfl⟩ ⟨rfl, rfl⟩ ct_X7_none (fun r9 M9 N9 hr9 hq9 => ?_)
      refine go_reti dX7_finer_29 ?_
      obtain ⟨y1, y2, rfl⟩ := hq9
      exact Or.inr (Or.inl ⟨by omega, y1, y2, rfl⟩)
  · refine go_aload_n dX7_finer_11 rfl rfl ?_
    refine go_iconst dX7_finer_12 (R32_lit rfl) ?_
    refine v7_74 dX7_finer_13 rfl ⟨rfl, rfl⟩ ⟨rfl, rfl⟩ ct_X7_none (fun r9 M9 N9 hr9 hq9 => ?_)
    refine go_reti dX7_finer_16 ?_
    obtain ⟨y1, y2, rfl⟩ := hq9
    exact Or.inr (Or.inr (⟨by omega, y1, y2, rfl⟩))
