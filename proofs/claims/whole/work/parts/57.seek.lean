/-- a move tried: whether the error grows, what it is then, the point -/
abbrev Tr : Type := Int × Int × (Int → Int)
def try1 (S : Pg) (a e v to : Int) (pt : Int → Int) : Tr := if to < S 2 v ∨ S 3 v < to then (0, e, pt) else if e < erS S (upI pt v to) a then (1, erS S (upI pt v to) a, upI pt v to) else (0, e, upI pt v to)
def tryF (S : Pg) (a e v here far : Int) (pt : Int → Int) : Tr := if (try1 S a e v (here + far) pt).1 = 1 then try1 S a e v (here + far) pt else try1 S a e v (here - far) (try1 S a e v (here + far) pt).2.2
def fr : Nat → Int
  | 0 => 0
  | n + 1 => ((2 ^ n : Nat) : Int)
def tryI (S : Pg) (a e v here : Int) : Nat → (Int → Int) → Tr
  | 0, pt => (0, e, pt)
  | n + 1, pt => if (tryF S a e v here (fr (n + 1)) pt).1 = 1 then tryF S a e v here (fr (n + 1)) pt else tryI S a e v here n (tryF S a e v here (fr (n + 1)) pt).2.2
def mvS (S : Pg) (a e : Int) : Nat → Int → (Int → Int) → Tr
  | 0, _, pt => (0, e, pt)
  | k + 1, i, pt => if wB (S 7 a) (S 10 i) = true then (if (tryI S a e (S 10 i) (pt (S 10 i)) 9 pt).1 = 1 then tryI S a e (S 10 i) (pt (S 10 i)) 9 pt else mvS S a e k (i + 1) (upI (tryI S a e (S 10 i) (pt (S 10 i)) 9 pt).2.2 (S 10 i) (pt (S 10 i)))) else mvS S a e k (i + 1) pt
theorem try1_b (S : Pg) (a e v to : Int) (pt : Int → Int) : (try1 S a e v to pt).1 = 0 ∨ (try1 S a e v to pt).1 = 1 := by
  unfold try1
  split
  · exact Or.inl rfl
  · split
    · exact Or.inr rfl
    · exact Or.inl rfl
theorem tryF_b (S : Pg) (a e v h f : Int) (pt : Int → Int) : (tryF S a e v h f pt).1 = 0 ∨ (tryF S a e v h f pt).1 = 1 := by
  unfold tryF
  split <;> exact try1_b _ _ _ _ _ _
theorem tryI_b (S : Pg) (a e v h : Int) : ∀ (n : Nat) (pt : Int → Int), (tryI S a e v h n pt).1 = 0 ∨ (tryI S a e v h n pt).1 = 1
  | 0, _ => Or.inl rfl
  | n + 1, pt => by
    unfold tryI
    split
    · exact tryF_b _ _ _ _ _ _ _
    · exact tryI_b S a e v h n _
theorem try1_o {S : Pg} {a e v to : Int} {pt : Int → Int} (h : PtO S pt) (h2 : -1000 ≤ S 2 v) (h3 : S 3 v ≤ 1000) : PtO S (try1 S a e v to pt).2.2 := by
  unfold try1
  split
  · exact h
  · rename_i q
    split
    · exact h.up (by omega) (by omega)
    · exact h.up (by omega) (by omega)
theorem tryF_o {S : Pg} {a e v here f : Int} {pt : Int → Int} (h : PtO S pt) (h2 : -1000 ≤ S 2 v) (h3 : S 3 v ≤ 1000) : PtO S (tryF S a e v here f pt).2.2 := by
  unfold tryF
  split
  · exact try1_o h h2 h3
  · exact try1_o (try1_o h h2 h3) h2 h3
theorem tryI_o {S : Pg} {a e v here : Int} (h2 : -1000 ≤ S 2 v) (h3 : S 3 v ≤ 1000) : ∀ (n : Nat) {pt : Int → Int}, PtO S pt → PtO S (tryI S a e v here n pt).2.2
  | 0, _, h => h
  | n + 1, pt, h => by
    unfold tryI
    split
    · exact tryF_o h h2 h3
    · exact tryI_o h2 h3 n (tryF_o h h2 h3)
theorem fr_9 {n : Nat} (h : n ≤ 9) : (n = 0 → fr n = 0) ∧ (0 < n → 1 ≤ fr n ∧ fr n ≤ 256 ∧ (fr n).tdiv 2 = fr (n - 1)) := by
  have hn : n = 0 ∨ n = 1 ∨ n = 2 ∨ n = 3 ∨ n = 4 ∨ n = 5 ∨ n = 6 ∨ n = 7 ∨ n = 8 ∨ n = 9 := by omega
  rcases hn with rfl | rfl | rfl | rfl | rfl | rfl | rfl | rfl | rfl | rfl <;> decide
theorem fr_bd {n : Nat} (h : n ≤ 9) : 0 ≤ fr n ∧ fr n ≤ 256 := by
  have hn : n = 0 ∨ n = 1 ∨ n = 2 ∨ n = 3 ∨ n = 4 ∨ n = 5 ∨ n = 6 ∨ n = 7 ∨ n = 8 ∨ n = 9 := by omega
  rcases hn with rfl | rfl | rfl | rfl | rfl | rfl | rfl | rfl | rfl | rfl <;> decide
set_option maxRecDepth 100000 in
set_option maxHeartbeats 4000000 in
theorem mv_try {E : Ev} {M : Mm} {N : Nn} {p : Nat} {a e i v here far to : Int} {Q : Int → Mm → Nn → Prop} {M' : Mm} {x y : Vv} (hk : SkH (pgC M p) a) (hf : Vf M M') (v0 : 0 ≤ v) (v1 : v < 15) (K : ∀ (M2 : Mm) (x y : Vv), Vf M M2 → M2 (25, 0, 0) = (try1 (pgC M p) a e v to (M' (25, 0, 0))).2.2 → (try1 (pgC M p) a e v to (M' (25, 0, 0))).1 = 0 → Go E RX6 cX6_moved 12 ((some .long)) (rmH 5) 0 0 (zM E (ql Q)) 125 [vr (23, 0, 0), vr (18, p, 0), vi a, vl e, vn, vi i, vi v, vi here, vi far, vi to, x, y] [] M2 N) (R : ∀ M2, Vf M M2 → M2 (25, 0, 0) = (try1 (pgC M p) a e v to (M' (25, 0, 0))).2.2 → (try1 (pgC M p) a e v to (M' (25, 0, 0))).1 = 1 → Q (try1 (pgC M p) a e v to (M' (25, 0, 0))).2.1 M2 N) : Go E RX6 cX6_moved 12 ((some .long)) (rmH 5) 0 0 (zM E (ql Q)) 71 [vr (23, 0, 0), vr (18, p, 0), vi a, vl e, vn, vi i, vi v, vi here, vi far, vi to, x, y] [] M' N := by
  have hg : pgC M' p = (pgC M p) := hf.pg
  have e2 : ∀ j, M' (19, p, 2) j = (pgC M p) 2 j := fun j => congrFun (congrFun hg 2) j
  have e3 : ∀ j, M' (19, p, 3) j = (pgC M p) 3 j := fun j => congrFun (congrFun hg 3) j
  refine go_iload dX6_moved_71 rfl ?_
  refine go_aload_n dX6_moved_73 rfl rfl ?_
  refine g6_57 dX6_moved_74 ?_
  refine go_iload dX6_moved_77 rfl ?_
  refine go_iald dX6_moved_79 rfl (by omega) (by omega) ?_
  rw [e2]
  refine go_icmp_lt (tgt := 125) dX6_moved_80 rfl (fun h80 => ?_) (fun h80 => ?_)
  · first
    | (have et : (try1 (pgC M p) a e v to (M' (25, 0, 0))) = (0, e, M' (25, 0, 0)) := if_pos (by omega)
       exact K _ _ _ hf (by rw [et]) (by rw [et]))
    | (have et : (try1 (pgC M p) a e v to (M' (25, 0, 0))) = (0, e, upI (M' (25, 0, 0)) v to) := by
         unfold try1
         rw [if_neg (by omega), if_neg (by omega)]
       exact K _ _ _ hf1 (by rw [et]; exact hp1) (by rw [et]))
  · refine go_iload dX6_moved_83 rfl ?_
    refine go_aload_n dX6_moved_85 rfl rfl ?_
    refine g6_84 dX6_moved_86 ?_
    refine go_iload dX6_moved_89 rfl ?_
    refine go_iald dX6_moved_91 rfl (by omega) (by omega) ?_
    rw [e3]
    refine go_icmp_le (tgt := 98) dX6_moved_92 rfl (fun h92 => ?_) (fun h92 => ?_)
    · refine go_aload_n dX6_moved_98 rfl rfl ?_
      refine g6_15 dX6_moved_99 ?_
      refine go_iload dX6_moved_102 rfl ?_
      refine go_iload dX6_moved_104 rfl ?_
      refine go_iast dX6_moved_106 rfl (by omega) (by omega) ?_
      refine go_nmM (fun M3 eM3 => ?_)
      have hf3 : Vf M M3 := by rw [eM3]; exact hf.w25
      have hg3 : pgC M3 p = (pgC M p) := hf3.pg
      have hp3 : M3 (25, 0, 0) = upI (M' (25, 0, 0)) v to := by rw [eM3, upI_wr]
      refine go_aload_n dX6_moved_107 rfl rfl ?_
      refine go_aload_n dX6_moved_108 rfl rfl ?_
      refine go_iload_n dX6_moved_109 rfl ?_
      refine v6_60 dX6_moved_110 rfl ⟨rfl, rfl⟩ ⟨rfl, rfl⟩ (ct_X6_errorHere (by rw [hg3]; exact hk)) (fun r1 M1 N1 hr1 hq1 => ?_)
      obtain ⟨e5, g5, rfl⟩ := hq1
      rw [hg3, hp3] at e5
      have hf1 : Vf M M1 := hf3.tr g5.vf
      have hp1 : M1 (25, 0, 0) = upI (M' (25, 0, 0)) v to := by rw [g5.pt]; exact hp3
      refine go_lst10 dX6_moved_113 rfl rfl ?_
      refine go_lload dX6_moved_115 rfl ?_
      refine go_lload_n dX6_moved_117 rfl ?_
      refine go_lcmp_le (tgt := 125) dX6_moved_118 dX6_moved_119 rfl (fun h118 => ?_) (fun h118 => ?_)
      · first
        | (have et : (try1 (pgC M p) a e v to (M' (25, 0, 0))) = (0, e, M' (25, 0, 0)) := if_pos (by omega)
           exact K _ _ _ hf (by rw [et]) (by rw [et]))
        | (have et : (try1 (pgC M p) a e v to (M' (25, 0, 0))) = (0, e, upI (M' (25, 0, 0)) v to) := by
             unfold try1
             rw [if_neg (by omega), if_neg (by omega)]
           exact K _ _ _ hf1 (by rw [et]; exact hp1) (by rw [et]))
      · refine go_lload dX6_moved_122 rfl ?_
        refine go_retl dX6_moved_124 ?_
        have et : (try1 (pgC M p) a e v to (M' (25, 0, 0))) = (1, erS (pgC M p) (upI (M' (25, 0, 0)) v to) a, upI (M' (25, 0, 0)) v to) := by
          unfold try1
          rw [if_neg (by omega), if_pos (by omega)]
        have hz := R _ hf1 (by rw [et]; exact hp1) (by rw [et])
        rw [et] at hz
        rw [e5]
        exact hz
    · refine go_goto (tgt := 125) dX6_moved_95 rfl ?_
      first
      | (have et : (try1 (pgC M p) a e v to (M' (25, 0, 0))) = (0, e, M' (25, 0, 0)) := if_pos (by omega)
         exact K _ _ _ hf (by rw [et]) (by rw [et]))
      | (have et : (try1 (pgC M p) a e v to (M' (25, 0, 0))) = (0, e, upI (M' (25, 0, 0)) v to) := by
           unfold try1
           rw [if_neg (by omega), if_neg (by omega)]
         exact K _ _ _ hf1 (by rw [et]; exact hp1) (by rw [et]))
set_option maxRecDepth 100000 in
set_option maxHeartbeats 4000000 in
theorem mv_far {E : Ev} {M : Mm} {N : Nn} {p : Nat} {a e i v here : Int} {Q : Int → Mm → Nn → Prop} (hk : SkH (pgC M p) a) (v0 : 0 ≤ v) (v1 : v < 15) (hh0 : -1000 ≤ here) (hh1 : here ≤ 1000) : ∀ (n : Nat) (M' : Mm) (x y z : Vv), (n ≤ 9) → (Vf M M') → (∀ (M2 : Mm) (f x y z : Vv), Vf M M2 → M2 (25, 0, 0) = (tryI (pgC M p) a e v here n (M' (25, 0, 0))).2.2 → (tryI (pgC M p) a e v here n (M' (25, 0, 0))).1 = 0 → Go E RX6 cX6_moved 12 ((some .long)) (rmH 5) 0 0 (zM E (ql Q)) 146 [vr (23, 0, 0), vr (18, p, 0), vi a, vl e, vn, vi i, vi v, vi here, f, x, y, z] [] M2 N) → (∀ M2, Vf M M2 → M2 (25, 0, 0) = (tryI (pgC M p) a e v here n (M' (25, 0, 0))).2.2 → (tryI (pgC M p) a e v here n (M' (25, 0, 0))).1 = 1 → Q (tryI (pgC M p) a e v here n (M' (25, 0, 0))).2.1 M2 N) → Go E RX6 cX6_moved 12 ((some .long)) (rmH 5) 0 0 (zM E (ql Q)) 48 [vr (23, 0, 0), vr (18, p, 0), vi a, vl e, vn, vi i, vi v, vi here, vi (fr n), x, y, z] [] M' N := by
  intro n
  induction n using Nat.strongRecOn with
  | ind n ih =>
  intro M' x y z hn hf K R
  have hfr := fr_9 hn
  have hs : 0 < n → (tryI (pgC M p) a e v here n (M' (25, 0, 0))) = if (tryF (pgC M p) a e v here (fr n) (M' (25, 0, 0))).1 = 1 then (tryF (pgC M p) a e v here (fr n) (M' (25, 0, 0))) else tryI (pgC M p) a e v here (n - 1) (tryF (pgC M p) a e v here (fr n) (M' (25, 0, 0))).2.2 := fun z => by
    have e : n = (n - 1) + 1 := by omega
    rw [e]; rfl
  have hF : (tryF (pgC M p) a e v here (fr n) (M' (25, 0, 0))) = if (try1 (pgC M p) a e v (here + fr n) (M' (25, 0, 0))).1 = 1 then (try1 (pgC M p) a e v (here + fr n) (M' (25, 0, 0))) else try1 (pgC M p) a e v (here - fr n) (try1 (pgC M p) a e v (here + fr n) (M' (25, 0, 0))).2.2 := rfl
  refine go_iload dX6_moved_48 rfl ?_
  refine go_iconst dX6_moved_50 (R32_lit rfl) ?_
  refine go_icmp_lt (tgt := 146) dX6_moved_51 rfl (fun h51 => ?_) (fun h51 => ?_)
  · have hn0 : n = 0 := by rcases Nat.eq_zero_or_pos n with z | z; exact z; (have := hfr.2 z; omega)
    have hs0 : (tryI (pgC M p) a e v here n (M' (25, 0, 0))) = (0, e, M' (25, 0, 0)) := by rw [hn0]; rfl
    exact K _ _ _ _ _ hf (by rw [hs0]) (by rw [hs0])
  · have hn0 : 0 < n := by rcases Nat.eq_zero_or_pos n with z | z; (have := hfr.1 z; omega); exact z
    have hfb := hfr.2 hn0
    refine go_iload dX6_moved_54 rfl ?_
    refine go_iload dX6_moved_56 rfl ?_
    refine go_iaddc dX6_moved_58 ⟨by omega, by omega⟩ ?_
    refine go_ist9 dX6_moved_59 rfl rfl ?_
    refine go_iload dX6_moved_61 rfl ?_
    refine go_iload dX6_moved_63 rfl ?_
    refine go_iload dX6_moved_65 rfl ?_
    refine go_isubc dX6_moved_67 ⟨by omega, by omega⟩ ?_
    refine go_icmp_lt (tgt := 137) dX6_moved_68 rfl (fun h68 => ?_) (fun h68 => ?_)
    · exfalso; omega
    · refine mv_try hk hf v0 v1 (fun M2 x y g1 g2 g3 => ?_) (fun M2 g1 g2 g3 => ?_)
      · skip
        refine go_iload dX6_moved_125 rfl ?_
        refine go_iconst dX6_moved_127 (R32_lit rfl) ?_
        refine go_iload dX6_moved_128 rfl ?_
        refine go_imulc dX6_moved_130 ⟨by omega, by omega⟩ ?_
        refine go_isubc dX6_moved_131 ⟨by omega, by omega⟩ ?_
        refine go_ist9 dX6_moved_132 rfl rfl ?_
        refine go_goto (tgt := 61) dX6_moved_134 rfl ?_
        refine go_iload dX6_moved_61 rfl ?_
        refine go_iload dX6_moved_63 rfl ?_
        refine go_iload dX6_moved_65 rfl ?_
        refine go_isubc dX6_moved_67 ⟨by omega, by omega⟩ ?_
        refine go_icmp_lt (tgt := 137) dX6_moved_68 rfl (fun h68 => ?_) (fun h68 => ?_)
        · exfalso; omega
        · rw [show here + fr n - 2 * fr n = here - fr n by omega]
          refine mv_try hk g1 v0 v1 (fun M3 x y g6 g7 g8 => ?_) (fun M3 g6 g7 g8 => ?_)
          · rw [g2] at g7 g8
            have hF2 : (tryF (pgC M p) a e v here (fr n) (M' (25, 0, 0))) = try1 (pgC M p) a e v (here - fr n) (try1 (pgC M p) a e v (here + fr n) (M' (25, 0, 0))).2.2 := by rw [hF, if_neg (by omega)]
            have hs2 := hs hn0
            rw [if_neg (by rw [hF2]; omega)] at hs2
            clear hs
            refine go_iload dX6_moved_125 rfl ?_
            refine go_iconst dX6_moved_127 (R32_lit rfl) ?_
            refine go_iload dX6_moved_128 rfl ?_
            refine go_imulc dX6_moved_130 ⟨by omega, by omega⟩ ?_
            refine go_isubc dX6_moved_131 ⟨by omega, by omega⟩ ?_
            refine go_ist9 dX6_moved_132 rfl rfl ?_
            refine go_goto (tgt := 61) dX6_moved_134 rfl ?_
            refine go_iload dX6_moved_61 rfl ?_
            refine go_iload dX6_moved_63 rfl ?_
            refine go_iload dX6_moved_65 rfl ?_
            refine go_isubc dX6_moved_67 ⟨by omega, by omega⟩ ?_
            refine go_icmp_lt (tgt := 137) dX6_moved_68 rfl (fun h68 => ?_) (fun h68 => ?_)
            · refine go_iload dX6_moved_137 rfl ?_
              have hfq := fr_bd (n := n - 1) (by omega)
              refine go_iconst dX6_moved_139 (R32_lit rfl) ?_
              refine go_idivc dX6_moved_140 (by decide) ⟨by omega, by omega⟩ ?_
              rw [hfb.2.2]
              refine go_ist8 dX6_moved_141 rfl rfl ?_
              refine go_goto (tgt := 48) dX6_moved_143 rfl ?_
              exact ih (n - 1) (by omega) M3 _ _ _ (by omega) g6 (fun M4 f x y z a1 a2 a3 => by
                rw [g7, ← hF2] at a2 a3
                exact K M4 f x y z a1 (by rw [hs2]; exact a2) (by rw [hs2]; exact a3)) (fun M4 a1 a2 a3 => by
                rw [g7, ← hF2] at a2 a3 ⊢
                rw [hs2] at R
                exact R M4 a1 a2 a3)
            · exfalso; omega
          · rw [g2] at g7 g8 ⊢
            have hF2 : (tryF (pgC M p) a e v here (fr n) (M' (25, 0, 0))) = try1 (pgC M p) a e v (here - fr n) (try1 (pgC M p) a e v (here + fr n) (M' (25, 0, 0))).2.2 := by rw [hF, if_neg (by omega)]
            have hs2 := hs hn0
            rw [if_pos (by rw [hF2]; omega)] at hs2
            rw [hs2, hF2] at R
            exact R M3 g6 g7 g8
      · have hF2 : (tryF (pgC M p) a e v here (fr n) (M' (25, 0, 0))) = (try1 (pgC M p) a e v (here + fr n) (M' (25, 0, 0))) := by rw [hF, if_pos g3]
        have hs2 := hs hn0
        rw [if_pos (by rw [hF2]; exact g3)] at hs2
        rw [hs2, hF2] at R
        exact R M2 g1 g2 g3
