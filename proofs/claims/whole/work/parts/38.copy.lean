section GH
variable {E : Ev} {own : String} {cc : ByteArray} {nL : Nat} {ret : Option FieldType} {R : Room} {cl sl : Nat} {Z : Zt} {pc : Nat} {L st : List Vv} {M M' : Mm} {N : Nn} {H : Heap}
theorem arrV_congr {c : ClassId} {n : Nat} {f g : Nat → Value} (h : ∀ j, j < n → f j = g j) : arrV c n f = arrV c n g := by
  unfold arrV
  have e : (fun j : Fin n => f j.val) = (fun j : Fin n => g j.val) := funext (fun j => h j.val j.isLt)
  rw [e]
theorem va_at_cel {a : Nat} {n : Nm} (h : va_at (eD E) vwCl (a, cel E M N n) H) (hk : ∀ k : Nat, k < (shp n).2 → M' n k = M n k) : va_at (eD E) vwCl (a, cel E M' N n) H := by
  unfold cel at h ⊢
  cases h1 : Nat.blt (shp n).1 20 with
  | true =>
    rw [h1] at h
    have e : (List.range (shp n).2).map (fvl E M' N n) = (List.range (shp n).2).map (fvl E M N n) := by
      apply List.map_congr_left
      intro k hkr
      unfold fvl
      rw [hk k (List.mem_range.mp hkr)]
    rw [e]
    exact h
  | false =>
    rw [h1] at h
    cases h2 : Nat.beq (shp n).1 22 with
    | true =>
      rw [h2] at h
      have h3 : H[a]? = some (arrV (eC E 2) (shp n).2 (fun j => .long (Int64.ofInt (M n j)))) := h
      show H[a]? = some (arrV (eC E 2) (shp n).2 (fun j => .long (Int64.ofInt (M' n j))))
      rw [h3]
      exact congrArg some (arrV_congr (fun j hj => by rw [hk j hj]))
    | false =>
      rw [h2] at h
      cases h4 : Nat.beq (shp n).1 24 with
      | true => rw [h4] at h; exact h
      | false =>
        rw [h4] at h
        have h3 : H[a]? = some (arrV (eC E ((shp n).1 - 20)) (shp n).2 (fun j => .int (Int32.ofInt (M n j)))) := h
        show H[a]? = some (arrV (eC E ((shp n).1 - 20)) (shp n).2 (fun j => .int (Int32.ofInt (M' n j))))
        rw [h3]
        exact congrArg some (arrV_congr (fun j hj => by rw [hk j hj]))
theorem Hd_ghost (hP : Hd E M N H) (h : ∀ n ∈ nmL, ∀ k : Nat, k < (shp n).2 → M' n k = M n k) (hR : Rg M' N) : Hd E M' N H := by
  refine ⟨fun k q hk => ?_, hR⟩
  unfold wsl at hk
  rw [List.getElem?_map] at hk
  cases hx : nmL[k]? with
  | none => rw [hx] at hk; cases hk
  | some n =>
    rw [hx] at hk
    cases hk
    have hn : n ∈ nmL := List.mem_of_getElem? hx
    have h0 := hP.1 (adr n) _ (wsl_at hn)
    exact va_at_cel h0 (h n hn)
/-- what no cell holds may be thought otherwise -/
theorem go_ghost (h : ∀ n ∈ nmL, ∀ k : Nat, k < (shp n).2 → M' n k = M n k) (hR : Rg M N → Rg M' N) (k : Go E own cc nL ret R cl sl Z pc L st M' N) : Go E own cc nL ret R cl sl Z pc L st M N := by
  intro p e s m args below meth c C H locs ls hP hS hL hst hl
  exact k p e s m args below meth c C H locs ls (Hd_ghost hP h (hR hP.2)) hS hL hst hl
end GH
/-- a program copied -/
def Mc (M : Mm) (p q : Nat) : Mm := fun n j => if n.1 = 19 ∧ n.2.1 = p then M (19, q, n.2.2) j else if n = (18, p, 0) ∧ j = 11 then M (18, q, 0) 11 else if n = (18, p, 0) ∧ j = 12 then M (18, q, 0) 12 else M n j
theorem nm19 : ∀ n ∈ nmL, n.1 = 19 → n.2.2 < 11 := by decide +kernel
theorem Mc_pg {M : Mm} {p q : Nat} : pgC (Mc M p q) p = pgC M q := by
  funext k i
  unfold pgC Mc
  dsimp only
  by_cases h1 : k = 11
  · rw [if_pos h1, if_pos h1, if_neg (by simp), if_pos ⟨rfl, rfl⟩]
  · rw [if_neg h1, if_neg h1]
    by_cases h2 : k = 12
    · rw [if_pos h2, if_pos h2, if_neg (by simp), if_neg (by simp), if_pos ⟨rfl, rfl⟩]
    · rw [if_neg h2, if_neg h2, if_pos ⟨rfl, rfl⟩]
theorem Mc_Pf {M : Mm} {p q : Nat} : Pf p M (Mc M p q) := by
  intro n a b
  funext j
  unfold Mc
  rw [if_neg b, if_neg (fun e => a e.1), if_neg (fun e => a e.1)]
theorem Mc_Rg {M0 : Mm} {N : Nn} {p q : Nat} (h0 : Rg M0 N) : Rg (Mc M0 p q) N := by
  intro n k
  unfold Mc
  have h := h0 n k
  refine ⟨fun hs => ?_, fun hs => ?_, h.2.2⟩
  · split
    · rename_i e
      have hs2 : slk (19, q, n.2.2) k = 0 := by
        obtain ⟨a, b, c⟩ := n
        obtain ⟨e1, e2⟩ := e
        dsimp only at e1 e2
        subst e1 e2
        exact hs
      exact (h0 (19, q, n.2.2) k).1 hs2
    · split
      · exact (h0 (18, q, 0) 11).1 rfl
      · split
        · exact (h0 (18, q, 0) 12).1 rfl
        · exact h.1 hs
  · split
    · rename_i e
      have hs2 : slk (19, q, n.2.2) k = 1 := by
        obtain ⟨a, b, c⟩ := n
        obtain ⟨e1, e2⟩ := e
        dsimp only at e1 e2
        subst e1 e2
        exact hs
      exact (h0 (19, q, n.2.2) k).2.1 hs2
    · split
      · rename_i e
        rw [e.1, show k = 11 by omega] at hs
        exact absurd (show 0 = 1 from hs) (by decide)
      · split
        · rename_i e
          rw [e.1, show k = 12 by omega] at hs
          exact absurd (show 0 = 1 from hs) (by decide)
        · exact h.2.1 hs
set_option maxRecDepth 100000 in
set_option maxHeartbeats 4000000 in
theorem ct_X3_copy {E : Ev} {M : Mm} {N : Nn} {p q : Nat} (hpq : q ≠ p) : Ct E yX3_copy cX3_copy 2 (none) (rmH 1) [vr (18, p, 0), vr (18, q, 0)] M N (qv (fun M1 N1 => pgC M1 p = pgC M q ∧ Pf p M M1 ∧ N = N1)) := by
  refine ct_of (own := RX3) (L0 := [vr (18, p, 0), vr (18, q, 0)]) rfl (by decide +kernel) rfl rfl ?_
  refine go_rg (fun hR0 _ _ => ?_)
  refine go_aload_n dX3_copy_0 rfl rfl ?_
  refine g3_9 dX3_copy_1 ?_
  refine go_iconst dX3_copy_4 (R32_lit rfl) ?_
  refine go_aload_n dX3_copy_5 rfl rfl ?_
  refine g3_9 dX3_copy_6 ?_
  refine go_iconst dX3_copy_9 (R32_lit rfl) ?_
  refine go_bipush dX3_copy_10 ⟨by decide, by decide⟩ ?_
  refine go_copyi dX3_copy_12 a3_46 rfl rfl (by omega) (by omega) (by omega) (by omega) (by omega) ⟨Nat.le_of_ble_eq_true rfl, Nat.le_of_ble_eq_true rfl⟩ ?_
  refine go_aload_n dX3_copy_15 rfl rfl ?_
  refine g3_15 dX3_copy_16 ?_
  refine go_iconst dX3_copy_19 (R32_lit rfl) ?_
  refine go_aload_n dX3_copy_20 rfl rfl ?_
  refine g3_15 dX3_copy_21 ?_
  refine go_iconst dX3_copy_24 (R32_lit rfl) ?_
  refine go_bipush dX3_copy_25 ⟨by decide, by decide⟩ ?_
  refine go_copyi dX3_copy_27 a3_46 rfl rfl (by omega) (by omega) (by omega) (by omega) (by omega) ⟨Nat.le_of_ble_eq_true rfl, Nat.le_of_ble_eq_true rfl⟩ ?_
  refine go_aload_n dX3_copy_30 rfl rfl ?_
  refine g3_18 dX3_copy_31 ?_
  refine go_iconst dX3_copy_34 (R32_lit rfl) ?_
  refine go_aload_n dX3_copy_35 rfl rfl ?_
  refine g3_18 dX3_copy_36 ?_
  refine go_iconst dX3_copy_39 (R32_lit rfl) ?_
  refine go_bipush dX3_copy_40 ⟨by decide, by decide⟩ ?_
  refine go_copyi dX3_copy_42 a3_46 rfl rfl (by omega) (by omega) (by omega) (by omega) (by omega) ⟨Nat.le_of_ble_eq_true rfl, Nat.le_of_ble_eq_true rfl⟩ ?_
  refine go_aload_n dX3_copy_45 rfl rfl ?_
  refine g3_21 dX3_copy_46 ?_
  refine go_iconst dX3_copy_49 (R32_lit rfl) ?_
  refine go_aload_n dX3_copy_50 rfl rfl ?_
  refine g3_21 dX3_copy_51 ?_
  refine go_iconst dX3_copy_54 (R32_lit rfl) ?_
  refine go_bipush dX3_copy_55 ⟨by decide, by decide⟩ ?_
  refine go_copyi dX3_copy_57 a3_46 rfl rfl (by omega) (by omega) (by omega) (by omega) (by omega) ⟨Nat.le_of_ble_eq_true rfl, Nat.le_of_ble_eq_true rfl⟩ ?_
  refine go_aload_n dX3_copy_60 rfl rfl ?_
  refine g3_24 dX3_copy_61 ?_
  refine go_iconst dX3_copy_64 (R32_lit rfl) ?_
  refine go_aload_n dX3_copy_65 rfl rfl ?_
  refine g3_24 dX3_copy_66 ?_
  refine go_iconst dX3_copy_69 (R32_lit rfl) ?_
  refine go_bipush dX3_copy_70 ⟨by decide, by decide⟩ ?_
  refine go_copyi dX3_copy_72 a3_46 rfl rfl (by omega) (by omega) (by omega) (by omega) (by omega) ⟨Nat.le_of_ble_eq_true rfl, Nat.le_of_ble_eq_true rfl⟩ ?_
  refine go_aload_n dX3_copy_75 rfl rfl ?_
  refine g3_27 dX3_copy_76 ?_
  refine go_iconst dX3_copy_79 (R32_lit rfl) ?_
  refine go_aload_n dX3_copy_80 rfl rfl ?_
  refine g3_27 dX3_copy_81 ?_
  refine go_iconst dX3_copy_84 (R32_lit rfl) ?_
  refine go_bipush dX3_copy_85 ⟨by decide, by decide⟩ ?_
  refine go_copyi dX3_copy_87 a3_46 rfl rfl (by omega) (by omega) (by omega) (by omega) (by omega) ⟨Nat.le_of_ble_eq_true rfl, Nat.le_of_ble_eq_true rfl⟩ ?_
  refine go_aload_n dX3_copy_90 rfl rfl ?_
  refine g3_30 dX3_copy_91 ?_
  refine go_iconst dX3_copy_94 (R32_lit rfl) ?_
  refine go_aload_n dX3_copy_95 rfl rfl ?_
  refine g3_30 dX3_copy_96 ?_
  refine go_iconst dX3_copy_99 (R32_lit rfl) ?_
  refine go_bipush dX3_copy_100 ⟨by decide, by decide⟩ ?_
  refine go_copyl dX3_copy_102 a3_46 rfl rfl (by omega) (by omega) (by omega) (by omega) (by omega) ⟨Nat.le_of_ble_eq_true rfl, Nat.le_of_ble_eq_true rfl⟩ ?_
  refine go_aload_n dX3_copy_105 rfl rfl ?_
  refine g3_34 dX3_copy_106 ?_
  refine go_iconst dX3_copy_109 (R32_lit rfl) ?_
  refine go_aload_n dX3_copy_110 rfl rfl ?_
  refine g3_34 dX3_copy_111 ?_
  refine go_iconst dX3_copy_114 (R32_lit rfl) ?_
  refine go_bipush dX3_copy_115 ⟨by decide, by decide⟩ ?_
  refine go_copyi dX3_copy_117 a3_46 rfl rfl (by omega) (by omega) (by omega) (by omega) (by omega) ⟨Nat.le_of_ble_eq_true rfl, Nat.le_of_ble_eq_true rfl⟩ ?_
  refine go_aload_n dX3_copy_120 rfl rfl ?_
  refine g3_37 dX3_copy_121 ?_
  refine go_iconst dX3_copy_124 (R32_lit rfl) ?_
  refine go_aload_n dX3_copy_125 rfl rfl ?_
  refine g3_37 dX3_copy_126 ?_
  refine go_iconst dX3_copy_129 (R32_lit rfl) ?_
  refine go_bipush dX3_copy_130 ⟨by decide, by decide⟩ ?_
  refine go_copyi dX3_copy_132 a3_46 rfl rfl (by omega) (by omega) (by omega) (by omega) (by omega) ⟨Nat.le_of_ble_eq_true rfl, Nat.le_of_ble_eq_true rfl⟩ ?_
  refine go_aload_n dX3_copy_135 rfl rfl ?_
  refine g3_40 dX3_copy_136 ?_
  refine go_iconst dX3_copy_139 (R32_lit rfl) ?_
  refine go_aload_n dX3_copy_140 rfl rfl ?_
  refine g3_40 dX3_copy_141 ?_
  refine go_iconst dX3_copy_144 (R32_lit rfl) ?_
  refine go_bipush dX3_copy_145 ⟨by decide, by decide⟩ ?_
  refine go_copyi dX3_copy_147 a3_46 rfl rfl (by omega) (by omega) (by omega) (by omega) (by omega) ⟨Nat.le_of_ble_eq_true rfl, Nat.le_of_ble_eq_true rfl⟩ ?_
  refine go_aload_n dX3_copy_150 rfl rfl ?_
  refine g3_43 dX3_copy_151 ?_
  refine go_iconst dX3_copy_154 (R32_lit rfl) ?_
  refine go_aload_n dX3_copy_155 rfl rfl ?_
  refine g3_43 dX3_copy_156 ?_
  refine go_iconst dX3_copy_159 (R32_lit rfl) ?_
  refine go_iconst dX3_copy_160 (R32_lit rfl) ?_
  refine go_copyi dX3_copy_161 a3_46 rfl rfl (by omega) (by omega) (by omega) (by omega) (by omega) ⟨Nat.le_of_ble_eq_true rfl, Nat.le_of_ble_eq_true rfl⟩ ?_
  refine go_aload_n dX3_copy_164 rfl rfl ?_
  refine go_aload_n dX3_copy_165 rfl rfl ?_
  refine g3_52 dX3_copy_166 ?_
  refine p3_52 dX3_copy_169 ?_
  refine go_aload_n dX3_copy_172 rfl rfl ?_
  refine go_aload_n dX3_copy_173 rfl rfl ?_
  refine g3_56 dX3_copy_174 ?_
  refine p3_56 dX3_copy_177 ?_
  refine go_rg (fun hRg _ _ => ?_)
  refine go_ghost (M' := Mc M p q) ?_ (fun _ => Mc_Rg hR0) ?_
  · intro n hn k hk
    obtain ⟨a, b, c⟩ := n
    unfold Mc
    by_cases e : a = 19 ∧ b = p
    · obtain ⟨rfl, rfl⟩ := e
      have hc := nm19 _ hn rfl
      dsimp only at hc
      have hz : c = 0 ∨ c = 1 ∨ c = 2 ∨ c = 3 ∨ c = 4 ∨ c = 5 ∨ c = 6 ∨ c = 7 ∨ c = 8 ∨ c = 9 ∨ c = 10 := by omega
      rcases hz with rfl | rfl | rfl | rfl | rfl | rfl | rfl | rfl | rfl | rfl | rfl <;>
      · have hk3 : (0 : Int) ≤ k := Int.natCast_nonneg k
        simp [cpM, wr, hpq]
        try (intro h
             exfalso
             first | (have hk5 : k < 15 := hk; omega) | (have hk5 : k < 60 := hk; omega) | (have hk5 : k < 3 := hk; omega))
    · have e19 : ¬ ((a, b, c) : Nm).1 = 19 ∨ ¬ ((a, b, c) : Nm).2.1 = p := by
        rcases Classical.em (a = 19) with h | h
        · exact Or.inr (fun h2 => e ⟨h, h2⟩)
        · exact Or.inl h
      have hne : ∀ c', ¬ ((a, b, c) : Nm) = (19, p, c') := fun c' h => e ⟨congrArg (fun z => z.1) h, congrArg (fun z => z.2.1) h⟩
      simp only [cpM, wr, hne, false_and, if_false]
      simp [e, hpq]
      try omega
  refine go_retv dX3_copy_180 ?_
  refine ⟨Mc_pg, Mc_Pf, rfl⟩
