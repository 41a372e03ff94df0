def nu0 : Nu := (0, (fun _ => 0), (fun _ => 0))
def sZ : FT := ((fun _ => fz), nu0, (fun _ => 0))
/-- the inputs of a program reckoned -/
def sI (S : Pg) (i : Nat) : FT := inI (S 2) (S 3) (S 10) sZ i
def sK (S : Pg) (W : Int → Bool) (v : Nat) : FT := skF S (S 5) W (sI S (S 12 0).toNat) v
def wB (wd : Int) : Int → Bool := fun v => decide (iand (ishr wd v) 1 ≠ 0)
theorem FS.nu0 {M : Mm} {f : Nat} {φ : Nat → FV} {ν : Nu} {ma : Int → Int} (h : FS M f φ ν ma) : FS (wr M (7, f, 0) 3 0) f φ nu0 ma := by
  obtain ⟨h1, h2, h3, h4, h5, h6, h7⟩ := h
  refine ⟨h1.keep (fun j => by funext i; rw [wr_nn (nm_ne1 (by decide))]) (fun j => by funext i; rw [wr_nn (nm_ne1 (by decide))]), wr_eq _ _ _ _, Int.le_refl 0, by decide, fun i i0 i1 => absurd (show i < 0 from i1) (by omega), fun w w0 w1 => ?_, h7⟩
  rw [wr_nn (nm_ne1 (by decide))]; exact h6 w w0 w1
theorem sI_nu (S : Pg) : ∀ i : Nat, (sI S i).2.1.1 = i
  | 0 => rfl
  | i + 1 => by
    show (sI S i).2.1.1 + 1 = _
    rw [sI_nu S i]; omega
theorem sK_nu (S : Pg) (W : Int → Bool) : ∀ v : Nat, (sK S W v).2.1.1 ≤ (sI S (S 12 0).toNat).2.1.1 + 5 * cnS S v ∧ 0 ≤ (sK S W v).2.1.1
  | 0 => by
    have := sI_nu S (S 12 0).toNat
    show (sI S (S 12 0).toNat).2.1.1 ≤ (sI S (S 12 0).toNat).2.1.1 + 5 * 0 ∧ 0 ≤ (sI S (S 12 0).toNat).2.1.1
    omega
  | v + 1 => by
    have ih := sK_nu S W v
    have e : cnS S (v + 1) = if S 0 v ≠ -2 then cnS S v + 1 else cnS S v := rfl
    have e2 : sK S W (v + 1) = if S 0 v ≠ -2 ∧ W v = true then stF S (S 5) v (sK S W v) else sK S W v := rfl
    rw [e, e2]
    by_cases h : S 0 v ≠ -2 ∧ W v = true
    · rw [if_pos h, if_pos h.1]
      have h1 := stN_le (S := S) (φ := (sK S W v).1) (ν := (sK S W v).2.1) (v := v)
      have h2 := bnu_le (ν := stN S (sK S W v).1 (sK S W v).2.1 v) (c := rnC S (S 5) v) (v := v) (b := 3)
      show (bnu (stN S (sK S W v).1 (sK S W v).2.1 v) (rnC S (S 5) v) v 3).1 ≤ _ ∧ 0 ≤ (bnu (stN S (sK S W v).1 (sK S W v).2.1 v) (rnC S (S 5) v) v 3).1
      omega
    · rw [if_neg h]
      split <;> omega
theorem cnS_0 (S : Pg) : ∀ n : Nat, 0 ≤ cnS S n
  | 0 => Int.le_refl 0
  | n + 1 => by
    have := cnS_0 S n
    show 0 ≤ if S 0 n ≠ -2 then cnS S n + 1 else cnS S n
    split <;> omega
/-- which variables are reckoned already -/
def Rd (S : Pg) (W : Int → Bool) (i w : Int) : Prop := 0 ≤ w ∧ w < S 11 0 ∧ (S 0 w = -2 ∨ (S 0 w ≠ -2 ∧ W w = true ∧ w < i))
/-- what a reckoning leaves -/
def Rk (S : Pg) (W : Int → Bool) (i : Int) (s : FT) (φ : Nat → FV) (ma : Int → Int) : Prop := ∀ w, Rd S W i w → Ag φ s.1 w.toNat ∧ ma w = s.2.2 w
set_option maxRecDepth 100000 in
set_option maxHeartbeats 4000000 in
theorem lp_X1_reckon2 {E : Ev} {M : Mm} {N : Nn} {f p : Nat} {wd : Int} (hc : RC (pgC M p)) (hW : Clo (pgC M p) (wB wd)) : ∀ (n : Nat) (i : Int) (M' : Mm) (N' : Nn) (φ' : Nat → FV) (ma' : Int → Int) (x4 : Vv), (i + n = pgC M p 11 0) → (0 ≤ i) → (Ff f M M') → (Nf f N N') → (FS M' f φ' (sK (pgC M p) (wB wd) i.toNat).2.1 ma') → (Rk (pgC M p) (wB wd) i (sK (pgC M p) (wB wd) i.toNat) φ' ma') → Go E RX1 cX1_reckon 5 (none) (rmH 6) 0 0 (zM E (qv (fun M1 N1 => (∃ φ1 ma1, FS M1 f φ1 (sK (pgC M p) (wB wd) (pgC M p 11 0).toNat).2.1 ma1 ∧ Rk (pgC M p) (wB wd) (pgC M p 11 0) (sK (pgC M p) (wB wd) (pgC M p 11 0).toNat) φ1 ma1) ∧ Ff f M M1 ∧ Nf f N N1))) 34 [vr (7, f, 0), vr (18, p, 0), vi wd, vi i, x4] [] M' N' := by
  intro n
  induction n using Nat.strongRecOn with
  | ind n ih =>
  intro i M' N' φ' ma' x4 hn h0 hf hN hF hR
  obtain ⟨hn0, hn1, hm0, hm1, hcn, hin, hin2, hin3, hst⟩ := id hc
  have hp' : pgC M' p = pgC M p := hf.pg
  have h11 : M' (18, p, 0) 11 = pgC M p 11 0 := congrFun (congrFun hp' 11) 0
  have hit : ((i.toNat : Nat) : Int) = i := Int.toNat_of_nonneg h0
  have esucc : sK (pgC M p) (wB wd) (i + 1).toNat = if pgC M p 0 i ≠ -2 ∧ wB wd i = true then stF (pgC M p) (pgC M p 5) i (sK (pgC M p) (wB wd) i.toNat) else sK (pgC M p) (wB wd) i.toNat := by
    rw [show (i + 1).toNat = i.toNat + 1 by omega]
    show (if pgC M p 0 ((i.toNat : Nat) : Int) ≠ -2 ∧ wB wd ((i.toNat : Nat) : Int) = true then stF (pgC M p) (pgC M p 5) ((i.toNat : Nat) : Int) (sK (pgC M p) (wB wd) i.toNat) else _) = _
    rw [hit]
    rfl
  refine go_iload_n dX1_reckon_34 rfl ?_
  refine go_aload_n dX1_reckon_35 rfl rfl ?_
  refine g1_69 dX1_reckon_36 ?_
  rw [h11]
  refine go_icmp_ge (tgt := 171) dX1_reckon_39 rfl (fun h39 => ?_) (fun h39 => ?_)
  · refine go_retv dX1_reckon_171 ?_
    have hi : i = pgC M p 11 0 := by omega
    subst hi
    exact ⟨⟨φ', ma', hF, hR⟩, hf, hN⟩
  · refine go_iload_n dX1_reckon_42 rfl ?_
    refine go_iload_n dX1_reckon_43 rfl ?_
    refine go_ishr dX1_reckon_44 ?_
    refine go_iconst dX1_reckon_45 (R32_lit rfl) ?_
    refine go_iand dX1_reckon_46 ?_
    refine go_if_ne (tgt := 53) dX1_reckon_47 rfl (fun h47 => ?_) (fun h47 => ?_)
    · have hwi : wB wd i = true := by unfold wB; rw [decide_eq_true_eq]; exact h47
      refine go_aload_n dX1_reckon_53 rfl rfl ?_
      refine g1_72 dX1_reckon_54 ?_
      refine go_iload_n dX1_reckon_57 rfl ?_
      refine go_iald dX1_reckon_58 rfl (by omega) (by omega) ?_
      rw [show M' (19, p, 0) i = pgC M p 0 i from congrFun (congrFun hp' 0) i]
      refine go_nmi (fun s0 es => ?_)
      rcases Classical.em (pgC M p 0 i = -2) with hsi | hsi
      · have hx : s0 = -2 := by omega
        subst hx
        refine go_tableOut (tgt := 126) dX1_reckon_59 (Or.inl (by decide)) rfl ?_
        refine go_goto (tgt := 165) dX1_reckon_126 rfl ?_
        refine go_iinc3c dX1_reckon_165 rfl rfl ⟨by omega, by omega⟩ ?_
        refine go_goto (tgt := 34) dX1_reckon_168 rfl ?_
        have hneg : ¬ (pgC M p 0 i ≠ -2 ∧ wB wd i = true) := (fun q => q.1 hsi)
        exact ih (n - 1) (by omega) (i + 1) M' N' φ' ma' _ (by omega) (by omega) hf hN (by rw [esucc, if_neg hneg]; exact hF) (fun w hw => by
          rw [esucc, if_neg hneg]
          refine hR w ⟨hw.1, hw.2.1, hw.2.2.elim Or.inl (fun q => Or.inr ⟨q.1, q.2.1, ?_⟩)⟩
          have := q.2.2
          rcases Classical.em (w = i) with e | e
          · exact absurd (show pgC M p 0 i ≠ -2 ∧ wB wd i = true by rw [← e]; exact ⟨q.1, q.2.1⟩) hneg
          · omega)
      have hsti := hst i h0 (by omega) hsi
      have hcnk : cnS (pgC M p) (i.toNat + 1) ≤ 12 := Int.le_trans (cnS_le (pgC M p) (i.toNat + 1) (pgC M p 11 0).toNat (by omega)) hcn
      have hcnk2 : cnS (pgC M p) (i.toNat + 1) = cnS (pgC M p) i.toNat + 1 := by
        show (if pgC M p 0 ((i.toNat : Nat) : Int) ≠ -2 then _ else _) = _
        rw [hit, if_pos hsi]
      have hbk := sK_nu (pgC M p) (wB wd) i.toNat
      have hiu := sI_nu (pgC M p) (pgC M p 12 0).toNat
      have hopk : Op (pgC M p) i φ' (sK (pgC M p) (wB wd) i.toNat).1 := by
        intro k k0 k1 kq
        have hlt := ((hsti.1.at k k0 k1).1 kq).1
        refine (hR _ ⟨kq, by omega, ?_⟩).1
        rcases Classical.em (pgC M p 0 (pgC M p 8 (4 * i + k)) = -2) with q | q
        · exact Or.inl q
        · exact Or.inr ⟨q, hW i h0 (by omega) hsi hwi k k0 k1 kq q, hlt⟩
      have hco := st_congr (ν := (sK (pgC M p) (wB wd) i.toNat).2.1) hopk
      have key : ∀ (M1 : Mm) (N1 : Nn) (φ1 : Nat → FV) (x4 : Vv), FS M1 f φ1 (stN (pgC M p) φ' (sK (pgC M p) (wB wd) i.toNat).2.1 i) (maU ma' i (stM (pgC M p) φ' i)) → St i.toNat φ' φ1 (stV (pgC M p) φ' (sK (pgC M p) (wB wd) i.toNat).2.1 i) (stD (pgC M p) φ' (sK (pgC M p) (wB wd) i.toNat).2.1 i) → Ff f M M1 → Nf f N N1 → Go E RX1 cX1_reckon 5 (none) (rmH 6) 0 0 (zM E (qv (fun M1 N1 => (∃ φ1 ma1, FS M1 f φ1 (sK (pgC M p) (wB wd) (pgC M p 11 0).toNat).2.1 ma1 ∧ Rk (pgC M p) (wB wd) (pgC M p 11 0) (sK (pgC M p) (wB wd) (pgC M p 11 0).toNat) φ1 ma1) ∧ Ff f M M1 ∧ Nf f N N1))) 129 [vr (7, f, 0), vr (18, p, 0), vi wd, vi i, x4] [] M1 N1 := by
        intro M1 N1 φ1 x4 hF1 hS1 hf1 hN1
        have hp1 : pgC M1 p = pgC M p := hf1.pg
        have h4 : ∀ w, M1 (19, p, 4) w = pgC M p 4 w := fun w => congrFun (congrFun hp1 4) w
        have hsn : stN (pgC M p) φ' (sK (pgC M p) (wB wd) i.toNat).2.1 i = stN (pgC M p) (sK (pgC M p) (wB wd) i.toNat).1 (sK (pgC M p) (wB wd) i.toNat).2.1 i := hco.2.2.1
        have hbn := stN_le (S := pgC M p) (φ := φ') (ν := (sK (pgC M p) (wB wd) i.toNat).2.1) (v := i)
        refine go_aload_n dX1_reckon_129 rfl rfl ?_
        refine g1_85 dX1_reckon_130 ?_
        refine go_iload_n dX1_reckon_133 rfl ?_
        refine go_iald dX1_reckon_134 rfl (by omega) (by omega) ?_
        rw [h4]
        refine go_nmi (fun g eg => ?_)
        have hg0 : 0 ≤ g ∧ g ≤ 8 := by rw [eg]; exact ⟨hsti.2.1, hsti.2.2.1⟩
        refine go_ist4 dX1_reckon_135 rfl rfl ?_
        refine go_aload_n dX1_reckon_137 rfl rfl ?_
        refine go_iload_n dX1_reckon_138 rfl ?_
        refine v1_88 dX1_reckon_139 rfl ⟨rfl, rfl⟩ ⟨rfl, rfl⟩ (ct_X3_reckonedFine h0 (by omega) (by rw [hp1]; exact hsti.1)) (fun r8 M8 N8 hr8 hq8 => ?_)
        obtain ⟨e8, rfl, rfl⟩ := hq8
        rw [hp1] at e8
        have hrb := rfS_bd hsti.1
        rw [← e8] at hrb
        refine go_iload dX1_reckon_142 rfl ?_
        refine go_icmp_ge (tgt := 165) dX1_reckon_144 rfl (fun h144 => ?_) (fun h144 => ?_)
        · refine go_iinc3c dX1_reckon_165 rfl rfl ⟨by omega, by omega⟩ ?_
          refine go_goto (tgt := 34) dX1_reckon_168 rfl ?_
          exact ih (n - 1) (by omega) (i + 1) _ _ _ _ _ (by omega) (by omega) hf1 hN1 (by
            rw [esucc, if_pos ⟨hsi, hwi⟩]
            show FS _ f _ (bnu (stN (pgC M p) (sK (pgC M p) (wB wd) i.toNat).1 (sK (pgC M p) (wB wd) i.toNat).2.1 i) (rnC (pgC M p) (pgC M p 5) i) i 3) _
            rw [← hsn]
            have e0 : rnC (pgC M p) (pgC M p 5) i = 0 := by unfold rnC; rw [if_neg (by omega)]
            rw [e0]; exact hF1) (fun w hw => by
            rw [esucc, if_pos ⟨hsi, hwi⟩]
            have hw15 : w < 15 := by have := hw.2.1; omega
            have hw0 := hw.1
            by_cases e : w = i
            · subst e
              refine ⟨⟨?_, ?_⟩, ?_⟩
              · show _ = va_up (va_up _ w.toNat _) (15 + w.toNat) _ w.toNat
                skip
                rw [up_ne (by omega), up_eq, ← hco.1]
                exact hS1.1
              · show _ = va_up (va_up _ w.toNat _) (15 + w.toNat) _ (15 + w.toNat)
                skip
                rw [up_eq, ← hco.2.1, ← hsn]
                have e0 : rnC (pgC M p) (pgC M p 5) w = 0 := by unfold rnC; rw [if_neg (by omega)]
                rw [e0]
                exact hS1.2.1
              · show (if w = w then _ else _) = (if w = w then _ else _)
                rw [if_pos rfl, if_pos rfl, hco.2.2.2]
            · have hrd : Rd (pgC M p) (wB wd) i w := ⟨hw.1, hw.2.1, hw.2.2.elim Or.inl (fun q => Or.inr ⟨q.1, q.2.1, by have := q.2.2; omega⟩)⟩
              obtain ⟨⟨a1, a2⟩, a3⟩ := hR w hrd
              refine ⟨⟨?_, ?_⟩, ?_⟩
              · show _ = va_up (va_up _ i.toNat _) (15 + i.toNat) _ w.toNat
                skip
                rw [up_ne (by omega), up_ne (by omega), ← a1]
                exact hS1.2.2 _ (by omega) (by omega) (by omega)
              · show _ = va_up (va_up _ i.toNat _) (15 + i.toNat) _ (15 + w.toNat)
                skip
                rw [up_ne (by omega), up_ne (by omega), ← a2]
                exact hS1.2.2 _ (by omega) (by omega) (by omega)
              · show (if w = i then _ else ma' w) = (if w = i then _ else _)
                rw [if_neg e, if_neg e, a3])
        · refine go_aload_n dX1_reckon_147 rfl rfl ?_
          refine go_aload_n dX1_reckon_148 rfl rfl ?_
          refine g1_27 dX1_reckon_149 ?_
          refine go_iload_n dX1_reckon_152 rfl ?_
          refine go_aaldD dX1_reckon_153 (by omega) (by omega) ?_
          refine go_lconst (x := 1) dX1_reckon_154 rfl ?_
          refine go_iload dX1_reckon_155 rfl ?_
          refine go_iconst dX1_reckon_157 (R32_lit rfl) ?_
          refine go_isubc dX1_reckon_158 ⟨by omega, by omega⟩ ?_
          refine go_lshl dX1_reckon_159 ?_
          rw [lshl_p2 (by omega) (by omega)]
          have er : rnC (pgC M p) (pgC M p 5) i = p2 (g - 1) := by unfold rnC; rw [if_pos (by omega), eg]
          have hbk := sK_nu (pgC M p) (wB wd) i.toNat
          refine go_iload_n dX1_reckon_160 rfl ?_
          refine go_iconst dX1_reckon_161 (R32_lit rfl) ?_
          refine v1_92 dX1_reckon_162 rfl ⟨rfl, rfl⟩ ⟨rfl, rfl⟩ (ct_X1_bring hF1 (j := 15 + i.toNat) (by omega) (by omega) (by omega)) (fun M9 N9 hq9 => ?_)
          obtain ⟨hF9, hf9, rfl⟩ := hq9
          refine go_iinc3c dX1_reckon_165 rfl rfl ⟨by omega, by omega⟩ ?_
          refine go_goto (tgt := 34) dX1_reckon_168 rfl ?_
          exact ih (n - 1) (by omega) (i + 1) _ _ _ _ _ (by omega) (by omega) (hf1.tr hf9) hN1 (by
            rw [esucc, if_pos ⟨hsi, hwi⟩]
            show FS _ f _ (bnu (stN (pgC M p) (sK (pgC M p) (wB wd) i.toNat).1 (sK (pgC M p) (wB wd) i.toNat).2.1 i) (rnC (pgC M p) (pgC M p 5) i) i 3) _
            rw [← hsn]
            rw [er]; exact hF9) (fun w hw => by
            rw [esucc, if_pos ⟨hsi, hwi⟩]
            have hw15 : w < 15 := by have := hw.2.1; omega
            have hw0 := hw.1
            by_cases e : w = i
            · subst e
              refine ⟨⟨?_, ?_⟩, ?_⟩
              · show _ = va_up (va_up _ w.toNat _) (15 + w.toNat) _ w.toNat
                rw [up_ne (by omega)]
                rw [up_ne (by omega), up_eq, ← hco.1]
                exact hS1.1
              · show _ = va_up (va_up _ w.toNat _) (15 + w.toNat) _ (15 + w.toNat)
                rw [up_eq]
                rw [up_eq, ← hco.2.1, ← hsn]
                rw [er, hS1.2.1]
              · show (if w = w then _ else _) = (if w = w then _ else _)
                rw [if_pos rfl, if_pos rfl, hco.2.2.2]
            · have hrd : Rd (pgC M p) (wB wd) i w := ⟨hw.1, hw.2.1, hw.2.2.elim Or.inl (fun q => Or.inr ⟨q.1, q.2.1, by have := q.2.2; omega⟩)⟩
              obtain ⟨⟨a1, a2⟩, a3⟩ := hR w hrd
              refine ⟨⟨?_, ?_⟩, ?_⟩
              · show _ = va_up (va_up _ i.toNat _) (15 + i.toNat) _ w.toNat
                rw [up_ne (by omega)]
                rw [up_ne (by omega), up_ne (by omega), ← a1]
                exact hS1.2.2 _ (by omega) (by omega) (by omega)
              · show _ = va_up (va_up _ i.toNat _) (15 + i.toNat) _ (15 + w.toNat)
                rw [up_ne (by omega)]
                rw [up_ne (by omega), up_ne (by omega), ← a2]
                exact hS1.2.2 _ (by omega) (by omega) (by omega)
              · show (if w = i then _ else ma' w) = (if w = i then _ else _)
                rw [if_neg e, if_neg e, a3])
      have hs4 : pgC M p 0 i = 0 ∨ pgC M p 0 i = 1 ∨ pgC M p 0 i = 2 ∨ pgC M p 0 i = 3 := by have := hsti.2.2.2; omega
      rcases hs4 with hv | hv | hv | hv
      · have hx : s0 = 0 := by omega
        subst hx
        refine go_tableIn (off := 29) (tgt := 88) dX1_reckon_59 (by decide) (by decide) rfl rfl ?_
        refine go_aload_n dX1_reckon_88 rfl rfl ?_
        refine go_aload_n dX1_reckon_89 rfl rfl ?_
        refine go_iload_n dX1_reckon_90 rfl ?_
        refine go_iconst dX1_reckon_91 (R32_lit rfl) ?_
        refine v1_75 dX1_reckon_92 rfl ⟨rfl, rfl⟩ ⟨rfl, rfl⟩ (ct_X1_reckonSum hF h0 (by omega) (by rw [hp']; have hq := (hsti.1.at 0 (by decide) (by have := opn_ge (pgC M p) i; omega)).1; rcases Classical.em (0 ≤ pgC M p 8 (4 * i + 0)) with q | q; exact (hq q).1; omega) (by rw [hp']; have hq := (hsti.1.at 1 (by decide) (by have := opn_ge (pgC M p) i; omega)).1; rcases Classical.em (0 ≤ pgC M p 8 (4 * i + 1)) with q | q; exact (hq q).1; omega)) (fun M7 N7 hq7 => ?_)
        refine go_goto (tgt := 129) dX1_reckon_95 rfl ?_
        have q3 : ¬ pgC M p 0 i = 3 := by omega
        have q2 : ¬ pgC M p 0 i = 2 := by omega
        obtain ⟨⟨φ1, hF1, hS1⟩, hf1, rfl⟩ := hq7
        rw [hp'] at hS1
        refine key _ _ φ1 _ ?_ ?_ (hf.tr hf1) hN
        · unfold stN stM
          rw [if_neg q3, if_neg q2, if_neg q3]; exact hF1
        · unfold stV stD sgn
          rw [if_neg q3, if_neg q2, if_neg q3, if_neg q2]
          rw [if_pos hv]
          exact hS1
      · have hx : s0 = 1 := by omega
        subst hx
        refine go_tableIn (off := 39) (tgt := 98) dX1_reckon_59 (by decide) (by decide) rfl rfl ?_
        refine go_aload_n dX1_reckon_98 rfl rfl ?_
        refine go_aload_n dX1_reckon_99 rfl rfl ?_
        refine go_iload_n dX1_reckon_100 rfl ?_
        refine go_iconst dX1_reckon_101 (R32_lit rfl) ?_
        refine v1_75 dX1_reckon_102 rfl ⟨rfl, rfl⟩ ⟨rfl, rfl⟩ (ct_X1_reckonSum hF h0 (by omega) (by rw [hp']; have hq := (hsti.1.at 0 (by decide) (by have := opn_ge (pgC M p) i; omega)).1; rcases Classical.em (0 ≤ pgC M p 8 (4 * i + 0)) with q | q; exact (hq q).1; omega) (by rw [hp']; have hq := (hsti.1.at 1 (by decide) (by have := opn_ge (pgC M p) i; omega)).1; rcases Classical.em (0 ≤ pgC M p 8 (4 * i + 1)) with q | q; exact (hq q).1; omega)) (fun M7 N7 hq7 => ?_)
        refine go_goto (tgt := 129) dX1_reckon_105 rfl ?_
        have q3 : ¬ pgC M p 0 i = 3 := by omega
        have q2 : ¬ pgC M p 0 i = 2 := by omega
        obtain ⟨⟨φ1, hF1, hS1⟩, hf1, rfl⟩ := hq7
        rw [hp'] at hS1
        refine key _ _ φ1 _ ?_ ?_ (hf.tr hf1) hN
        · unfold stN stM
          rw [if_neg q3, if_neg q2, if_neg q3]; exact hF1
        · unfold stV stD sgn
          rw [if_neg q3, if_neg q2, if_neg q3, if_neg q2]
          rw [if_neg (show ¬ pgC M p 0 i = 0 by omega)]
          exact hS1
      · have hx : s0 = 2 := by omega
        subst hx
        refine go_tableIn (off := 49) (tgt := 108) dX1_reckon_59 (by decide) (by decide) rfl rfl ?_
        refine go_aload_n dX1_reckon_108 rfl rfl ?_
        refine go_aload_n dX1_reckon_109 rfl rfl ?_
        refine go_iload_n dX1_reckon_110 rfl ?_
        refine v1_79 dX1_reckon_111 rfl ⟨rfl, rfl⟩ ⟨rfl, rfl⟩ (ct_X1_reckonProduct hF h0 (by omega) (by rw [hp']; have hq := (hsti.1.at 0 (by decide) (by have := opn_ge (pgC M p) i; omega)).1; rcases Classical.em (0 ≤ pgC M p 8 (4 * i + 0)) with q | q; exact (hq q).1; omega) (by rw [hp']; have hq := (hsti.1.at 1 (by decide) (by have := opn_ge (pgC M p) i; omega)).1; rcases Classical.em (0 ≤ pgC M p 8 (4 * i + 1)) with q | q; exact (hq q).1; omega) (by omega)) (fun M7 N7 hq7 => ?_)
        refine go_goto (tgt := 129) dX1_reckon_114 rfl ?_
        have q3 : ¬ pgC M p 0 i = 3 := by omega
        obtain ⟨⟨φ1, hF1, hS1⟩, hf1, rfl⟩ := hq7
        rw [hp'] at hF1 hS1
        refine key _ _ φ1 _ ?_ ?_ (hf.tr hf1) hN
        · unfold stN stM
          rw [if_neg q3, if_pos hv, if_neg q3]; exact hF1
        · unfold stV stD
          rw [if_neg q3, if_pos hv, if_neg q3, if_pos hv]
          exact hS1
      · have hx : s0 = 3 := by omega
        subst hx
        refine go_tableIn (off := 58) (tgt := 117) dX1_reckon_59 (by decide) (by decide) rfl rfl ?_
        refine go_aload_n dX1_reckon_117 rfl rfl ?_
        refine go_aload_n dX1_reckon_118 rfl rfl ?_
        refine go_iload_n dX1_reckon_119 rfl ?_
        refine v1_82 dX1_reckon_120 rfl ⟨rfl, rfl⟩ ⟨rfl, rfl⟩ (ct_X1_reckonPick hF h0 (by omega) (by rw [hp']; have hq := (hsti.1.at 0 (by decide) (by have := opn_ge (pgC M p) i; omega)).1; rcases Classical.em (0 ≤ pgC M p 8 (4 * i + 0)) with q | q; exact (hq q).1; omega) (by rw [hp']; have hq := (hsti.1.at 1 (by decide) (by have := opn_ge (pgC M p) i; omega)).1; rcases Classical.em (0 ≤ pgC M p 8 (4 * i + 1)) with q | q; exact (hq q).1; omega) (by rw [hp']; have hq := (hsti.1.at 2 (by decide) (by rw [opn_3 (by omega)]; decide)).1; rcases Classical.em (0 ≤ pgC M p 8 (4 * i + 2)) with q | q; exact (hq q).1; omega) (by rw [hp']; have hq := (hsti.1.at 3 (by decide) (by rw [opn_3 (by omega)]; decide)).1; rcases Classical.em (0 ≤ pgC M p 8 (4 * i + 3)) with q | q; exact (hq q).1; omega) (by omega)) (fun M7 N7 hq7 => ?_)
        refine go_goto (tgt := 129) dX1_reckon_123 rfl ?_
        obtain ⟨⟨φ1, hF1, hS1⟩, hf1, hN1⟩ := hq7
        rw [hp'] at hF1 hS1
        refine key _ _ φ1 _ ?_ ?_ (hf.tr hf1) (hN.tr hN1)
        · unfold stN stM
          rw [if_pos hv, if_pos hv]; exact hF1
        · unfold stV stD
          rw [if_pos hv, if_pos hv]
          exact hS1
    · refine go_goto (tgt := 165) dX1_reckon_50 rfl ?_
      refine go_iinc3c dX1_reckon_165 rfl rfl ⟨by omega, by omega⟩ ?_
      refine go_goto (tgt := 34) dX1_reckon_168 rfl ?_
      have hneg : ¬ (pgC M p 0 i ≠ -2 ∧ wB wd i = true) := (fun q => by have := q.2; unfold wB at this; rw [decide_eq_true_eq] at this; exact this h47)
      exact ih (n - 1) (by omega) (i + 1) M' N' φ' ma' _ (by omega) (by omega) hf hN (by rw [esucc, if_neg hneg]; exact hF) (fun w hw => by
        rw [esucc, if_neg hneg]
        refine hR w ⟨hw.1, hw.2.1, hw.2.2.elim Or.inl (fun q => Or.inr ⟨q.1, q.2.1, ?_⟩)⟩
        have := q.2.2
        rcases Classical.em (w = i) with e | e
        · exact absurd (show pgC M p 0 i ≠ -2 ∧ wB wd i = true by rw [← e]; exact ⟨q.1, q.2.1⟩) hneg
        · omega)
