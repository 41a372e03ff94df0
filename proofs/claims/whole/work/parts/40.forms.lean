/-- the noises: how many, who brought them, by what -/
abbrev Nu : Type := Int × (Int → Int) × (Int → Int)
def nw (ν : Nu) (v b : Int) : Nu := (ν.1 + 1, (fun i => if i = ν.1 then v else ν.2.1 i), (fun i => if i = ν.1 then b else ν.2.2 i))
def bnu (ν : Nu) (c v b : Int) : Nu := if c = 0 then ν else nw ν v b
def bfo (ν : Nu) (a : FV) (c : Int) : FV := if c = 0 then a else fno a ν.1 c
/-- a Forms: its forms, its noises, its may bits -/
def FS (M : Mm) (f : Nat) (φ : Nat → FV) (ν : Nu) (ma : Int → Int) : Prop := FO M f φ ∧ M (7, f, 0) 3 = ν.1 ∧ 0 ≤ ν.1 ∧ ν.1 ≤ 63 ∧ (∀ i, 0 ≤ i → i < ν.1 → M (9, f, 0) i = ν.2.1 i ∧ M (10, f, 0) i = ν.2.2 i) ∧ (∀ v, 0 ≤ v → v < 15 → M (8, f, 0) v = ma v) ∧ φ 34 = fz
/-- nothing but a Forms has changed -/
def Ff (f : Nat) (M M1 : Mm) : Prop := ∀ n : Nm, ¬ (n.2.1 = f ∧ 7 ≤ n.1 ∧ n.1 ≤ 16) → M1 n = M n
theorem Ff.rf {f : Nat} {M : Mm} : Ff f M M := fun _ _ => rfl
theorem Ff.tr {f : Nat} {M M1 M2 : Mm} (h : Ff f M M1) (h2 : Ff f M1 M2) : Ff f M M2 := fun n a => (h2 n a).trans (h n a)
theorem Fo.ff {f j : Nat} {M M1 : Mm} (h : Fo f j M M1) : Ff f M M1 := fun n hn => h n (fun e => hn (by rw [e]; exact ⟨rfl, Nat.le_of_ble_eq_true rfl, Nat.le_of_ble_eq_true rfl⟩)) (fun e => hn (by rw [e]; exact ⟨rfl, Nat.le_of_ble_eq_true rfl, Nat.le_of_ble_eq_true rfl⟩))
theorem Ff.wr {f a c : Nat} {M M1 : Mm} {i x : Int} (h : Ff f M M1) (h1 : 7 ≤ a) (h2 : a ≤ 16) : Ff f M (wr M1 (a, f, c) i x) := fun n hn => by
  funext j
  rw [wr_nn (fun e => hn (by rw [e]; exact ⟨rfl, h1, h2⟩)), h n hn]
theorem Ff.pg {f p : Nat} {M M1 : Mm} (h : Ff f M M1) : pgC M1 p = pgC M p := by
  funext k i
  unfold pgC
  rw [h (18, p, 0) (fun e => absurd (Nat.ble_eq.mpr e.2.2) Bool.false_ne_true), h (19, p, k) (fun e => absurd (Nat.ble_eq.mpr e.2.2) Bool.false_ne_true)]
/-- a form changed -/
theorem FS.upd {M M1 : Mm} {f j : Nat} {φ : Nat → FV} {ν : Nu} {ma : Int → Int} {v : FV} (h : FS M f φ ν ma) (hI : FI M1 f j v) (ho : Fo f j M M1) (hj : j ≠ 34) : FS M1 f (va_up φ j v) ν ma := by
  obtain ⟨h1, h2, h3, h4, h5, h6, h7⟩ := h
  have e7 : M1 (7, f, 0) = M (7, f, 0) := ho _ (nm_ne1 (by decide)) (nm_ne1 (by decide))
  have e9 : M1 (9, f, 0) = M (9, f, 0) := ho _ (nm_ne1 (by decide)) (nm_ne1 (by decide))
  have e10 : M1 (10, f, 0) = M (10, f, 0) := ho _ (nm_ne1 (by decide)) (nm_ne1 (by decide))
  have e8 : M1 (8, f, 0) = M (8, f, 0) := ho _ (nm_ne1 (by decide)) (nm_ne1 (by decide))
  refine ⟨h1.upd hI ho, by rw [e7]; exact h2, h3, h4, by rw [e9, e10]; exact h5, by rw [e8]; exact h6, ?_⟩
  unfold va_up
  rw [if_neg (fun e => hj e.symm)]
  exact h7
theorem FS.fi {M : Mm} {f : Nat} {φ : Nat → FV} {ν : Nu} {ma : Int → Int} (h : FS M f φ ν ma) {j : Nat} (hj : j < 39) : FI M f j (φ j) := h.1 j hj
theorem up_eq {φ : Nat → FV} {j : Nat} {v : FV} : va_up φ j v j = v := if_pos rfl
theorem up_ne {φ : Nat → FV} {j k : Nat} {v : FV} (h : k ≠ j) : va_up φ j v k = φ k := if_neg h
theorem up_self {φ : Nat → FV} {j : Nat} : va_up φ j (φ j) = φ := by
  funext i
  unfold va_up
  by_cases e : i = j
  · rw [if_pos e, e]
  · rw [if_neg e]
/-- other memory of the Forms changed, no form -/
theorem FO.keep {M M1 : Mm} {f : Nat} {φ : Nat → FV} (h : FO M f φ) (h15 : ∀ j, M1 (15, f, j) = M (15, f, j)) (h16 : ∀ j, M1 (16, f, j) = M (16, f, j)) : FO M1 f φ := by
  intro j hj
  unfold FI
  rw [h15, h16]
  exact h j hj
set_option maxRecDepth 100000 in
set_option maxHeartbeats 4000000 in
theorem ct_X1_newNoise {E : Ev} {M : Mm} {N : Nn} {f : Nat} {φ : Nat → FV} {ν : Nu} {ma : Int → Int} {v b : Int} (hF : FS M f φ ν ma) (hlt : ν.1 < 63) : Ct E yX1_newNoise cX1_newNoise 3 ((some .int)) (rmH 1) [vr (7, f, 0), vi v, vi b] M N (qi (fun r M1 N1 => r = ν.1 ∧ FS M1 f φ (nw ν v b) ma ∧ Ff f M M1 ∧ N = N1)) := by
  refine ct_of (own := RX1) (L0 := [vr (7, f, 0), vi v, vi b]) rfl (by decide +kernel) rfl rfl ?_
  have hn : M (7, f, 0) 3 = ν.1 := hF.2.1
  have hn0 := hF.2.2.1
  refine go_aload_n dX1_newNoise_0 rfl rfl ?_
  refine g1_53 dX1_newNoise_1 ?_
  rw [hn]
  refine go_bipush dX1_newNoise_4 ⟨by decide, by decide⟩ ?_
  refine go_icmp_lt (tgt := 11) dX1_newNoise_6 rfl (fun h6 => ?_) (fun h6 => ?_)
  · refine go_aload_n dX1_newNoise_11 rfl rfl ?_
    refine g1_15 dX1_newNoise_12 ?_
    refine go_aload_n dX1_newNoise_15 rfl rfl ?_
    refine g1_53 dX1_newNoise_16 ?_
    rw [hn]
    refine go_iload_n dX1_newNoise_19 rfl ?_
    refine go_iast dX1_newNoise_20 rfl (by omega) (by omega) ?_
    refine go_aload_n dX1_newNoise_21 rfl rfl ?_
    refine g1_18 dX1_newNoise_22 ?_
    refine go_aload_n dX1_newNoise_25 rfl rfl ?_
    refine g1_53 dX1_newNoise_26 ?_
    rw [show wr M (9, f, 0) ν.1 v (7, f, 0) 3 = ν.1 from hn]
    refine go_iload_n dX1_newNoise_29 rfl ?_
    refine go_iast dX1_newNoise_30 rfl (by omega) (by omega) ?_
    refine go_aload_n dX1_newNoise_31 rfl rfl ?_
    first | refine go_dup_r dX1_newNoise_32 ?_ | refine go_dup_i dX1_newNoise_32 ?_
    refine g1_53 dX1_newNoise_33 ?_
    rw [show wr (wr M (9, f, 0) ν.1 v) (10, f, 0) ν.1 b (7, f, 0) 3 = ν.1 from hn]
    refine go_iconst dX1_newNoise_36 (R32_lit rfl) ?_
    refine go_iaddc dX1_newNoise_37 ⟨by omega, by omega⟩ ?_
    refine p1_53 dX1_newNoise_38 ?_
    refine go_aload_n dX1_newNoise_41 rfl rfl ?_
    refine g1_53 dX1_newNoise_42 ?_
    rw [wr_eq]
    refine go_iconst dX1_newNoise_45 (R32_lit rfl) ?_
    refine go_isubc dX1_newNoise_46 ⟨by omega, by omega⟩ ?_
    refine go_reti dX1_newNoise_47 ?_
    refine ⟨by omega, ?_, ((Ff.rf.wr (by decide) (by decide)).wr (by decide) (by decide)).wr (by decide) (by decide), rfl⟩
    obtain ⟨h1, h2, h3, h4, h5, h6, h7⟩ := hF
    refine ⟨h1.keep (fun j => rfl) (fun j => rfl), wr_eq _ _ _ _, ?_, ?_, fun i i0 i1 => ?_, h6, h7⟩
    · show 0 ≤ ν.1 + 1; omega
    · show ν.1 + 1 ≤ 63; omega
    · have i1 : i < ν.1 + 1 := i1
      show wr M (9, f, 0) ν.1 v (9, f, 0) i = (if i = ν.1 then v else ν.2.1 i) ∧ wr M (10, f, 0) ν.1 b (10, f, 0) i = (if i = ν.1 then b else ν.2.2 i)
      by_cases e : i = ν.1
      · rw [if_pos e, if_pos e, e, wr_eq, wr_eq]; exact ⟨rfl, rfl⟩
      · rw [if_neg e, if_neg e, wr_nk e, wr_nk e]
        exact h5 i i0 (by omega)
  · exact absurd h6 (by omega)
set_option maxRecDepth 100000 in
set_option maxHeartbeats 4000000 in
theorem ct_X1_bring {E : Ev} {M : Mm} {N : Nn} {f j : Nat} {φ : Nat → FV} {ν : Nu} {ma : Int → Int} {c v b : Int} (hF : FS M f φ ν ma) (hj : j < 39) (h34 : j ≠ 34) (hlt : ν.1 < 63) : Ct E yX1_bring cX1_bring 6 (none) (rmH 2) [vr (7, f, 0), vr (15, f, j), vl c, vi v, vi b] M N (qv (fun M1 N1 => FS M1 f (va_up φ j (bfo ν (φ j) c)) (bnu ν c v b) ma ∧ Ff f M M1 ∧ N = N1)) := by
  refine ct_of (own := RX1) (L0 := [vr (7, f, 0), vr (15, f, j), vl c, vn, vi v, vi b]) rfl (by decide +kernel) rfl rfl ?_
  refine go_lload_n dX1_bring_0 rfl ?_
  refine go_lconst (x := 0) dX1_bring_1 rfl ?_
  refine go_lcmp_eq (tgt := 19) dX1_bring_2 dX1_bring_3 rfl (fun h2 => ?_) (fun h2 => ?_)
  · skip
    refine go_retv dX1_bring_19 ?_
    first
    | (obtain ⟨hI, ho, rfl⟩ := hq2
       refine ⟨?_, hf1.tr ho.ff, rfl⟩
       unfold bfo bnu
       rw [if_neg h2, if_neg h2]
       exact hF1.upd hI ho h34)
    | (refine ⟨?_, Ff.rf, rfl⟩
       unfold bfo bnu
       rw [if_pos h2, if_pos h2, up_self]
       exact hF)
  · refine go_aload_n dX1_bring_6 rfl rfl ?_
    refine go_aload_n dX1_bring_7 rfl rfl ?_
    refine go_iload dX1_bring_8 rfl ?_
    refine go_iload dX1_bring_10 rfl ?_
    refine v1_122 dX1_bring_12 rfl ⟨rfl, rfl⟩ ⟨rfl, rfl⟩ (ct_X1_newNoise hF hlt) (fun r1 M1 N1 hr1 hq1 => ?_)
    obtain ⟨rfl, hF1, hf1, rfl⟩ := hq1
    refine go_lload_n dX1_bring_15 rfl ?_
    refine v1_126 dX1_bring_16 rfl ⟨rfl, rfl⟩ ⟨rfl, rfl⟩ (ct_X0_addNoise (hF1.fi hj) hF.2.2.1 hlt) (fun M2 N2 hq2 => ?_)
    skip
    refine go_retv dX1_bring_19 ?_
    first
    | (obtain ⟨hI, ho, rfl⟩ := hq2
       refine ⟨?_, hf1.tr ho.ff, rfl⟩
       unfold bfo bnu
       rw [if_neg h2, if_neg h2]
       exact hF1.upd hI ho h34)
    | (refine ⟨?_, Ff.rf, rfl⟩
       unfold bfo bnu
       rw [if_pos h2, if_pos h2, up_self]
       exact hF)
def vj (S : Pg) (v k : Int) : Nat := if 0 ≤ S 8 (4 * v + k) then (S 8 (4 * v + k)).toNat else 30 + k.toNat
def vA (S : Pg) (φ : Nat → FV) (v k : Int) : FV := if 0 ≤ S 8 (4 * v + k) then φ (S 8 (4 * v + k)).toNat else fnum (S 9 (4 * v + k))
def dj (S : Pg) (v k : Int) : Nat := if 0 ≤ S 8 (4 * v + k) then 15 + (S 8 (4 * v + k)).toNat else 34
def dA (S : Pg) (φ : Nat → FV) (v k : Int) : FV := if 0 ≤ S 8 (4 * v + k) then φ (15 + (S 8 (4 * v + k)).toNat) else fz
/-- forms of variables are the same -/
def Lo (φ φ1 : Nat → FV) : Prop := ∀ j, j < 30 → φ1 j = φ j
set_option maxRecDepth 100000 in
set_option maxHeartbeats 4000000 in
theorem ct_X1_valueIn {E : Ev} {M : Mm} {N : Nn} {f p : Nat} {φ : Nat → FV} {ν : Nu} {ma : Int → Int} {v k : Int} (hF : FS M f φ ν ma) (h0 : 0 ≤ v) (h1 : v < 15) (k0 : 0 ≤ k) (k1 : k < 4) (ho : pgC M p 8 (4 * v + k) < 15) : Ct E yX1_valueIn cX1_valueIn 6 ((some (.object "RoundedSums$Form"))) (rmH 2) [vr (7, f, 0), vr (18, p, 0), vi v, vi k] M N (qr (fun r M1 N1 => r = (15, f, vj (pgC M p) v k) ∧ (∃ φ1, FS M1 f φ1 ν ma ∧ Lo φ φ1 ∧ φ1 (vj (pgC M p) v k) = vA (pgC M p) φ v k ∧ (∀ j, j ≠ 30 + k.toNat → φ1 j = φ j)) ∧ Ff f M M1 ∧ N = N1)) := by
  refine ct_of (own := RX1) (L0 := [vr (7, f, 0), vr (18, p, 0), vi v, vi k, vn, vn]) rfl (by decide +kernel) rfl rfl ?_
  refine go_aload_n dX1_valueIn_0 rfl rfl ?_
  refine g1_130 dX1_valueIn_1 ?_
  refine go_iload_n dX1_valueIn_4 rfl ?_
  refine go_iconst dX1_valueIn_5 (R32_lit rfl) ?_
  refine go_imulc dX1_valueIn_6 ⟨by omega, by omega⟩ ?_
  refine go_iload_n dX1_valueIn_7 rfl ?_
  refine go_iaddc dX1_valueIn_8 ⟨by omega, by omega⟩ ?_
  refine go_iald dX1_valueIn_9 rfl (by omega) (by omega) ?_
  rw [show v * 4 + k = 4 * v + k by omega]
  refine go_nmi (fun w ew => ?_)
  have ew : w = pgC M p 8 (4 * v + k) := ew
  refine go_ist4 dX1_valueIn_10 rfl rfl ?_
  refine go_iload dX1_valueIn_12 rfl ?_
  refine go_if_lt (tgt := 25) dX1_valueIn_14 rfl (fun h14 => ?_) (fun h14 => ?_)
  · refine go_aload_n dX1_valueIn_25 rfl rfl ?_
    refine g1_30 dX1_valueIn_26 ?_
    refine go_iload_n dX1_valueIn_29 rfl ?_
    refine go_aaldN dX1_valueIn_30 (by omega) (by omega) ?_
    refine go_ast5 dX1_valueIn_31 rfl rfl rfl ?_
    refine go_aload dX1_valueIn_33 rfl rfl ?_
    refine go_aload_n dX1_valueIn_35 rfl rfl ?_
    refine g1_133 dX1_valueIn_36 ?_
    refine go_iload_n dX1_valueIn_39 rfl ?_
    refine go_iconst dX1_valueIn_40 (R32_lit rfl) ?_
    refine go_imulc dX1_valueIn_41 ⟨by omega, by omega⟩ ?_
    refine go_iload_n dX1_valueIn_42 rfl ?_
    refine go_iaddc dX1_valueIn_43 ⟨by omega, by omega⟩ ?_
    refine go_iald dX1_valueIn_44 rfl (by omega) (by omega) ?_
    rw [show v * 4 + k = 4 * v + k by omega]
    refine go_i2l dX1_valueIn_45 ?_
    refine v1_136 dX1_valueIn_46 rfl ⟨rfl, rfl⟩ ⟨rfl, rfl⟩ (ct_X0_become (hF.fi (j := 30 + k.toNat) (by omega))) (fun M1 N1 hq1 => ?_)
    obtain ⟨hI, ho1, rfl⟩ := hq1
    refine go_aload dX1_valueIn_49 rfl rfl ?_
    refine go_retr dX1_valueIn_51 ?_
    refine ⟨?_, ⟨_, hF.upd hI ho1 (by omega), fun j hj => up_ne (by omega), ?_, fun j hj => up_ne hj⟩, ho1.ff, rfl⟩
    · unfold vj; rw [← ew, if_neg (by omega)]
    · unfold vj vA; rw [← ew, if_neg (by omega), if_neg (by omega), up_eq]; rfl
  · refine go_aload_n dX1_valueIn_17 rfl rfl ?_
    refine g1_23 dX1_valueIn_18 ?_
    refine go_iload dX1_valueIn_21 rfl ?_
    refine go_aaldV dX1_valueIn_23 (by omega) (by omega) ?_
    refine go_retr dX1_valueIn_24 ?_
    refine ⟨?_, ⟨φ, hF, fun _ _ => rfl, ?_, fun _ _ => rfl⟩, Ff.rf, rfl⟩
    · unfold vj; rw [← ew, if_pos (by omega)]
    · unfold vj vA; rw [← ew, if_pos (by omega), if_pos (by omega)]
set_option maxRecDepth 100000 in
set_option maxHeartbeats 4000000 in
theorem ct_X1_driftIn {E : Ev} {M : Mm} {N : Nn} {f p : Nat} {φ : Nat → FV} {ν : Nu} {ma : Int → Int} {v k : Int} (hF : FS M f φ ν ma) (h0 : 0 ≤ v) (h1 : v < 15) (k0 : 0 ≤ k) (k1 : k < 4) (ho : pgC M p 8 (4 * v + k) < 15) : Ct E yX1_driftIn cX1_driftIn 5 ((some (.object "RoundedSums$Form"))) (rmH 1) [vr (7, f, 0), vr (18, p, 0), vi v, vi k] M N (qr (fun r M1 N1 => r = (15, f, dj (pgC M p) v k) ∧ φ (dj (pgC M p) v k) = dA (pgC M p) φ v k ∧ M = M1 ∧ N = N1)) := by
  refine ct_of (own := RX1) (L0 := [vr (7, f, 0), vr (18, p, 0), vi v, vi k, vn]) rfl (by decide +kernel) rfl rfl ?_
  refine go_aload_n dX1_driftIn_0 rfl rfl ?_
  refine g1_130 dX1_driftIn_1 ?_
  refine go_iload_n dX1_driftIn_4 rfl ?_
  refine go_iconst dX1_driftIn_5 (R32_lit rfl) ?_
  refine go_imulc dX1_driftIn_6 ⟨by omega, by omega⟩ ?_
  refine go_iload_n dX1_driftIn_7 rfl ?_
  refine go_iaddc dX1_driftIn_8 ⟨by omega, by omega⟩ ?_
  refine go_iald dX1_driftIn_9 rfl (by omega) (by omega) ?_
  rw [show v * 4 + k = 4 * v + k by omega]
  refine go_nmi (fun w ew => ?_)
  have ew : w = pgC M p 8 (4 * v + k) := ew
  refine go_ist4 dX1_driftIn_10 rfl rfl ?_
  refine go_iload dX1_driftIn_12 rfl ?_
  refine go_if_lt (tgt := 27) dX1_driftIn_14 rfl (fun h14 => ?_) (fun h14 => ?_)
  · refine go_aload_n dX1_driftIn_27 rfl rfl ?_
    refine g1_34 dX1_driftIn_28 ?_
    refine go_retr dX1_driftIn_31 ?_
    refine ⟨?_, ?_, rfl, rfl⟩
    · unfold dj; rw [← ew]; first | rw [if_pos (by omega)] | rw [if_neg (by omega)]
    · unfold dj dA; rw [← ew]; first | rw [if_pos (by omega), if_pos (by omega)] | (rw [if_neg (by omega), if_neg (by omega)]; exact hF.2.2.2.2.2.2)
  · refine go_aload_n dX1_driftIn_17 rfl rfl ?_
    refine g1_27 dX1_driftIn_18 ?_
    refine go_iload dX1_driftIn_21 rfl ?_
    refine go_aaldD dX1_driftIn_23 (by omega) (by omega) ?_
    refine go_goto (tgt := 31) dX1_driftIn_24 rfl ?_
    refine go_retr dX1_driftIn_31 ?_
    refine ⟨?_, ?_, rfl, rfl⟩
    · unfold dj; rw [← ew]; first | rw [if_pos (by omega)] | rw [if_neg (by omega)]
    · unfold dj dA; rw [← ew]; first | rw [if_pos (by omega), if_pos (by omega)] | (rw [if_neg (by omega), if_neg (by omega)]; exact hF.2.2.2.2.2.2)
set_option maxRecDepth 100000 in
set_option maxHeartbeats 4000000 in
theorem ct_X1_formOf {E : Ev} {M : Mm} {N : Nn} {f : Nat} {v d : Int} (h0 : 0 ≤ v) (hv1 : v < 15) : Ct E yX1_formOf cX1_formOf 3 ((some (.object "RoundedSums$Form"))) (rmH 1) [vr (7, f, 0), vi v, vi d] M N (qr (fun r M1 N1 => r = (15, f, if d = 0 then v.toNat else 15 + v.toNat) ∧ M = M1 ∧ N = N1)) := by
  refine ct_of (own := RX1) (L0 := [vr (7, f, 0), vi v, vi d]) rfl (by decide +kernel) rfl rfl ?_
  refine go_iload_n dX1_formOf_0 rfl ?_
  refine go_if_eq (tgt := 13) dX1_formOf_1 rfl (fun h1 => ?_) (fun h1 => ?_)
  · refine go_aload_n dX1_formOf_13 rfl rfl ?_
    refine g1_23 dX1_formOf_14 ?_
    refine go_iload_n dX1_formOf_17 rfl ?_
    refine go_aaldV dX1_formOf_18 (by omega) (by omega) ?_
    exact go_retr dX1_formOf_19 ⟨by first | rw [if_pos h1] | rw [if_neg h1], rfl, rfl⟩
  · refine go_aload_n dX1_formOf_4 rfl rfl ?_
    refine g1_27 dX1_formOf_5 ?_
    refine go_iload_n dX1_formOf_8 rfl ?_
    refine go_aaldD dX1_formOf_9 (by omega) (by omega) ?_
    refine go_goto (tgt := 19) dX1_formOf_10 rfl ?_
    exact go_retr dX1_formOf_19 ⟨by first | rw [if_pos h1] | rw [if_neg h1], rfl, rfl⟩
set_option maxRecDepth 100000 in
set_option maxHeartbeats 4000000 in
theorem ct_X1_boundOf {E : Ev} {M : Mm} {N : Nn} {f : Nat} {φ : Nat → FV} {ν : Nu} {ma : Int → Int} {v : Int} (hF : FS M f φ ν ma) (h0 : 0 ≤ v) (hv1 : v < 15) : Ct E yX1_boundOf cX1_boundOf 4 ((some .long)) (rmH 2) [vr (7, f, 0), vi v] M N (ql (fun r M1 N1 => r = w64 (absw (φ (15 + v.toNat)).1 + fra (φ (15 + v.toNat))) ∧ M = M1 ∧ N = N1)) := by
  refine ct_of (own := RX1) (L0 := [vr (7, f, 0), vi v, vn, vn]) rfl (by decide +kernel) rfl rfl ?_
  refine go_aload_n dX1_boundOf_0 rfl rfl ?_
  refine g1_27 dX1_boundOf_1 ?_
  refine go_iload_n dX1_boundOf_4 rfl ?_
  refine go_aaldD dX1_boundOf_5 (by omega) (by omega) ?_
  refine g1_96 dX1_boundOf_6 ?_
  rw [(hF.fi (j := 15 + v.toNat) (by omega)).1]
  refine go_lst2 dX1_boundOf_9 rfl rfl ?_
  refine go_lload_n dX1_boundOf_10 rfl ?_
  refine go_lconst (x := 0) dX1_boundOf_11 rfl ?_
  refine go_lcmp_ge (tgt := 21) dX1_boundOf_12 dX1_boundOf_13 rfl (fun h12 => ?_) (fun h12 => ?_)
  · refine go_lload_n dX1_boundOf_21 rfl ?_
    refine go_aload_n dX1_boundOf_22 rfl rfl ?_
    refine g1_27 dX1_boundOf_23 ?_
    refine go_iload_n dX1_boundOf_26 rfl ?_
    refine go_aaldD dX1_boundOf_27 (by omega) (by omega) ?_
    refine v1_100 dX1_boundOf_28 rfl ⟨rfl, rfl⟩ ⟨rfl, rfl⟩ (cr_radius (hF.fi (j := 15 + v.toNat) (by omega))) (fun r1 M1 N1 hr1 hq1 => ?_)
    obtain ⟨rfl, rfl, rfl⟩ := hq1
    refine go_ladd dX1_boundOf_31 ?_
    exact go_retl dX1_boundOf_32 ⟨by unfold absw; first | rw [if_pos (by omega)] | rw [if_neg (by omega)], rfl, rfl⟩
  · refine go_lload_n dX1_boundOf_16 rfl ?_
    refine go_lneg dX1_boundOf_17 ?_
    refine go_goto (tgt := 22) dX1_boundOf_18 rfl ?_
    refine go_aload_n dX1_boundOf_22 rfl rfl ?_
    refine g1_27 dX1_boundOf_23 ?_
    refine go_iload_n dX1_boundOf_26 rfl ?_
    refine go_aaldD dX1_boundOf_27 (by omega) (by omega) ?_
    refine v1_100 dX1_boundOf_28 rfl ⟨rfl, rfl⟩ ⟨rfl, rfl⟩ (cr_radius (hF.fi (j := 15 + v.toNat) (by omega))) (fun r1 M1 N1 hr1 hq1 => ?_)
    obtain ⟨rfl, rfl, rfl⟩ := hq1
    refine go_ladd dX1_boundOf_31 ?_
    exact go_retl dX1_boundOf_32 ⟨by unfold absw; first | rw [if_pos (by omega)] | rw [if_neg (by omega)], rfl, rfl⟩
