theorem lshr_1 {a : Int} (h : R64 a) : lshr a 1 = a / 2 := by
  unfold lshr
  have e : ((Int32.ofInt 1).toInt64 &&& 63 : Int64) = 1 := by decide +kernel
  rw [e]
  have e2 : (Int64.ofInt a >>> (1 : Int64)).toInt = (Int64.ofInt a).toBitVec.toInt >>> ((1 : Int64).toBitVec.smod 64).toNat := BitVec.toInt_sshiftRight'
  rw [e2]
  have e3 : ((1 : Int64).toBitVec.smod 64).toNat = 1 := by decide +kernel
  rw [e3]
  have e4 : (Int64.ofInt a).toBitVec.toInt = a := i64 h
  rw [e4, Int.shiftRight_eq_div_pow]
  rfl
/-- the forms that may be -/
def Cs (M : Mm) (N : Nn) (f : Nat) (cs : List Nat) : Prop := M (7, f, 0) 13 = cs.length ∧ ∀ (i j : Nat), cs[i]? = some j → N (14, f, 0) i = (15, f, j)
def Nf (f : Nat) (N N1 : Nn) : Prop := ∀ n : Nm, n ≠ (14, f, 0) → N1 n = N n
theorem Nf.rf {f : Nat} {N : Nn} : Nf f N N := fun _ _ => rfl
theorem Nf.tr {f : Nat} {N N1 N2 : Nn} (h : Nf f N N1) (h2 : Nf f N1 N2) : Nf f N N2 := fun n a => (h2 n a).trans (h n a)
theorem FS.k13 {M : Mm} {f : Nat} {φ : Nat → FV} {ν : Nu} {ma : Int → Int} {x : Int} (h : FS M f φ ν ma) : FS (wr M (7, f, 0) 13 x) f φ ν ma := by
  obtain ⟨h1, h2, h3, h4, h5, h6, h7⟩ := h
  refine ⟨h1.keep (fun j => by funext i; rw [wr_nn (nm_ne1 (by decide))]) (fun j => by funext i; rw [wr_nn (nm_ne1 (by decide))]), by rw [wr_nk (by decide)]; exact h2, h3, h4, fun i i0 i1 => ?_, fun w w0 w1 => ?_, h7⟩
  · rw [wr_nn (nm_ne1 (by decide)), wr_nn (nm_ne1 (by decide))]; exact h5 i i0 i1
  · rw [wr_nn (nm_ne1 (by decide))]; exact h6 w w0 w1
theorem ff_k13 {M M1 : Mm} {f : Nat} {x : Int} (h : Ff f M M1) : Ff f M (wr M1 (7, f, 0) 13 x) := Ff.wr h (by decide) (by decide)
theorem Cs.add {M : Mm} {N : Nn} {f j : Nat} {cs : List Nat} (h : Cs M N f cs) : Cs (wr M (7, f, 0) 13 (cs.length + 1)) (wrN N (14, f, 0) cs.length (15, f, j)) f (cs ++ [j]) := by
  refine ⟨by rw [wr_eq]; simp, fun i k hk => ?_⟩
  by_cases e : i < cs.length
  · rw [List.getElem?_append_left e] at hk
    rw [wrN_ne (fun q => by have := q.2; omega)]
    exact h.2 i k hk
  · rw [List.getElem?_append_right (by omega)] at hk
    have e2 : i = cs.length := by
      have := (List.getElem?_eq_some_iff.mp hk).1
      simp at this
      omega
    subst e2
    rw [Nat.sub_self] at hk
    cases hk
    exact wrN_eq _ _ _ _
theorem Cs.keep {M M1 : Mm} {N : Nn} {f : Nat} {cs : List Nat} (h : Cs M N f cs) (h7 : M1 (7, f, 0) 13 = M (7, f, 0) 13) : Cs M1 N f cs := ⟨by rw [h7]; exact h.1, h.2⟩
set_option maxRecDepth 100000 in
set_option maxHeartbeats 4000000 in
theorem ct_X1_offer {E : Ev} {M : Mm} {N : Nn} {f jc : Nat} {φ : Nat → FV} {ν : Nu} {ma : Int → Int} {cs : List Nat} {b : Int} (hF : FS M f φ ν ma) (hC : Cs M N f cs) (hl : cs.length < 4) : Ct E yX1_offer cX1_offer 3 (none) (rmH 1) [vr (7, f, 0), vi b, vr (15, f, jc)] M N (qv (fun M1 N1 => FS M1 f φ ν ma ∧ Ff f M M1 ∧ Cs M1 N1 f (if b = 0 then cs else cs ++ [jc]) ∧ Nf f N N1)) := by
  refine ct_of (own := RX1) (L0 := [vr (7, f, 0), vi b, vr (15, f, jc)]) rfl (by decide +kernel) rfl rfl ?_
  refine go_iload_n dX1_offer_0 rfl ?_
  refine go_if_eq (tgt := 36) dX1_offer_1 rfl (fun h1 => ?_) (fun h1 => ?_)
  · refine go_retv dX1_offer_36 ?_
    first
    | (rw [if_pos h1]
       exact ⟨hF, Ff.rf, hC, Nf.rf⟩)
    | (exact absurd h13 (by omega))
    | (rw [if_neg h1]
       exact ⟨hF.k13, ff_k13 Ff.rf, hC.add, fun n a => by funext i; exact wrN_ne (fun q => a q.1)⟩)
  · refine go_aload_n dX1_offer_4 rfl rfl ?_
    refine g1_168 dX1_offer_5 ?_
    rw [hC.1]
    refine go_aload_n dX1_offer_8 rfl rfl ?_
    refine g1_50 dX1_offer_9 ?_
    refine go_alen4 dX1_offer_12 rfl (R32_lit rfl) ?_
    refine go_icmp_ge (tgt := 36) dX1_offer_13 rfl (fun h13 => ?_) (fun h13 => ?_)
    · refine go_retv dX1_offer_36 ?_
      first
      | (rw [if_pos h1]
         exact ⟨hF, Ff.rf, hC, Nf.rf⟩)
      | (exact absurd h13 (by omega))
      | (rw [if_neg h1]
         exact ⟨hF.k13, ff_k13 Ff.rf, hC.add, fun n a => by funext i; exact wrN_ne (fun q => a q.1)⟩)
    · refine go_aload_n dX1_offer_16 rfl rfl ?_
      refine g1_50 dX1_offer_17 ?_
      refine go_aload_n dX1_offer_20 rfl rfl ?_
      refine g1_168 dX1_offer_21 ?_
      rw [hC.1]
      refine go_aload_n dX1_offer_24 rfl rfl ?_
      refine go_aast dX1_offer_25 rfl (fun _ => rfl) rfl (by omega) (by omega) ?_
      skip
      refine go_aload_n dX1_offer_26 rfl rfl ?_
      first | refine go_dup_r dX1_offer_27 ?_ | refine go_dup_i dX1_offer_27 ?_
      refine g1_168 dX1_offer_28 ?_
      rw [hC.1]
      refine go_iconst dX1_offer_31 (R32_lit rfl) ?_
      refine go_iaddc dX1_offer_32 ⟨by omega, by omega⟩ ?_
      refine p1_168 dX1_offer_33 ?_
      refine go_retv dX1_offer_36 ?_
      first
      | (rw [if_pos h1]
         exact ⟨hF, Ff.rf, hC, Nf.rf⟩)
      | (exact absurd h13 (by omega))
      | (rw [if_neg h1]
         exact ⟨hF.k13, ff_k13 Ff.rf, hC.add, fun n a => by funext i; exact wrN_ne (fun q => a q.1)⟩)
set_option maxRecDepth 100000 in
set_option maxHeartbeats 4000000 in
theorem ct_X1_becomeLeap {E : Ev} {M : Mm} {N : Nn} {f j ja jb jc : Nat} {φ : Nat → FV} {ν : Nu} {ma : Int → Int} (hF : FS M f φ ν ma) (hj : j < 39) (ha : ja < 39) (hb : jb < 39) (hc : jc < 39) (h34 : j ≠ 34) (hja : ja ≠ j) (hjb : jb ≠ j) (hjc : jc ≠ j) : Ct E yX1_becomeLeap cX1_becomeLeap 5 (none) (rmH 3) [vr (7, f, 0), vr (15, f, j), vr (15, f, ja), vr (15, f, jb), vr (15, f, jc)] M N (qv (fun M1 N1 => FS M1 f (va_up φ j (fad (fad (φ ja) 1 (φ jb)) (-1) (φ jc))) ν ma ∧ Ff f M M1 ∧ M1 (7, f, 0) 13 = M (7, f, 0) 13 ∧ N = N1)) := by
  refine ct_of (own := RX1) (L0 := [vr (7, f, 0), vr (15, f, j), vr (15, f, ja), vr (15, f, jb), vr (15, f, jc)]) rfl (by decide +kernel) rfl rfl ?_
  refine go_aload_n dX1_becomeLeap_0 rfl rfl ?_
  refine go_lconst (x := 0) dX1_becomeLeap_1 rfl ?_
  refine v1_136 dX1_becomeLeap_2 rfl ⟨rfl, rfl⟩ ⟨rfl, rfl⟩ (ct_X0_become (hF.fi hj)) (fun M1 N1 hq1 => ?_)
  obtain ⟨hI1, hw1, rfl⟩ := hq1
  have hF1 := hF.upd hI1 hw1 h34
  refine go_aload_n dX1_becomeLeap_5 rfl rfl ?_
  refine go_aload_n dX1_becomeLeap_6 rfl rfl ?_
  refine go_lconst (x := 1) dX1_becomeLeap_7 rfl ?_
  refine v1_150 dX1_becomeLeap_8 rfl ⟨rfl, rfl⟩ ⟨rfl, rfl⟩ (ct_X0_add (hF1.fi hj) (hF1.fi ha) hja) (fun M2 N2 hq2 => ?_)
  obtain ⟨hI2, hw2, rfl⟩ := hq2
  have hF2 := hF1.upd hI2 hw2 h34
  rw [up_eq, up_ne hja] at hF2
  refine go_aload_n dX1_becomeLeap_11 rfl rfl ?_
  refine go_aload_n dX1_becomeLeap_12 rfl rfl ?_
  refine go_lconst (x := 1) dX1_becomeLeap_13 rfl ?_
  refine v1_150 dX1_becomeLeap_14 rfl ⟨rfl, rfl⟩ ⟨rfl, rfl⟩ (ct_X0_add (hF2.fi hj) (hF2.fi hb) hjb) (fun M3 N3 hq3 => ?_)
  obtain ⟨hI3, hw3, rfl⟩ := hq3
  have hF3 := hF2.upd hI3 hw3 h34
  rw [up_eq, up_ne hjb, up_ne hjb, fad_fz] at hF3
  refine go_aload_n dX1_becomeLeap_17 rfl rfl ?_
  refine go_aload dX1_becomeLeap_18 rfl rfl ?_
  refine c1_183 dX1_becomeLeap_20 ?_
  refine v1_150 dX1_becomeLeap_23 rfl ⟨rfl, rfl⟩ ⟨rfl, rfl⟩ (ct_X0_add (hF3.fi hj) (hF3.fi hc) hjc) (fun M4 N4 hq4 => ?_)
  obtain ⟨hI4, hw4, rfl⟩ := hq4
  have hF4 := hF3.upd hI4 hw4 h34
  rw [up_eq, up_ne hjc, up_ne hjc, up_ne hjc] at hF4
  have e5 : ∀ X, va_up (va_up (va_up (va_up φ j (fnum 0)) j (fad (fnum 0) 1 (φ ja))) j (fad (φ ja) 1 (φ jb))) j X = va_up φ j X := by
    intro X
    funext i
    unfold va_up
    split <;> rfl
  rw [e5] at hF4
  refine go_retv dX1_becomeLeap_26 ?_
  refine ⟨hF4, ((hw1.ff.tr hw2.ff).tr hw3.ff).tr hw4.ff, ?_, rfl⟩
  rw [hw4 (7, f, 0) (nm_ne1 (by decide)) (nm_ne1 (by decide)), hw3 (7, f, 0) (nm_ne1 (by decide)) (nm_ne1 (by decide)), hw2 (7, f, 0) (nm_ne1 (by decide)) (nm_ne1 (by decide)), hw1 (7, f, 0) (nm_ne1 (by decide)) (nm_ne1 (by decide))]
def jlo (gs : List FV) : Int := match gs with
  | [] => 0
  | a :: t => t.foldl (fun x g => min x (flo g)) (flo a)
def jhi (gs : List FV) : Int := match gs with
  | [] => 0
  | a :: t => t.foldl (fun x g => max x (fhi g)) (fhi a)
def jmid (gs : List FV) : Int := w64 (jlo gs + jhi gs) / 2
def jnF (ν : Nu) (gs : List FV) : FV := match gs with
  | [] => fnum 0
  | [a] => a
  | a :: b :: t => bfo ν (fnum (jmid (a :: b :: t))) (w64 (jhi (a :: b :: t) - jmid (a :: b :: t)))
def jnN (ν : Nu) (gs : List FV) (v : Int) : Nu := match gs with
  | [] => ν
  | [_] => ν
  | a :: b :: t => bnu ν (w64 (jhi (a :: b :: t) - jmid (a :: b :: t))) v 2
theorem jlo_app {a : FV} {t : List FV} {g : FV} : jlo ((a :: t) ++ [g]) = min (jlo (a :: t)) (flo g) := by
  show (t ++ [g]).foldl _ _ = _
  rw [List.foldl_append]
  rfl
theorem jhi_app {a : FV} {t : List FV} {g : FV} : jhi ((a :: t) ++ [g]) = max (jhi (a :: t)) (fhi g) := by
  show (t ++ [g]).foldl _ _ = _
  rw [List.foldl_append]
  rfl
theorem jlo_take {gs : List FV} {g : FV} {i : Nat} (h0 : 1 ≤ i) (hg : gs[i]? = some g) : jlo (gs.take (i + 1)) = min (jlo (gs.take i)) (flo g) ∧ jhi (gs.take (i + 1)) = max (jhi (gs.take i)) (fhi g) := by
  have e : gs.take (i + 1) = gs.take i ++ [g] := by
    rw [List.take_succ, hg]
    rfl
  have hl : i < gs.length := (List.getElem?_eq_some_iff.mp hg).1
  cases ht : gs.take i with
  | nil =>
    have hlen : (gs.take i).length = 0 := by rw [ht]; rfl
    rw [List.length_take] at hlen
    omega
  | cons a t => rw [e, ht, jlo_app, jhi_app]; exact ⟨rfl, rfl⟩
set_option maxRecDepth 100000 in
set_option maxHeartbeats 4000000 in
theorem lp_X1_join {E : Ev} {M : Mm} {N : Nn} {f j : Nat} {φ φ' : Nat → FV} {ν : Nu} {ma : Int → Int} {cs : List Nat} {v : Int} {M' : Mm} (hF : FS M' f φ' ν ma) (hC : Cs M' N f cs) (hF0 : Ff f M M') (hl : cs.length ≤ 4) (hl2 : 2 ≤ cs.length) (hj : j < 39) (h34 : j ≠ 34) (hc : ∀ c ∈ cs, c < 39 ∧ c ≠ j) (hlt : ν.1 < 63) (he : φ' = va_up φ j (fnum 0)) (he2 : cs.map φ' = cs.map φ) : ∀ (n : Nat) (i least most : Int), (i + n = cs.length) → (1 ≤ i) → (least = jlo ((cs.map φ).take i.toNat)) → (most = jhi ((cs.map φ).take i.toNat)) → Go E RX1 cX1_join 8 (none) (rmH 3) 0 0 (zM E (qv (fun M1 N1 => FS M1 f (va_up φ j (jnF ν (cs.map φ))) (jnN ν (cs.map φ) v) ma ∧ Ff f M M1 ∧ N = N1))) 57 [vr (7, f, 0), vr (15, f, j), vi v, vl least, vn, vl most, vn, vi i] [] M' N := by
  intro n
  induction n using Nat.strongRecOn with
  | ind n ih =>
  intro i least most hn h1 h2 h3
  refine go_iload dX1_join_57 rfl ?_
  refine go_aload_n dX1_join_59 rfl rfl ?_
  refine g1_168 dX1_join_60 ?_
  rw [hC.1]
  refine go_icmp_ge (tgt := 104) dX1_join_63 rfl (fun h63 => ?_) (fun h63 => ?_)
  · have hi : i = cs.length := by omega
    have hti : (cs.map φ).take i.toNat = cs.map φ := List.take_of_length_le (by rw [List.length_map]; omega)
    rw [hti] at h2 h3
    subst h2 h3
    refine go_aload_n dX1_join_104 rfl rfl ?_
    refine go_lload_n dX1_join_105 rfl ?_
    refine go_lload dX1_join_106 rfl ?_
    refine go_ladd dX1_join_108 ?_
    refine go_iconst dX1_join_109 (R32_lit rfl) ?_
    refine go_lshr dX1_join_110 ?_
    rw [lshr_1 (w64_R _)]
    refine p1_96 dX1_join_111 ?_
    have hF6 := hF.upd (hF.fi hj |>.mid (x := jmid (cs.map φ))) Fo.rf.wr15 h34
    rw [he, up_eq] at hF6
    have e6 : ∀ X, va_up (va_up φ j (fnum 0)) j X = va_up φ j X := by
      intro X
      funext k
      unfold va_up
      split <;> rfl
    rw [e6] at hF6
    have hF6 : FS (wr M' (15, f, j) 1 (jmid (cs.map φ))) f (va_up φ j (fnum (jmid (cs.map φ)))) ν ma := hF6
    refine go_aload_n dX1_join_114 rfl rfl ?_
    refine go_aload_n dX1_join_115 rfl rfl ?_
    refine go_lload dX1_join_116 rfl ?_
    refine go_aload_n dX1_join_118 rfl rfl ?_
    refine g1_96 dX1_join_119 ?_
    rw [wr_eq]
    refine go_lsub dX1_join_122 ?_
    refine go_iload_n dX1_join_123 rfl ?_
    refine go_iconst dX1_join_124 (R32_lit rfl) ?_
    refine v1_92 dX1_join_125 rfl ⟨rfl, rfl⟩ ⟨rfl, rfl⟩ (ct_X1_bring hF6 hj h34 hlt) (fun M9 N9 hq9 => ?_)
    refine go_retv dX1_join_128 ?_
    obtain ⟨hF7, hf7, rfl⟩ := hq9
    rw [up_eq] at hF7
    have e7 : ∀ Y X, va_up (va_up φ j Y) j X = va_up φ j X := by
      intro Y X
      funext k
      unfold va_up
      split <;> rfl
    rw [e7] at hF7
    refine ⟨?_, (hF0.tr Fo.rf.wr15.ff).tr hf7, rfl⟩
    cases hz : cs.map φ with
    | nil =>
      have hlen : (cs.map φ).length = 0 := by rw [hz]; rfl
      rw [List.length_map] at hlen
      omega
    | cons a t =>
      cases t with
      | nil =>
        have hlen : (cs.map φ).length = 1 := by rw [hz]; rfl
        rw [List.length_map] at hlen
        omega
      | cons b t =>
        rw [hz] at hF7
        exact hF7
  · have hit : ((i.toNat : Nat) : Int) = i := Int.toNat_of_nonneg (by omega)
    obtain ⟨cj, hcj⟩ : ∃ cj, cs[i.toNat]? = some cj := ⟨_, List.getElem?_eq_getElem (by omega)⟩
    have hcn := hC.2 i.toNat cj hcj
    rw [hit] at hcn
    have hcm := hc cj (List.mem_of_getElem? hcj)
    have hg : (cs.map φ)[i.toNat]? = some (φ' cj) := by rw [← he2, List.getElem?_map, hcj]; rfl
    refine go_lload_n dX1_join_66 rfl ?_
    refine go_aload_n dX1_join_67 rfl rfl ?_
    refine g1_50 dX1_join_68 ?_
    refine go_iload dX1_join_71 rfl ?_
    refine go_aald3 dX1_join_73 rfl (fun _ => rfl) (by omega) (by omega) ?_
    rw [hcn]
    refine v1_185 dX1_join_74 rfl ⟨rfl, rfl⟩ ⟨rfl, rfl⟩ (ct_X0_least (hF.fi hcm.1)) (fun r1 M1 N1 hr1 hq1 => ?_)
    obtain ⟨rfl, rfl, rfl⟩ := hq1
    refine v1_195 dX1_join_77 rfl ⟨rfl, rfl⟩ ⟨rfl, rfl⟩ ct_J9_min_f86c9 (fun r2 M2 N2 hr2 hq2 => ?_)
    obtain ⟨e1, rfl, rfl⟩ := hq2
    refine go_lst3 dX1_join_80 rfl rfl ?_
    refine go_lload dX1_join_81 rfl ?_
    refine go_aload_n dX1_join_83 rfl rfl ?_
    refine g1_50 dX1_join_84 ?_
    refine go_iload dX1_join_87 rfl ?_
    refine go_aald3 dX1_join_89 rfl (fun _ => rfl) (by omega) (by omega) ?_
    rw [hcn]
    refine v1_188 dX1_join_90 rfl ⟨rfl, rfl⟩ ⟨rfl, rfl⟩ (ct_X0_greatest (hF.fi hcm.1)) (fun r3 M3 N3 hr3 hq3 => ?_)
    obtain ⟨rfl, rfl, rfl⟩ := hq3
    refine v1_191 dX1_join_93 rfl ⟨rfl, rfl⟩ ⟨rfl, rfl⟩ ct_J9_max_f86c9 (fun r4 M4 N4 hr4 hq4 => ?_)
    obtain ⟨e2, rfl, rfl⟩ := hq4
    refine go_lst5 dX1_join_96 rfl rfl ?_
    refine go_iinc7c dX1_join_98 rfl rfl ⟨by omega, by omega⟩ ?_
    refine go_goto (tgt := 57) dX1_join_101 rfl ?_
    exact ih (n - 1) (by omega) (i + 1) _ _ (by omega) (by omega) (by rw [show (i + 1).toNat = i.toNat + 1 by omega, (jlo_take (by omega) hg).1, ← h2, e1]) (by rw [show (i + 1).toNat = i.toNat + 1 by omega, (jlo_take (by omega) hg).2, ← h3, e2])
set_option maxRecDepth 100000 in
set_option maxHeartbeats 4000000 in
theorem ct_X1_join {E : Ev} {M : Mm} {N : Nn} {f j : Nat} {φ : Nat → FV} {ν : Nu} {ma : Int → Int} {cs : List Nat} {v : Int} (hF : FS M f φ ν ma) (hC : Cs M N f cs) (hl : cs.length ≤ 4) (hj : j < 39) (h34 : j ≠ 34) (hc : ∀ c ∈ cs, c < 39 ∧ c ≠ j) (hlt : ν.1 < 63) : Ct E yX1_join cX1_join 8 (none) (rmH 3) [vr (7, f, 0), vr (15, f, j), vi v] M N (qv (fun M1 N1 => FS M1 f (va_up φ j (jnF ν (cs.map φ))) (jnN ν (cs.map φ) v) ma ∧ Ff f M M1 ∧ N = N1)) := by
  refine ct_of (own := RX1) (L0 := [vr (7, f, 0), vr (15, f, j), vi v, vn, vn, vn, vn, vn]) rfl (by decide +kernel) rfl rfl ?_
  refine go_aload_n dX1_join_0 rfl rfl ?_
  refine go_lconst (x := 0) dX1_join_1 rfl ?_
  refine v1_136 dX1_join_2 rfl ⟨rfl, rfl⟩ ⟨rfl, rfl⟩ (ct_X0_become (hF.fi hj)) (fun M1 N1 hq1 => ?_)
  obtain ⟨hI1, hw1, rfl⟩ := hq1
  have hF1 := hF.upd hI1 hw1 h34
  have hC1 : Cs M1 N f cs := hC.keep (by rw [hw1 (7, f, 0) (nm_ne1 (by decide)) (nm_ne1 (by decide))])
  have he2 : cs.map (va_up φ j (fnum 0)) = cs.map φ := List.map_congr_left (fun c hcm => up_ne (hc c hcm).2)
  refine go_aload_n dX1_join_5 rfl rfl ?_
  refine g1_168 dX1_join_6 ?_
  rw [hC1.1]
  refine go_if_ne (tgt := 13) dX1_join_9 rfl (fun h9 => ?_) (fun h9 => ?_)
  · refine go_aload_n dX1_join_13 rfl rfl ?_
    refine g1_168 dX1_join_14 ?_
    rw [hC1.1]
    refine go_iconst dX1_join_17 (R32_lit rfl) ?_
    refine go_icmp_ne (tgt := 33) dX1_join_18 rfl (fun h18 => ?_) (fun h18 => ?_)
    · obtain ⟨c0, c1, ct, rfl⟩ : ∃ c0 c1 ct, cs = c0 :: c1 :: ct := by
        cases cs with
        | nil => simp at h9
        | cons a t =>
          cases t with
          | nil => simp at h18
          | cons b t => exact ⟨a, b, t, rfl⟩
      have hcn := hC1.2 0 c0 rfl
      have hcm := hc c0 List.mem_cons_self
      refine go_aload_n dX1_join_33 rfl rfl ?_
      refine g1_50 dX1_join_34 ?_
      refine go_iconst dX1_join_37 (R32_lit rfl) ?_
      refine go_aald3 dX1_join_38 rfl (fun _ => rfl) (by omega) (by omega) ?_
      rw [show N (14, f, 0) 0 = (15, f, c0) from hcn]
      refine v1_185 dX1_join_39 rfl ⟨rfl, rfl⟩ ⟨rfl, rfl⟩ (ct_X0_least (hF1.fi hcm.1)) (fun r3 M3 N3 hr3 hq3 => ?_)
      obtain ⟨rfl, rfl, rfl⟩ := hq3
      refine go_lst3 dX1_join_42 rfl rfl ?_
      refine go_aload_n dX1_join_43 rfl rfl ?_
      refine g1_50 dX1_join_44 ?_
      refine go_iconst dX1_join_47 (R32_lit rfl) ?_
      refine go_aald3 dX1_join_48 rfl (fun _ => rfl) (by omega) (by omega) ?_
      rw [show N (14, f, 0) 0 = (15, f, c0) from hcn]
      refine v1_188 dX1_join_49 rfl ⟨rfl, rfl⟩ ⟨rfl, rfl⟩ (ct_X0_greatest (hF1.fi hcm.1)) (fun r4 M4 N4 hr4 hq4 => ?_)
      obtain ⟨rfl, rfl, rfl⟩ := hq4
      refine go_lst5 dX1_join_52 rfl rfl ?_
      refine go_iconst dX1_join_54 (R32_lit rfl) ?_
      refine go_ist7 dX1_join_55 rfl rfl ?_
      exact lp_X1_join hF1 hC1 hw1.ff hl (by simp) hj h34 hc hlt rfl he2 (ct.length + 1) 1 _ _ (by simp; omega) (by omega) (by show _ = flo (φ c0); rw [up_ne hcm.2]) (by show _ = fhi (φ c0); rw [up_ne hcm.2])
    · obtain ⟨c0, rfl⟩ : ∃ c0, cs = [c0] := by
        cases cs with
        | nil => simp at h9
        | cons a t =>
          cases t with
          | nil => exact ⟨a, rfl⟩
          | cons b t => simp at h18; omega
      have hcn := hC1.2 0 c0 rfl
      have hcm := hc c0 (List.mem_singleton.mpr rfl)
      refine go_rg (fun hRg _ _ => ?_)
      have hrg := hF1.rg hRg hcm.1
      refine go_aload_n dX1_join_21 rfl rfl ?_
      refine go_aload_n dX1_join_22 rfl rfl ?_
      refine g1_50 dX1_join_23 ?_
      refine go_iconst dX1_join_26 (R32_lit rfl) ?_
      refine go_aald3 dX1_join_27 rfl (fun _ => rfl) (by omega) (by omega) ?_
      rw [show N (14, f, 0) 0 = (15, f, c0) from hcn]
      refine go_lconst (x := 1) dX1_join_28 rfl ?_
      refine v1_150 dX1_join_29 rfl ⟨rfl, rfl⟩ ⟨rfl, rfl⟩ (ct_X0_add (hF1.fi hj) (hF1.fi hcm.1) hcm.2) (fun M2 N2 hq2 => ?_)
      refine go_retv dX1_join_32 ?_
      obtain ⟨hI2, hw2, rfl⟩ := hq2
      have hF2 := hF1.upd hI2 hw2 h34
      rw [up_eq, fad_0 hrg, up_ne hcm.2] at hF2
      have e7 : ∀ Y X, va_up (va_up φ j Y) j X = va_up φ j X := by
        intro Y X
        funext k
        unfold va_up
        split <;> rfl
      rw [e7] at hF2
      exact ⟨hF2, hw1.ff.tr hw2.ff, rfl⟩
  · refine go_retv dX1_join_12 ?_
    obtain rfl : cs = [] := by
      cases cs with
      | nil => rfl
      | cons a t => simp at h9; omega
    exact ⟨hF1, hw1.ff, rfl⟩
