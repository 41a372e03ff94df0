/-- the first start at which a pick parts -/
def fpR (S : Pg) (v : Int) : Nat → Int → (Int → Int) → Int → Int
  | 0, _, _, _ => -2
  | n + 1, k, pt, s => if wyP S (dqS S pt s (S 11 0).toNat).1 v = 1 ∨ wyP S (dqS S pt s (S 11 0).toNat).1 v = 2 then k else fpR S v n (k + 1) (dqS S pt s (S 11 0).toNat).1 (dqS S pt s (S 11 0).toNat).2
theorem fpR_s {S : Pg} {v k s : Int} {pt : Int → Int} {n : Nat} (h : 0 < n) : fpR S v n k pt s = if wyP S (dqS S pt s (S 11 0).toNat).1 v = 1 ∨ wyP S (dqS S pt s (S 11 0).toNat).1 v = 2 then k else fpR S v (n - 1) (k + 1) (dqS S pt s (S 11 0).toNat).1 (dqS S pt s (S 11 0).toNat).2 := by
  cases n with
  | zero => exact absurd h (by decide)
  | succ m => rfl
set_option maxRecDepth 100000 in
set_option maxHeartbeats 4000000 in
theorem lp_X8_parts {E : Ev} {M : Mm} {N : Nn} {S : Pg} {v m s y R0 : Int} {Q : Int → Mm → Nn → Prop} (hQ : QR S M) (hW : WF S) (v0 : 0 ≤ v) (v1 : v < S 11 0) (h3 : S 0 v = 3) (m1 : m ≤ 200) (hT : ∀ M3, Kr [48] [30, 31, 32] M M3 → Q R0 M3 N) : ∀ (n : Nat) (k : Int) (M2 : Mm) (x6 : Vv), (k + n = m) → (0 ≤ k) → (0 ≤ M2 (29, 0, 0) 48) → (M2 (29, 0, 0) 48 ≤ 65536) → (fpR S v n k (M2 (30, 0, 32)) (M2 (29, 0, 0) 48) = R0) → (Kr [48] [30, 31, 32] M M2) → Go E RX8 cX8_parts 7 ((some .int)) (rmH 6) 0 0 (zM E (qi Q)) 63 [vr (29, 0, 0), vi v, vi m, vi s, vi y, vi k, x6] [] M2 N := by
  intro n
  induction n using Nat.strongRecOn with
  | ind n ih =>
  intro k M2 x6 hn k0 s0 s1 hR hf
  refine go_iload dX8_parts_63 rfl ?_
  refine go_iload_n dX8_parts_65 rfl ?_
  refine go_icmp_ge (tgt := 105) dX8_parts_66 rfl (fun h66 => ?_) (fun h66 => ?_)
  · refine go_bipush dX8_parts_105 ⟨by decide, by decide⟩ ?_
    refine go_reti dX8_parts_107 ?_
    rw [show n = 0 by omega] at hR
    have : R0 = -2 := hR.symm
    rw [← this]
    exact hT _ hf
  · have fs := fpR_s (S := S) (v := v) (k := k) (s := M2 (29, 0, 0) 48) (pt := M2 (30, 0, 32)) (n := n) (by omega)
    have db := dqS_bd S (M2 (30, 0, 32)) s0 s1 (S 11 0).toNat
    refine go_aload_n dX8_parts_69 rfl rfl ?_
    refine v8_486 dX8_parts_70 rfl ⟨rfl, rfl⟩ ⟨rfl, rfl⟩ (ct_X8_drawsPoint (hQ.k hf (by decide) (by decide) (by decide) (by decide) (by decide) (by decide) (by decide) (by decide)) hW s0 s1) (fun M3 N3 hq1 => ?_)
    obtain ⟨d1, d2, fd, rfl⟩ := hq1
    have f3 : Kr [48] [30, 31, 32] M M3 := hf.tr (fd.up (by decide) (by decide))
    refine go_aload_n dX8_parts_73 rfl rfl ?_
    refine v8_340 dX8_parts_74 rfl ⟨rfl, rfl⟩ ⟨rfl, rfl⟩ (ct_X8_reckons (hQ.k f3 (by decide) (by decide) (by decide) (by decide) (by decide) (by decide) (by decide) (by decide)) (fun u u0 u1 => (hW.2.2.2.2.2.2.1 u u0 u1).1)) (fun M4 N4 hq2 => ?_)
    obtain ⟨g1, g2, rfl⟩ := hq2
    have f4 : Kr [48] [30, 31, 32] M M4 := f3.tr (g2.up (by decide) (by decide))
    rw [d1] at g1
    have e32 : M4 (30, 0, 32) = (dqS S (M2 (30, 0, 32)) (M2 (29, 0, 0) 48) (S 11 0).toNat).1 := (g2.a 32 (by decide)).trans d1
    have e48 : M4 (29, 0, 0) 48 = (dqS S (M2 (30, 0, 32)) (M2 (29, 0, 0) 48) (S 11 0).toNat).2 := (g2.s 48 (by decide)).trans d2
    refine go_aload_n dX8_parts_77 rfl rfl ?_
    refine go_iload_n dX8_parts_78 rfl ?_
    refine v8_355 dX8_parts_79 rfl ⟨rfl, rfl⟩ ⟨rfl, rfl⟩ (ct_X8_wentOf (hQ.k f4 (by decide) (by decide) (by decide) (by decide) (by decide) (by decide) (by decide) (by decide)) (fun u u0 u1 => (hW.2.2.2.2.2.2.1 u u0 u1).1) v0 v1 h3 g1) (fun r3 M5 N5 hr3 hq3 => ?_)
    obtain ⟨z3, rfl, rfl⟩ := hq3
    subst z3
    refine go_ist6 dX8_parts_82 rfl rfl ?_
    refine go_iload dX8_parts_84 rfl ?_
    refine go_iconst dX8_parts_86 (R32_lit rfl) ?_
    refine go_icmp_eq (tgt := 96) dX8_parts_87 rfl (fun h87 => ?_) (fun h87 => ?_)
    · refine go_iload dX8_parts_96 rfl ?_
      refine go_reti dX8_parts_98 ?_
      rw [if_pos (by omega)] at fs
      rw [← fs, hR]
      exact hT _ f4
    · refine go_iload dX8_parts_90 rfl ?_
      refine go_iconst dX8_parts_92 (R32_lit rfl) ?_
      refine go_icmp_ne (tgt := 99) dX8_parts_93 rfl (fun h93 => ?_) (fun h93 => ?_)
      · refine go_iinc5c dX8_parts_99 rfl rfl ⟨by omega, by omega⟩ ?_
        refine go_goto (tgt := 63) dX8_parts_102 rfl ?_
        rw [if_neg (by omega)] at fs
        exact ih (n - 1) (by omega) (k + 1) _ _ (by omega) (by omega) (by rw [e48]; exact db.1) (by rw [e48]; exact db.2) (by rw [e32, e48, ← fs]; exact hR) f4
      · refine go_iload dX8_parts_96 rfl ?_
        refine go_reti dX8_parts_98 ?_
        rw [if_pos (by omega)] at fs
        rw [← fs, hR]
        exact hT _ f4
set_option maxRecDepth 100000 in
set_option maxHeartbeats 4000000 in
theorem ct_X8_parts {E : Ev} {M : Mm} {N : Nn} {S : Pg} {v m s : Int} (hQ : QR S M) (hW : WF S) : Ct E yX8_parts cX8_parts 7 ((some .int)) (rmH 6) [vr (29, 0, 0), vi v, vi m, vi s] M N (qi (fun r M1 N1 => (((0 ≤ v ∧ v < S 11 0 ∧ S 0 v = 3) ∧ (1 ≤ m ∧ m ≤ 200 ∧ 0 ≤ s ∧ s ≤ 65536)) ∧ r = fpR S v m.toNat 0 (M (30, 0, 32)) s ∧ F8 (rfM M 0) M1 ∨ ((0 ≤ v ∧ v < S 11 0 ∧ S 0 v = 3) ∧ ¬ (1 ≤ m ∧ m ≤ 200 ∧ 0 ≤ s ∧ s ≤ 65536)) ∧ r = -1 ∧ F8 (rfM M 2) M1 ∨ (0 ≤ v ∧ v < S 11 0 ∧ S 0 v ≠ -2 ∧ S 0 v ≠ 3) ∧ r = -1 ∧ F8 (rfM M 5) M1 ∨ ¬ (0 ≤ v ∧ v < S 11 0 ∧ S 0 v ≠ -2) ∧ r = -1 ∧ F8 (rfM M 1) M1) ∧ N = N1)) := by
  refine ct_of (own := RX8) (L0 := [vr (29, 0, 0), vi v, vi m, vi s, vn, vn, vn]) rfl (by decide +kernel) rfl rfl ?_
  have c6 := hQ.1
  have c5 := hQ.2.2.1
  have c0 := hQ.2.1
  refine go_aload_n dX8_parts_0 rfl rfl ?_
  refine go_iload_n dX8_parts_1 rfl ?_
  refine v8_352 dX8_parts_2 rfl ⟨rfl, rfl⟩ ⟨rfl, rfl⟩ (ct_X8_whyNoPick hQ) (fun r1 M1 N1 hr1 hq1 => ?_)
  obtain ⟨z1, rfl, rfl⟩ := hq1
  have z1 := np_cs z1
  refine go_ist4 dX8_parts_5 rfl rfl ?_
  refine go_aload_n dX8_parts_7 rfl rfl ?_
  refine go_iload dX8_parts_8 rfl ?_
  refine go_if_eq (tgt := 18) dX8_parts_10 rfl (fun h10 => ?_) (fun h10 => ?_)
  · refine go_iload_n dX8_parts_18 rfl ?_
    refine go_i2l dX8_parts_19 ?_
    refine go_lconst (x := 1) dX8_parts_20 rfl ?_
    refine c8_507 dX8_parts_21 ?_
    refine v8_140 dX8_parts_24 rfl ⟨rfl, rfl⟩ ⟨rfl, rfl⟩ ct_X8_in (fun r2 M2 N2 hr2 hq2 => ?_)
    obtain ⟨z2, rfl, rfl⟩ := hq2
    have z2 := bit_iff z2
    refine go_if_eq (tgt := 46) dX8_parts_27 rfl (fun h27 => ?_) (fun h27 => ?_)
    · refine go_iconst dX8_parts_46 (R32_lit rfl) ?_
      refine v8_269 dX8_parts_47 rfl ⟨rfl, rfl⟩ ⟨rfl, rfl⟩ ct_X8_isRefused (fun r4 M4 N4 hr4 hq4 => ?_)
      obtain ⟨z4, rfl, rfl⟩ := hq4
      have z4 := bit_iff z4
      refine go_if_eq (tgt := 55) dX8_parts_50 rfl (fun h50 => ?_) (fun h50 => ?_)
      · have hv : (0 ≤ v ∧ v < S 11 0 ∧ S 0 v = 3) := by omega
        have hc : (1 ≤ m ∧ m ≤ 200 ∧ 0 ≤ s ∧ s ≤ 65536) := by omega
        first | rw [show rfM M 2 = rfM M 0 from (show False by omega).elim] | skip
        first | rw [show r1 = 0 by omega] | skip
        refine go_aload_n dX8_parts_55 rfl rfl ?_
        refine go_iload_n dX8_parts_56 rfl ?_
        refine p8_468 dX8_parts_57 ?_
        refine go_nmM (fun Ma eMa => ?_)
        have fa : Kr [48] [30, 31, 32] (rfM M 0) Ma := by
          rw [eMa]
          exact Kr.ws (k := 48) Kr.rf (by decide)
        have e48 : Ma (29, 0, 0) 48 = s := by rw [eMa, wr_eq]
        have e32 : Ma (30, 0, 32) = M (30, 0, 32) := by rw [eMa, wr_nf (nm_ne1 (by decide))]; exact rfM_a
        clear eMa
        refine go_iconst dX8_parts_60 (R32_lit rfl) ?_
        refine go_ist5 dX8_parts_61 rfl rfl ?_
        exact lp_X8_parts (M := rfM M 0) (R0 := fpR S v m.toNat 0 (M (30, 0, 32)) s) (rfM_Q hQ) hW hv.1 hv.2.1 hv.2.2 hc.2.1 (fun M3 f3 => ⟨Or.inl ⟨⟨hv, hc⟩, rfl, F8.of f3 (by decide) (by decide)⟩, rfl⟩) m.toNat 0 Ma _ (by omega) (by omega) (by omega) (by omega) (by rw [e32, e48]) fa
      · refine go_iconst dX8_parts_53 (R32_lit rfl) ?_
        refine go_reti dX8_parts_54 ?_
        rcases z1 with ⟨y, e⟩ | ⟨y, e⟩ | ⟨y, e⟩
        · first | (exact absurd e (by omega)) | exact ⟨Or.inr (Or.inl ⟨⟨y, by omega⟩, rfl, F8.rf⟩), rfl⟩
        · first | (exact absurd e (by omega)) | (rw [e]; exact ⟨Or.inr (Or.inr (Or.inl ⟨y, rfl, F8.rf⟩)), rfl⟩)
        · first | (exact absurd e (by omega)) | (rw [e]; exact ⟨Or.inr (Or.inr (Or.inr ⟨y, rfl, F8.rf⟩)), rfl⟩)
    · refine go_iload_n dX8_parts_30 rfl ?_
      refine go_i2l dX8_parts_31 ?_
      refine go_lconst (x := 0) dX8_parts_32 rfl ?_
      refine c8_494 dX8_parts_33 ?_
      refine v8_140 dX8_parts_36 rfl ⟨rfl, rfl⟩ ⟨rfl, rfl⟩ ct_X8_in (fun r3 M3 N3 hr3 hq3 => ?_)
      obtain ⟨z3, rfl, rfl⟩ := hq3
      have z3 := bit_iff z3
      refine go_if_eq (tgt := 46) dX8_parts_39 rfl (fun h39 => ?_) (fun h39 => ?_)
      · refine go_iconst dX8_parts_46 (R32_lit rfl) ?_
        refine v8_269 dX8_parts_47 rfl ⟨rfl, rfl⟩ ⟨rfl, rfl⟩ ct_X8_isRefused (fun r4 M4 N4 hr4 hq4 => ?_)
        obtain ⟨z4, rfl, rfl⟩ := hq4
        have z4 := bit_iff z4
        refine go_if_eq (tgt := 55) dX8_parts_50 rfl (fun h50 => ?_) (fun h50 => ?_)
        · have hv : (0 ≤ v ∧ v < S 11 0 ∧ S 0 v = 3) := by omega
          have hc : (1 ≤ m ∧ m ≤ 200 ∧ 0 ≤ s ∧ s ≤ 65536) := by omega
          first | rw [show rfM M 2 = rfM M 0 from (show False by omega).elim] | skip
          first | rw [show r1 = 0 by omega] | skip
          refine go_aload_n dX8_parts_55 rfl rfl ?_
          refine go_iload_n dX8_parts_56 rfl ?_
          refine p8_468 dX8_parts_57 ?_
          refine go_nmM (fun Ma eMa => ?_)
          have fa : Kr [48] [30, 31, 32] (rfM M 0) Ma := by
            rw [eMa]
            exact Kr.ws (k := 48) Kr.rf (by decide)
          have e48 : Ma (29, 0, 0) 48 = s := by rw [eMa, wr_eq]
          have e32 : Ma (30, 0, 32) = M (30, 0, 32) := by rw [eMa, wr_nf (nm_ne1 (by decide))]; exact rfM_a
          clear eMa
          refine go_iconst dX8_parts_60 (R32_lit rfl) ?_
          refine go_ist5 dX8_parts_61 rfl rfl ?_
          exact lp_X8_parts (M := rfM M 0) (R0 := fpR S v m.toNat 0 (M (30, 0, 32)) s) (rfM_Q hQ) hW hv.1 hv.2.1 hv.2.2 hc.2.1 (fun M3 f3 => ⟨Or.inl ⟨⟨hv, hc⟩, rfl, F8.of f3 (by decide) (by decide)⟩, rfl⟩) m.toNat 0 Ma _ (by omega) (by omega) (by omega) (by omega) (by rw [e32, e48]) fa
        · refine go_iconst dX8_parts_53 (R32_lit rfl) ?_
          refine go_reti dX8_parts_54 ?_
          rcases z1 with ⟨y, e⟩ | ⟨y, e⟩ | ⟨y, e⟩
          · first | (exact absurd e (by omega)) | exact ⟨Or.inr (Or.inl ⟨⟨y, by omega⟩, rfl, F8.rf⟩), rfl⟩
          · first | (exact absurd e (by omega)) | (rw [e]; exact ⟨Or.inr (Or.inr (Or.inl ⟨y, rfl, F8.rf⟩)), rfl⟩)
          · first | (exact absurd e (by omega)) | (rw [e]; exact ⟨Or.inr (Or.inr (Or.inr ⟨y, rfl, F8.rf⟩)), rfl⟩)
      · refine go_iconst dX8_parts_42 (R32_lit rfl) ?_
        refine go_goto (tgt := 47) dX8_parts_43 rfl ?_
        refine v8_269 dX8_parts_47 rfl ⟨rfl, rfl⟩ ⟨rfl, rfl⟩ ct_X8_isRefused (fun r4 M4 N4 hr4 hq4 => ?_)
        obtain ⟨z4, rfl, rfl⟩ := hq4
        have z4 := bit_iff z4
        refine go_if_eq (tgt := 55) dX8_parts_50 rfl (fun h50 => ?_) (fun h50 => ?_)
        · have hv : (0 ≤ v ∧ v < S 11 0 ∧ S 0 v = 3) := by omega
          have hc : (1 ≤ m ∧ m ≤ 200 ∧ 0 ≤ s ∧ s ≤ 65536) := by omega
          first | rw [show rfM M 2 = rfM M 0 from (show False by omega).elim] | skip
          first | rw [show r1 = 0 by omega] | skip
          refine go_aload_n dX8_parts_55 rfl rfl ?_
          refine go_iload_n dX8_parts_56 rfl ?_
          refine p8_468 dX8_parts_57 ?_
          refine go_nmM (fun Ma eMa => ?_)
          have fa : Kr [48] [30, 31, 32] (rfM M 0) Ma := by
            rw [eMa]
            exact Kr.ws (k := 48) Kr.rf (by decide)
          have e48 : Ma (29, 0, 0) 48 = s := by rw [eMa, wr_eq]
          have e32 : Ma (30, 0, 32) = M (30, 0, 32) := by rw [eMa, wr_nf (nm_ne1 (by decide))]; exact rfM_a
          clear eMa
          refine go_iconst dX8_parts_60 (R32_lit rfl) ?_
          refine go_ist5 dX8_parts_61 rfl rfl ?_
          exact lp_X8_parts (M := rfM M 0) (R0 := fpR S v m.toNat 0 (M (30, 0, 32)) s) (rfM_Q hQ) hW hv.1 hv.2.1 hv.2.2 hc.2.1 (fun M3 f3 => ⟨Or.inl ⟨⟨hv, hc⟩, rfl, F8.of f3 (by decide) (by decide)⟩, rfl⟩) m.toNat 0 Ma _ (by omega) (by omega) (by omega) (by omega) (by rw [e32, e48]) fa
        · refine go_iconst dX8_parts_53 (R32_lit rfl) ?_
          refine go_reti dX8_parts_54 ?_
          rcases z1 with ⟨y, e⟩ | ⟨y, e⟩ | ⟨y, e⟩
          · first | (exact absurd e (by omega)) | exact ⟨Or.inr (Or.inl ⟨⟨y, by omega⟩, rfl, F8.rf⟩), rfl⟩
          · first | (exact absurd e (by omega)) | (rw [e]; exact ⟨Or.inr (Or.inr (Or.inl ⟨y, rfl, F8.rf⟩)), rfl⟩)
          · first | (exact absurd e (by omega)) | (rw [e]; exact ⟨Or.inr (Or.inr (Or.inr ⟨y, rfl, F8.rf⟩)), rfl⟩)
  · refine go_iload dX8_parts_13 rfl ?_
    refine go_goto (tgt := 47) dX8_parts_15 rfl ?_
    refine v8_269 dX8_parts_47 rfl ⟨rfl, rfl⟩ ⟨rfl, rfl⟩ ct_X8_isRefused (fun r4 M4 N4 hr4 hq4 => ?_)
    obtain ⟨z4, rfl, rfl⟩ := hq4
    have z4 := bit_iff z4
    refine go_if_eq (tgt := 55) dX8_parts_50 rfl (fun h50 => ?_) (fun h50 => ?_)
    · have hv : (0 ≤ v ∧ v < S 11 0 ∧ S 0 v = 3) := by omega
      have hc : (1 ≤ m ∧ m ≤ 200 ∧ 0 ≤ s ∧ s ≤ 65536) := by omega
      first | rw [show rfM M 2 = rfM M 0 from (show False by omega).elim] | skip
      first | rw [show r1 = 0 by omega] | skip
      refine go_aload_n dX8_parts_55 rfl rfl ?_
      refine go_iload_n dX8_parts_56 rfl ?_
      refine p8_468 dX8_parts_57 ?_
      refine go_nmM (fun Ma eMa => ?_)
      have fa : Kr [48] [30, 31, 32] (rfM M 0) Ma := by
        rw [eMa]
        exact Kr.ws (k := 48) Kr.rf (by decide)
      have e48 : Ma (29, 0, 0) 48 = s := by rw [eMa, wr_eq]
      have e32 : Ma (30, 0, 32) = M (30, 0, 32) := by rw [eMa, wr_nf (nm_ne1 (by decide))]; exact rfM_a
      clear eMa
      refine go_iconst dX8_parts_60 (R32_lit rfl) ?_
      refine go_ist5 dX8_parts_61 rfl rfl ?_
      exact lp_X8_parts (M := rfM M 0) (R0 := fpR S v m.toNat 0 (M (30, 0, 32)) s) (rfM_Q hQ) hW hv.1 hv.2.1 hv.2.2 hc.2.1 (fun M3 f3 => ⟨Or.inl ⟨⟨hv, hc⟩, rfl, F8.of f3 (by decide) (by decide)⟩, rfl⟩) m.toNat 0 Ma _ (by omega) (by omega) (by omega) (by omega) (by rw [e32, e48]) fa
    · refine go_iconst dX8_parts_53 (R32_lit rfl) ?_
      refine go_reti dX8_parts_54 ?_
      rcases z1 with ⟨y, e⟩ | ⟨y, e⟩ | ⟨y, e⟩
      · first | (exact absurd e (by omega)) | exact ⟨Or.inr (Or.inl ⟨⟨y, by omega⟩, rfl, F8.rf⟩), rfl⟩
      · first | (exact absurd e (by omega)) | (rw [e]; exact ⟨Or.inr (Or.inr (Or.inl ⟨y, rfl, F8.rf⟩)), rfl⟩)
      · first | (exact absurd e (by omega)) | (rw [e]; exact ⟨Or.inr (Or.inr (Or.inr ⟨y, rfl, F8.rf⟩)), rfl⟩)
