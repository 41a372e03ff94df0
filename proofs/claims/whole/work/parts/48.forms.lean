set_option maxRecDepth 100000 in
set_option maxHeartbeats 4000000 in
theorem lp_X1_reckon1 {E : Ev} {M : Mm} {N : Nn} {f p : Nat} {wd : Int} (hc : RC (pgC M p)) (hW : Clo (pgC M p) (wB wd)) : ∀ (n : Nat) (i : Int) (M' : Mm) (φ' : Nat → FV) (ma' : Int → Int), (i + n = pgC M p 12 0) → (0 ≤ i) → (Ff f M M') → (FS M' f φ' (sI (pgC M p) i.toNat).2.1 ma') → (∀ j, 0 ≤ j → j < i → Ag φ' (sI (pgC M p) i.toNat).1 (pgC M p 10 j).toNat ∧ ma' (pgC M p 10 j) = (sI (pgC M p) i.toNat).2.2 (pgC M p 10 j)) → Go E RX1 cX1_reckon 5 (none) (rmH 6) 0 0 (zM E (qv (fun M1 N1 => (∃ φ1 ma1, FS M1 f φ1 (sK (pgC M p) (wB wd) (pgC M p 11 0).toNat).2.1 ma1 ∧ Rk (pgC M p) (wB wd) (pgC M p 11 0) (sK (pgC M p) (wB wd) (pgC M p 11 0).toNat) φ1 ma1) ∧ Ff f M M1 ∧ Nf f N N1))) 7 [vr (7, f, 0), vr (18, p, 0), vi wd, vi i, vn] [] M' N := by
  intro n
  induction n using Nat.strongRecOn with
  | ind n ih =>
  intro i M' φ' ma' hn h0 hf hF hA
  obtain ⟨hn0, hn1, hm0, hm1, hcn, hin, hin2, hin3, hst⟩ := id hc
  have hp' : pgC M' p = pgC M p := hf.pg
  have h12 : M' (18, p, 0) 12 = pgC M p 12 0 := congrFun (congrFun hp' 12) 0
  have hit : ((i.toNat : Nat) : Int) = i := Int.toNat_of_nonneg h0
  refine go_iload_n dX1_reckon_7 rfl ?_
  refine go_aload_n dX1_reckon_8 rfl rfl ?_
  refine g1_57 dX1_reckon_9 ?_
  rw [h12]
  refine go_icmp_ge (tgt := 32) dX1_reckon_12 rfl (fun h12 => ?_) (fun h12 => ?_)
  · refine go_iconst dX1_reckon_32 (R32_lit rfl) ?_
    refine go_ist3 dX1_reckon_33 rfl rfl ?_
    exact lp_X1_reckon2 hc hW (pgC M p 11 0).toNat 0 M' N φ' ma' _ (by omega) (by omega) hf Nf.rf (by
      show FS M' f φ' (sI (pgC M p) (pgC M p 12 0).toNat).2.1 ma'
      rw [show pgC M p 12 0 = i by omega]
      exact hF) (fun w hw => by
      show Ag φ' (sI (pgC M p) (pgC M p 12 0).toNat).1 w.toNat ∧ ma' w = (sI (pgC M p) (pgC M p 12 0).toNat).2.2 w
      rw [show pgC M p 12 0 = i by omega]
      have hz : pgC M p 0 w = -2 := hw.2.2.elim id (fun z => absurd z.2.2 (by have := hw.1; omega))
      obtain ⟨j, j0, j1, rfl⟩ := hin2 w hw.1 hw.2.1 hz
      exact hA j j0 (by omega))
  · refine go_aload_n dX1_reckon_15 rfl rfl ?_
    refine go_aload_n dX1_reckon_16 rfl rfl ?_
    refine go_aload_n dX1_reckon_17 rfl rfl ?_
    refine g1_62 dX1_reckon_18 ?_
    refine go_iload_n dX1_reckon_21 rfl ?_
    refine go_iald dX1_reckon_22 rfl (by omega) (by omega) ?_
    rw [show M' (19, p, 10) i = pgC M p 10 i from congrFun (congrFun hp' 10) i]
    refine go_nmi (fun v ev => ?_)
    have hvb := hin i h0 (by omega)
    rw [← ev] at hvb
    have hnu := sI_nu (pgC M p) i.toNat
    refine v1_65 dX1_reckon_23 rfl ⟨rfl, rfl⟩ ⟨rfl, rfl⟩ (ct_X1_reckonInput hF hvb.1 (by omega) (by omega) (by rw [hp']; exact hvb.2.2)) (fun M1 N1 hq1 => ?_)
    refine go_iinc3c dX1_reckon_26 rfl rfl ⟨by omega, by omega⟩ ?_
    refine go_goto (tgt := 7) dX1_reckon_29 rfl ?_
    obtain ⟨hF1, hf1, rfl⟩ := hq1
    rw [hp', sI_nu, hit] at hF1
    exact ih (n - 1) (by omega) (i + 1) _ _ _ (by omega) (by omega) (hf.tr hf1) (by
      rw [show (i + 1).toNat = i.toNat + 1 by omega]
      show FS _ f _ (nw (sI (pgC M p) i.toNat).2.1 (pgC M p 10 ((i.toNat : Nat) : Int)) 0) _
      rw [hit, ← ev]
      exact hF1) (fun j j0 j1 => by
      have hjb := hin j j0 (by omega)
      rw [show (i + 1).toNat = i.toNat + 1 by omega]
      show Ag _ (va_up (va_up (sI (pgC M p) i.toNat).1 (pgC M p 10 ((i.toNat : Nat) : Int)).toNat (fno (fnum (pgC M p 2 (pgC M p 10 ((i.toNat : Nat) : Int)) + (pgC M p 3 (pgC M p 10 ((i.toNat : Nat) : Int)) - pgC M p 2 (pgC M p 10 ((i.toNat : Nat) : Int))).tdiv 2)) (sI (pgC M p) i.toNat).2.1.1 ((pgC M p 3 (pgC M p 10 ((i.toNat : Nat) : Int)) - pgC M p 2 (pgC M p 10 ((i.toNat : Nat) : Int))).tdiv 2))) (15 + (pgC M p 10 ((i.toNat : Nat) : Int)).toNat) fz) _ ∧ (if pgC M p 10 j = v then _ else ma' (pgC M p 10 j)) = (if pgC M p 10 j = pgC M p 10 ((i.toNat : Nat) : Int) then _ else (sI (pgC M p) i.toNat).2.2 (pgC M p 10 j))
      rw [hit, sI_nu, hit, ← ev]
      have hold : j < i → Ag φ' (sI (pgC M p) i.toNat).1 (pgC M p 10 j).toNat ∧ ma' (pgC M p 10 j) = (sI (pgC M p) i.toNat).2.2 (pgC M p 10 j) := hA j j0
      have hji : j = i → pgC M p 10 j = v := fun z => by rw [z]; exact ev.symm
      generalize pgC M p 10 j = w at *
      by_cases e : w = v
      · subst e
        rw [if_pos rfl, if_pos rfl]
        refine ⟨⟨?_, ?_⟩, rfl⟩
        · rw [up_ne (by omega), up_eq, up_ne (by omega), up_eq]
        · rw [up_eq, up_eq]
      · rw [if_neg e, if_neg e]
        obtain ⟨⟨a1, a2⟩, a3⟩ := hold (by rcases Classical.em (j = i) with z | z; exact absurd (hji z) e; omega)
        refine ⟨⟨?_, ?_⟩, a3⟩
        · rw [up_ne (by omega), up_ne (by omega), up_ne (by omega), up_ne (by omega)]; exact a1
        · rw [up_ne (by omega), up_ne (by omega), up_ne (by omega), up_ne (by omega)]; exact a2)
set_option maxRecDepth 100000 in
set_option maxHeartbeats 4000000 in
theorem ct_X1_reckon {E : Ev} {M : Mm} {N : Nn} {f p : Nat} {φ : Nat → FV} {ν : Nu} {ma : Int → Int} {wd : Int} (hF : FS M f φ ν ma) (hc : RC (pgC M p)) (hW : Clo (pgC M p) (wB wd)) : Ct E yX1_reckon cX1_reckon 5 (none) (rmH 6) [vr (7, f, 0), vr (18, p, 0), vi wd] M N (qv (fun M1 N1 => (∃ φ1 ma1, FS M1 f φ1 (sK (pgC M p) (wB wd) (pgC M p 11 0).toNat).2.1 ma1 ∧ Rk (pgC M p) (wB wd) (pgC M p 11 0) (sK (pgC M p) (wB wd) (pgC M p 11 0).toNat) φ1 ma1) ∧ Ff f M M1 ∧ Nf f N N1)) := by
  refine ct_of (own := RX1) (L0 := [vr (7, f, 0), vr (18, p, 0), vi wd, vn, vn]) rfl (by decide +kernel) rfl rfl ?_
  refine go_aload_n dX1_reckon_0 rfl rfl ?_
  refine go_iconst dX1_reckon_1 (R32_lit rfl) ?_
  refine p1_53 dX1_reckon_2 ?_
  refine go_nmM (fun M0 eM0 => ?_)
  have hF0 : FS M0 f φ nu0 ma := by rw [eM0]; exact hF.nu0
  have hf0 : Ff f M M0 := by rw [eM0]; exact Ff.wr Ff.rf (by decide) (by decide)
  refine go_iconst dX1_reckon_5 (R32_lit rfl) ?_
  refine go_ist3 dX1_reckon_6 rfl rfl ?_
  exact lp_X1_reckon1 hc hW (pgC M p 12 0).toNat 0 M0 φ ma (by have := hc.2.2.1; omega) (by omega) hf0 hF0 (fun j j0 j1 => absurd j1 (by omega))
