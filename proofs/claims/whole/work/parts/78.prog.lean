theorem go_nmN {E : Ev} {own : String} {cc : ByteArray} {nL : Nat} {ret : Option FieldType} {R : Room} {cl sl : Nat} {Z : Zt} {pc : Nat} {L st : List Vv} {M : Mm} {N0 : Nn} (k : ∀ N1, N1 = N0 → Go E own cc nL ret R cl sl Z pc L st M N1) : Go E own cc nL ret R cl sl Z pc L st M N0 := k N0 rfl
def rd0 (n : Int) (s : Rs) : Rs := (upI (upI (upI (upI s.1 3 n) 0 0) 1 (-1)) 7 0, psk (psk s.2 11 0) 12 0)
/-- the reader at the first token of n bytes -/
def rdS (b : Int → Int) (n : Int) (s : Rs) : Rs := (adR b (rd0 n s).1, (rd0 n s).2)
theorem rdS_I {b : Int → Int} {n : Int} {s : Rs} (h1 : n ≤ 500) : RI 0 (rdS b n s) := by
  refine ⟨adR_B ⟨h1, Int.le_refl 0, (by show (0 : Int) ≤ 500; decide)⟩, ?_, fun j j0 j1 => absurd j1 (by omega)⟩
  have e11 : (rdS b n s).2 11 0 = 0 := rfl
  have e12 : (rdS b n s).2 12 0 = 0 := rfl
  unfold DrO
  rw [e11, e12]
  exact ⟨by decide, by decide, by decide, by decide, by decide, by decide, fun v v0 v1 => absurd v1 (by omega)⟩
def rdN (q : Nat) (N : Nn) : Nn := wrN (wrN N (6, 0, 0) 2 (4, 0, 0)) (6, 0, 0) 4 (18, q, 0)
theorem rdN_H {M : Mm} {N : Nn} {q : Nat} : RH M (rdN q N) q (M (4, 0, 0)) := ⟨by unfold rdN; rw [wrN_ne (fun z => absurd z.2 (by decide)), wrN_eq], by unfold rdN; rw [wrN_eq], rfl⟩
set_option maxRecDepth 100000 in
set_option maxHeartbeats 4000000 in
theorem lp_X4_read {E : Ev} {M : Mm} {N : Nn} {q : Nat} {b : Int → Int} {X : Rr} {c : Int} (hN : EN E) (hE : ES E) : ∀ (n : Nat) (i : Int) (M2 : Mm), (i + n = 501) → (0 ≤ i) → (RH M2 N q b) → (RI 0 (sR M2 q)) → (Rf q M M2) → (pAl b n (sR M2 q) = X) → Go E RX4 cX4_read 5 ((some .boolean)) (rmH 10) 0 0 (zM E (qi (fun r M1 N1 => (r, sR M1 q) = X ∧ Rf q M M1 ∧ N = N1))) 53 [vr (6, 0, 0), vr (4, 0, 0), vi c, vr (18, q, 0), vi i] [] M2 N := by
  intro n
  induction n using Nat.strongRecOn with
  | ind n ih =>
  intro i M2 hn i0 hH hI hf hx
  refine go_iload dX4_read_53 rfl ?_
  refine go_sipush dX4_read_55 ⟨by decide, by decide⟩ ?_
  refine go_icmp_gt (tgt := 123) dX4_read_58 rfl (fun h58 => ?_) (fun h58 => ?_)
  · have n0 : n = 0 := by omega
    subst n0
    have hx : pFl (sR M2 q) 1 ((sR M2 q).1 6) = X := hx
    refine go_aload_n dX4_read_123 rfl rfl ?_
    refine go_iconst dX4_read_124 (R32_lit rfl) ?_
    refine go_aload_n dX4_read_125 rfl rfl ?_
    refine g4_54 dX4_read_126 ?_
    refine v4_57 dX4_read_129 rfl ⟨rfl, rfl⟩ ⟨rfl, rfl⟩ ct_X4_fail (fun r7 M7 N7 hr7 hq7 => ?_)
    refine go_retz dX4_read_132 (by first | exact Or.inl rfl | exact Or.inr rfl | omega) ?_
    obtain ⟨y1, y2, y3, rfl⟩ := hq7
    refine ⟨?_, hf.tr y3.Rf, rfl⟩
    rw [← hx, sR_Z y2 y3, y1]
    rfl
  · obtain ⟨k, rfl⟩ : ∃ k, n = k + 1 := ⟨n - 1, by omega⟩
    have hx : bnd (pLn b (sR M2 q)) (fun t => if t.1 5 = 0 then pEn t else bnd (pSg b 59 t) (pAl b k)) = X := hx
    refine go_aload_n dX4_read_61 rfl rfl ?_
    refine v4_43 dX4_read_62 rfl ⟨rfl, rfl⟩ ⟨rfl, rfl⟩ (ct_X4_readLine hN hE hH hI) (fun r3 M3 N3 hr3 hq1 => ?_)
    obtain ⟨e1, f1, rfl⟩ := hq1
    refine go_if_ne (tgt := 70) dX4_read_65 rfl (fun h65 => ?_) (fun h65 => ?_)
    · obtain ⟨a1, I1⟩ := nx_ln hI e1 h65
      have H1 := hH.nx f1
      rw [← e1, bnd_p1 h65] at hx
      have d := I1.2.1
      unfold DrO at d
      refine go_aload_n dX4_read_70 rfl rfl ?_
      refine g4_47 dX4_read_71 ?_
      refine go_if_ne (tgt := 106) dX4_read_74 rfl (fun h74 => ?_) (fun h74 => ?_)
      · refine go_aload_n dX4_read_106 rfl rfl ?_
        refine go_bipush dX4_read_107 ⟨by decide, by decide⟩ ?_
        refine v4_61 dX4_read_109 rfl ⟨rfl, rfl⟩ ⟨rfl, rfl⟩ (ct_X4_skipSign (rd_O H1 I1)) (fun r6 M6 N6 hr6 hq6 => ?_)
        obtain ⟨g6, g6', rfl⟩ := hq6
        obtain ⟨e6, f6⟩ := cv_sg (q := q) H1.2.2 ⟨g6, g6'⟩
        rw [if_neg (show ¬ (sR M3 q).1 5 = 0 from h74), ← e6] at hx
        refine go_if_ne (tgt := 117) dX4_read_112 rfl (fun h112 => ?_) (fun h112 => ?_)
        · obtain ⟨a6, I6, K6⟩ := nx_sg I1 e6 h112
          rw [bnd_p1 h112] at hx
          refine go_iinc4c dX4_read_117 rfl rfl ⟨by omega, by omega⟩ ?_
          refine go_goto (tgt := 53) dX4_read_120 rfl ?_
          exact ih k (by omega) (i + 1) M6 (by omega) (by omega) (H1.nx f6) I6 ((hf.tr f1).tr f6) hx
        · refine go_iconst dX4_read_115 (R32_lit rfl) ?_
          refine go_retz dX4_read_116 (by first | exact Or.inl rfl | exact Or.inr rfl | omega) ?_
          refine ⟨?_, (hf.tr f1).tr f6, rfl⟩
          rw [← hx, bnd_p0 h112]
      · refine go_aload_n dX4_read_77 rfl rfl ?_
        refine g4_19 dX4_read_78 ?_
        rw [H1.2.1]
        refine v4_50 dX4_read_81 rfl ⟨rfl, rfl⟩ ⟨rfl, rfl⟩ (ct_X3_steps (p := q) ⟨by show -2147483648 ≤ (sR M3 q).2 11 0 - (sR M3 q).2 12 0; omega, by show (sR M3 q).2 11 0 - (sR M3 q).2 12 0 < 2147483648; omega⟩) (fun r4 M4 N4 hr4 hq4 => ?_)
        obtain ⟨z4, rfl, rfl⟩ := hq4
        have z4 : r4 = (sR M3 q).2 11 0 - (sR M3 q).2 12 0 := z4
        refine go_if_gt (tgt := 100) dX4_read_84 rfl (fun h84 => ?_) (fun h84 => ?_)
        · refine go_iconst dX4_read_100 (R32_lit rfl) ?_
          refine go_goto (tgt := 105) dX4_read_101 rfl ?_
          refine go_retz dX4_read_105 (by first | exact Or.inl rfl | exact Or.inr rfl | omega) ?_
          first
          | (exfalso; omega)
          | (refine ⟨?_, hf.tr f1, rfl⟩
             rw [← hx, if_pos (show (sR M3 q).1 5 = 0 from h74)]
             unfold pEn
             rw [if_pos (by omega)])
          | (refine ⟨?_, (hf.tr f1).tr y3.Rf, rfl⟩
             rw [← hx, if_pos (show (sR M3 q).1 5 = 0 from h74)]
             unfold pEn
             rw [if_neg (by omega), sR_Z y2 y3]
             rfl)
        · refine go_aload_n dX4_read_87 rfl rfl ?_
          refine go_bipush dX4_read_88 ⟨by decide, by decide⟩ ?_
          refine go_aload_n dX4_read_90 rfl rfl ?_
          refine g4_54 dX4_read_91 ?_
          refine v4_57 dX4_read_94 rfl ⟨rfl, rfl⟩ ⟨rfl, rfl⟩ ct_X4_fail (fun r5 M5 N5 hr5 hq5 => ?_)
          obtain ⟨y1, y2, y3, rfl⟩ := hq5
          refine go_if_eq (tgt := 104) dX4_read_97 rfl (fun h97 => ?_) (fun h97 => ?_)
          · refine go_iconst dX4_read_104 (R32_lit rfl) ?_
            refine go_retz dX4_read_105 (by first | exact Or.inl rfl | exact Or.inr rfl | omega) ?_
            first
            | (exfalso; omega)
            | (refine ⟨?_, hf.tr f1, rfl⟩
               rw [← hx, if_pos (show (sR M3 q).1 5 = 0 from h74)]
               unfold pEn
               rw [if_pos (by omega)])
            | (refine ⟨?_, (hf.tr f1).tr y3.Rf, rfl⟩
               rw [← hx, if_pos (show (sR M3 q).1 5 = 0 from h74)]
               unfold pEn
               rw [if_neg (by omega), sR_Z y2 y3]
               rfl)
          · refine go_iconst dX4_read_100 (R32_lit rfl) ?_
            refine go_goto (tgt := 105) dX4_read_101 rfl ?_
            refine go_retz dX4_read_105 (by first | exact Or.inl rfl | exact Or.inr rfl | omega) ?_
            first
            | (exfalso; omega)
            | (refine ⟨?_, hf.tr f1, rfl⟩
               rw [← hx, if_pos (show (sR M3 q).1 5 = 0 from h74)]
               unfold pEn
               rw [if_pos (by omega)])
            | (refine ⟨?_, (hf.tr f1).tr y3.Rf, rfl⟩
               rw [← hx, if_pos (show (sR M3 q).1 5 = 0 from h74)]
               unfold pEn
               rw [if_neg (by omega), sR_Z y2 y3]
               rfl)
    · refine go_iconst dX4_read_68 (R32_lit rfl) ?_
      refine go_retz dX4_read_69 (by first | exact Or.inl rfl | exact Or.inr rfl | omega) ?_
      refine ⟨?_, hf.tr f1, rfl⟩
      rw [← hx, ← e1, bnd_p0 h65]
set_option maxRecDepth 100000 in
set_option maxHeartbeats 4000000 in
theorem ct_X4_read {E : Ev} {M : Mm} {N : Nn} {q : Nat} {c : Int} (hN : EN E) (hE : ES E) (c1 : c ≤ 500) : Ct E yX4_read cX4_read 5 ((some .boolean)) (rmH 10) [vr (6, 0, 0), vr (4, 0, 0), vi c, vr (18, q, 0)] M N (qi (fun r M1 N1 => (r, sR M1 q) = pAl (M (4, 0, 0)) 501 (rdS (M (4, 0, 0)) c (sR M q)) ∧ Rf q M M1 ∧ rdN q N = N1)) := by
  refine ct_of (own := RX4) (L0 := [vr (6, 0, 0), vr (4, 0, 0), vi c, vr (18, q, 0), vn]) rfl (by decide +kernel) rfl rfl ?_
  refine go_aload_n dX4_read_0 rfl rfl ?_
  refine go_aload_n dX4_read_1 rfl rfl ?_
  refine p4_9 dX4_read_2 rfl ?_
  refine go_aload_n dX4_read_5 rfl rfl ?_
  refine go_iload_n dX4_read_6 rfl ?_
  refine p4_15 dX4_read_7 ?_
  refine go_aload_n dX4_read_10 rfl rfl ?_
  refine go_aload_n dX4_read_11 rfl rfl ?_
  refine p4_19 dX4_read_12 rfl ?_
  refine go_aload_n dX4_read_15 rfl rfl ?_
  refine g4_19 dX4_read_16 ?_
  rw [wrN_eq]
  refine go_iconst dX4_read_19 (R32_lit rfl) ?_
  refine p4_23 dX4_read_20 ?_
  refine go_aload_n dX4_read_23 rfl rfl ?_
  refine g4_19 dX4_read_24 ?_
  rw [wrN_eq]
  refine go_iconst dX4_read_27 (R32_lit rfl) ?_
  refine p4_28 dX4_read_28 ?_
  refine go_aload_n dX4_read_31 rfl rfl ?_
  refine go_iconst dX4_read_32 (R32_lit rfl) ?_
  refine p4_31 dX4_read_33 ?_
  refine go_aload_n dX4_read_36 rfl rfl ?_
  refine go_iconst dX4_read_37 (R32_lit rfl) ?_
  refine p4_34 dX4_read_38 ?_
  refine go_aload_n dX4_read_41 rfl rfl ?_
  refine go_iconst dX4_read_42 (R32_lit rfl) ?_
  refine p4_37 dX4_read_43 ?_
  refine go_nmM (fun Mc eMc => ?_)
  refine go_nmN (fun Nc eNc => ?_)
  have hN' : Nc = rdN q N := eNc
  have s6 : Mc (6, 0, 0) = (rd0 c (sR M q)).1 := by rw [eMc, upI_wr, upI_wr, upI_wr, wr_nf (nm_ne1 (by decide)), wr_nf (nm_ne1 (by decide)), upI_wr]; rfl
  have sP : pgC Mc q = (rd0 c (sR M q)).2 := by
    rw [eMc, (Zf.rf.w6.w6.w6).pg, pgC_w12, pgC_w11, (Zf.rf.w6).pg]
    rfl
  have fc : Rf q M Mc := by
    intro n a1 a2 a3
    rw [eMc, wr_nf a1, wr_nf a1, wr_nf a1, wr_nf a2, wr_nf a2, wr_nf a1]
  have b4 : Mc (4, 0, 0) = M (4, 0, 0) := fc _ (nm_ne1 (by decide)) (nm_ne1 (by decide)) (fun z => by have := z.1; omega)
  have HH : RH Mc Nc q (M (4, 0, 0)) := by rw [hN', ← b4]; exact rdN_H
  have c7 : Mc (6, 0, 0) 7 = 0 := by rw [s6]; rfl
  have c3 : Mc (6, 0, 0) 3 = c := by rw [s6]; rfl
  clear eMc eNc
  refine go_aload_n dX4_read_46 rfl rfl ?_
  refine v4_40 dX4_read_47 rfl ⟨rfl, rfl⟩ ⟨rfl, rfl⟩ (ct_X4_advance HH.1 (by omega) (by omega) (by omega)) (fun M1 N1 hq1 => ?_)
  obtain ⟨y2, y3, rfl⟩ := hq1
  have s1 := sR_Z (q := q) y2 y3
  rw [b4, s6, sP] at s1
  have s1 : sR M1 q = rdS (M (4, 0, 0)) c (sR M q) := s1
  have f1 : Rf q M M1 := fc.tr y3.Rf
  have H1 := HH.nx (y3.Rf (q := q))
  refine go_iconst dX4_read_50 (R32_lit rfl) ?_
  refine go_ist4 dX4_read_51 rfl rfl ?_
  subst hN'
  exact lp_X4_read (M := M) hN hE 501 0 M1 (by omega) (by omega) H1 (by rw [s1]; exact rdS_I c1) f1 (by rw [s1])
/-- what program() leaves of the object's own numbers -/
def pgO (g : Int → Int) (t w x : Int) : Int → Int := upI (upI (upI (upI g 8 0) 10 w) 11 x) 9 t
def Pw (q : Nat) (M M1 : Mm) : Prop := ∀ n : Nm, n ≠ (3, 0, 0) → n ≠ (5, 0, 0) → n ≠ (6, 0, 0) → n ≠ (18, q, 0) → ¬ (n.1 = 19 ∧ n.2.1 = q) → ¬ (n.2.1 = 0 ∧ 7 ≤ n.1 ∧ n.1 ≤ 16) → M1 n = M n
def Tq (p q : Nat) (N N1 : Nn) : Prop := N1 (3, 0, 0) 6 = (18, q, 0) ∧ N1 (3, 0, 0) 7 = (18, p, 0) ∧ N1 (6, 0, 0) = rdN q N (6, 0, 0) ∧ ∀ n : Nm, n ≠ (3, 0, 0) → n ≠ (14, 0, 0) → n ≠ (6, 0, 0) → N1 n = N n
theorem Rf.fs {M M1 : Mm} {q : Nat} {φ : Nat → FV} {ν : Nu} {ma : Int → Int} {f : Nat} (h : FS M f φ ν ma) (hf : Rf q M M1) : FS M1 f φ ν ma := h.fr (fun a b a0 a1 => hf _ (nm_ne1 (by omega)) (nm_ne1 (by omega)) (fun z => absurd z.1 (by show ¬ a = 19; omega)))
theorem w3_fs {M : Mm} {φ : Nat → FV} {ν : Nu} {ma : Int → Int} {f : Nat} {k x : Int} (h : FS M f φ ν ma) : FS (wr M (3, 0, 0) k x) f φ ν ma := h.fr (fun a b a0 a1 => wr_nf (nm_ne1 (by omega)))
theorem w3_pg {M : Mm} {q : Nat} {k x : Int} : pgC (wr M (3, 0, 0) k x) q = pgC M q := pgC_w (by decide) (by decide)
theorem w3_sR {M : Mm} {q : Nat} {k x : Int} : sR (wr M (3, 0, 0) k x) q = sR M q := by unfold sR; rw [w3_pg, wr_nf (nm_ne1 (by decide))]
set_option maxRecDepth 100000 in
set_option maxHeartbeats 4000000 in
theorem lp_X7_program {E : Ev} {M : Mm} {N : Nn} {q : Nat} {S : Pg} {Mb : Mm} {c d : Int} (hC : N (3, 0, 0) 6 = (18, q, 0)) (hS : pgC Mb q = S) (hR : RC S) : ∀ (n : Nat) (i : Int) (M2 : Mm) (x4 : Vv), (i + n = S 12 0) → (0 ≤ i) → (M2 (5, 0, 0) = frS S (Mb (5, 0, 0)) i.toNat) → (∀ n : Nm, n ≠ (5, 0, 0) → M2 n = Mb n) → Go E RX7 cX7_program 5 ((some .int)) (rmH 11) 0 0 (zM E (qi (fun r M1 N1 => r = S 11 0 ∧ M1 (3, 0, 0) = upI (Mb (3, 0, 0)) 9 0 ∧ M1 (5, 0, 0) = frS S (Mb (5, 0, 0)) (S 12 0).toNat ∧ (∀ n : Nm, n ≠ (3, 0, 0) → n ≠ (5, 0, 0) → M1 n = Mb n) ∧ N = N1))) 78 [vr (3, 0, 0), vi c, vi d, vi i, x4] [] M2 N := by
  intro n
  induction n using Nat.strongRecOn with
  | ind n ih =>
  intro i M2 x4 hn i0 hp5 ho
  have h12 : M2 (18, q, 0) 12 = S 12 0 := by rw [ho _ (nm_ne1 (by decide)), ← hS]; rfl
  have h11 : M2 (18, q, 0) 11 = S 11 0 := by rw [ho _ (nm_ne1 (by decide)), ← hS]; rfl
  have h10 : ∀ j, M2 (19, q, 10) j = S 10 j := fun j => by rw [ho _ (nm_ne1 (by decide)), ← hS]; rfl
  have h2 : ∀ j, M2 (19, q, 2) j = S 2 j := fun j => by rw [ho _ (nm_ne1 (by decide)), ← hS]; rfl
  have hr0 := hR.1
  have hr1 := hR.2.1
  have hr2 := hR.2.2.1
  have hr3 := hR.2.2.2.1
  refine go_iload_n dX7_program_78 rfl ?_
  refine go_aload_n dX7_program_79 rfl rfl ?_
  refine g7_50 dX7_program_80 ?_
  rw [hC]
  refine g7_87 dX7_program_83 ?_
  rw [h12]
  refine go_icmp_ge (tgt := 123) dX7_program_86 rfl (fun h86 => ?_) (fun h86 => ?_)
  · refine go_aload_n dX7_program_123 rfl rfl ?_
    refine go_iconst dX7_program_124 (R32_lit rfl) ?_
    refine p7_61 dX7_program_125 ?_
    rw [show i = S 12 0 by omega] at hp5
    refine go_aload_n dX7_program_128 rfl rfl ?_
    refine g7_50 dX7_program_129 ?_
    rw [hC]
    refine g7_96 dX7_program_132 ?_
    rw [wr_nf (nm_ne1 (by decide)), h11]
    refine go_reti dX7_program_135 ?_
    exact ⟨rfl, by rw [upI_wr, ho _ (nm_ne1 (by decide))], by rw [wr_nf (nm_ne1 (by decide))]; exact hp5, fun n a b => by rw [wr_nf a]; exact ho n b, rfl⟩
  · refine go_aload_n dX7_program_89 rfl rfl ?_
    refine g7_50 dX7_program_90 ?_
    rw [hC]
    refine g7_90 dX7_program_93 ?_
    refine go_iload_n dX7_program_96 rfl ?_
    have hin := hR.2.2.2.2.2.1 i i0 (by omega)
    refine go_iald dX7_program_97 rfl (by omega) (by omega) ?_
    rw [h10]
    refine go_nmi (fun v ev => ?_)
    rw [← ev] at hin
    refine go_ist4 dX7_program_98 rfl rfl ?_
    refine go_aload_n dX7_program_100 rfl rfl ?_
    refine g7_15 dX7_program_101 ?_
    refine go_iload dX7_program_104 rfl ?_
    skip
    refine go_aload_n dX7_program_106 rfl rfl ?_
    refine g7_50 dX7_program_107 ?_
    rw [hC]
    refine g7_93 dX7_program_110 ?_
    refine go_iload dX7_program_113 rfl ?_
    refine go_iald dX7_program_115 rfl (by omega) (by omega) ?_
    rw [h2]
    refine go_iast dX7_program_116 rfl (by omega) (by omega) ?_
    refine go_iinc3c dX7_program_117 rfl rfl ⟨by omega, by omega⟩ ?_
    refine go_goto (tgt := 78) dX7_program_120 rfl ?_
    exact ih (n - 1) (by omega) (i + 1) _ _ (by omega) (by omega) (by
      rw [upI_wr, hp5, show (i + 1).toNat = i.toNat + 1 by omega]
      show _ = upI (frS S (Mb (5, 0, 0)) i.toNat) (S 10 (i.toNat : Int)) (S 2 (S 10 (i.toNat : Int)))
      rw [Int.toNat_of_nonneg i0, ← ev]) (fun n a => by rw [wr_nf a]; exact ho n a)
theorem go_mono {E : Ev} {own : String} {cc : ByteArray} {nL : Nat} {ret : Option FieldType} {R : Room} {cl sl : Nat} {Q Q' : Option Vv → Mm → Nn → Prop} {pc : Nat} {L st : List Vv} {M : Mm} {N : Nn} (h : ∀ o M1 N1, Q o M1 N1 → Q' o M1 N1) (k : Go E own cc nL ret R cl sl (zM E Q) pc L st M N) : Go E own cc nL ret R cl sl (zM E Q') pc L st M N := by
  intro p e s m args below meth c C H locs ls hP hS hL hst hl T hT X
  obtain ⟨t, a1, o, b1, b2, b3⟩ := k p e s m args below meth c C H locs ls hP hS hL hst hl T hT X
  obtain ⟨⟨r, M', N', c1, c2, c3, c4⟩, b4⟩ := b3
  exact ⟨t, a1, o, b1, b2, ⟨r, M', N', c1, c2, h _ _ _ c3, c4⟩, b4⟩
set_option maxRecDepth 100000 in
set_option maxHeartbeats 4000000 in
theorem ct_X7_program {E : Ev} {M : Mm} {N : Nn} {p q : Nat} {n : Int} {φ : Nat → FV} {ν : Nu} {ma : Int → Int} (hN : EN E) (hE : ES E) (hC : N (3, 0, 0) 6 = (18, p, 0)) (hD : N (3, 0, 0) 7 = (18, q, 0)) (hF : FS M 0 φ ν ma) (l1 : M (3, 0, 0) 8 ≤ 500) (hG : n ≤ 500 → (pAl (M (4, 0, 0)) 501 (rdS (M (4, 0, 0)) n (sR M q))).1 ≠ 0 → RC (pAl (M (4, 0, 0)) 501 (rdS (M (4, 0, 0)) n (sR M q))).2.2) : Ct E yX7_program cX7_program 5 ((some .int)) (rmH 11) [vr (3, 0, 0), vi n] M N (qi (fun r M1 N1 => ((¬ (0 ≤ n ∧ n ≤ M (3, 0, 0) 8) ∧ r = -1 ∧ M1 = tr M 2 ∧ N = N1) ∨ ((0 ≤ n ∧ n ≤ M (3, 0, 0) 8) ∧ (pAl (M (4, 0, 0)) 501 (rdS (M (4, 0, 0)) n (sR M q))).1 = 0 ∧ r = -1 ∧ M1 (3, 0, 0) = pgO (M (3, 0, 0)) 4 ((pAl (M (4, 0, 0)) 501 (rdS (M (4, 0, 0)) n (sR M q))).2.1 0) ((pAl (M (4, 0, 0)) 501 (rdS (M (4, 0, 0)) n (sR M q))).2.1 1) ∧ M1 (5, 0, 0) = M (5, 0, 0) ∧ (∀ f : Nat, ∀ φ ν ma, FS M f φ ν ma → FS M1 f φ ν ma) ∧ Pw q M M1 ∧ rdN q N = N1) ∨ ((0 ≤ n ∧ n ≤ M (3, 0, 0) 8) ∧ (pAl (M (4, 0, 0)) 501 (rdS (M (4, 0, 0)) n (sR M q))).1 ≠ 0 ∧ r = (pAl (M (4, 0, 0)) 501 (rdS (M (4, 0, 0)) n (sR M q))).2.2 11 0 ∧ pgC M1 q = (pAl (M (4, 0, 0)) 501 (rdS (M (4, 0, 0)) n (sR M q))).2.2 ∧ Fm M1 (pAl (M (4, 0, 0)) 501 (rdS (M (4, 0, 0)) n (sR M q))).2.2 ∧ M1 (3, 0, 0) = pgO (M (3, 0, 0)) 0 ((pAl (M (4, 0, 0)) 501 (rdS (M (4, 0, 0)) n (sR M q))).2.1 0) ((pAl (M (4, 0, 0)) 501 (rdS (M (4, 0, 0)) n (sR M q))).2.1 1) ∧ M1 (5, 0, 0) = frS (pAl (M (4, 0, 0)) 501 (rdS (M (4, 0, 0)) n (sR M q))).2.2 (M (5, 0, 0)) ((pAl (M (4, 0, 0)) 501 (rdS (M (4, 0, 0)) n (sR M q))).2.2 12 0).toNat ∧ Pw q M M1 ∧ Tq p q N N1)))) := by
  refine ct_of (own := RX7) (L0 := [vr (3, 0, 0), vi n, vn, vn, vn]) rfl (by decide +kernel) rfl rfl ?_
  refine go_iload_n dX7_program_0 rfl ?_
  refine go_if_lt (tgt := 12) dX7_program_1 rfl (fun h1 => ?_) (fun h1 => ?_)
  · skip
    refine go_aload_n dX7_program_12 rfl rfl ?_
    refine go_iconst dX7_program_13 (R32_lit rfl) ?_
    refine v7_74 dX7_program_14 rfl ⟨rfl, rfl⟩ ⟨rfl, rfl⟩ ct_X7_none (fun r0 M0 N0 hr0 hq0 => ?_)
    refine go_reti dX7_program_17 ?_
    obtain ⟨y1, y2, rfl⟩ := hq0
    exact Or.inl ⟨by omega, y1, y2, rfl⟩
  · refine go_iload_n dX7_program_4 rfl ?_
    refine go_aload_n dX7_program_5 rfl rfl ?_
    refine g7_57 dX7_program_6 ?_
    refine go_icmp_le (tgt := 18) dX7_program_9 rfl (fun h9 => ?_) (fun h9 => ?_)
    · refine go_aload_n dX7_program_18 rfl rfl ?_
      refine go_iconst dX7_program_19 (R32_lit rfl) ?_
      refine p7_57 dX7_program_20 ?_
      refine go_nmM (fun Ma eMa => ?_)
      have bA : Ma (4, 0, 0) = M (4, 0, 0) := by rw [eMa, wr_nf (nm_ne1 (by decide))]
      have sA : sR Ma q = sR M q := by rw [eMa, w3_sR]
      refine go_aload_n dX7_program_23 rfl rfl ?_
      refine g7_22 dX7_program_24 ?_
      refine go_aload_n dX7_program_27 rfl rfl ?_
      refine g7_11 dX7_program_28 ?_
      refine go_iload_n dX7_program_31 rfl ?_
      refine go_aload_n dX7_program_32 rfl rfl ?_
      refine g7_54 dX7_program_33 ?_
      rw [hD]
      refine v7_78 dX7_program_36 rfl ⟨rfl, rfl⟩ ⟨rfl, rfl⟩ (ct_X4_read hN hE (by omega)) (fun r1 M1 N1 hr1 hq1 => ?_)
      obtain ⟨e1, f1, rfl⟩ := hq1
      rw [bA, sA] at e1
      refine go_ist2 dX7_program_39 rfl rfl ?_
      refine go_aload_n dX7_program_40 rfl rfl ?_
      refine go_aload_n dX7_program_41 rfl rfl ?_
      refine g7_22 dX7_program_42 ?_
      refine g7_82 dX7_program_45 ?_
      refine go_nmi (fun w0 ew0 => ?_)
      refine p7_64 dX7_program_48 ?_
      refine go_aload_n dX7_program_51 rfl rfl ?_
      refine go_aload_n dX7_program_52 rfl rfl ?_
      refine g7_22 dX7_program_53 ?_
      refine g7_83 dX7_program_56 ?_
      rw [wr_nf (nm_ne1 (by decide))]
      refine go_nmi (fun w1 ew1 => ?_)
      refine p7_67 dX7_program_59 ?_
      refine go_nmM (fun Mb eMb => ?_)
      have gb : Mb (3, 0, 0) = upI (upI (upI (M (3, 0, 0)) 8 0) 10 ((pAl (M (4, 0, 0)) 501 (rdS (M (4, 0, 0)) n (sR M q))).2.1 0)) 11 ((pAl (M (4, 0, 0)) 501 (rdS (M (4, 0, 0)) n (sR M q))).2.1 1) := by
        rw [eMb, upI_wr, upI_wr, f1 _ (nm_ne1 (by decide)) (nm_ne1 (by decide)) (fun z => by have := z.1; omega), eMa, upI_wr, ew0, ew1, show M1 (6, 0, 0) = (pAl (M (4, 0, 0)) 501 (rdS (M (4, 0, 0)) n (sR M q))).2.1 from congrArg (fun z => z.2.1) e1]
      have pb : pgC Mb q = (pAl (M (4, 0, 0)) 501 (rdS (M (4, 0, 0)) n (sR M q))).2.2 := by rw [eMb, w3_pg, w3_pg]; exact congrArg (fun z => z.2.2) e1
      have fb : ∀ n : Nm, n ≠ (3, 0, 0) → n ≠ (6, 0, 0) → n ≠ (18, q, 0) → ¬ (n.1 = 19 ∧ n.2.1 = q) → Mb n = M n := by
        intro n a0 a1 a2 a3
        rw [eMb, wr_nf a0, wr_nf a0, f1 n a1 a2 a3, eMa, wr_nf a0]
      have r1X : r1 = (pAl (M (4, 0, 0)) 501 (rdS (M (4, 0, 0)) n (sR M q))).1 := congrArg Prod.fst e1
      clear eMb
      refine go_iload_n dX7_program_62 rfl ?_
      refine go_if_ne (tgt := 72) dX7_program_63 rfl (fun h63 => ?_) (fun h63 => ?_)
      · have hFb : FS Mb 0 φ ν ma := hF.fr (fun a b a0 a1 => fb _ (nm_ne1 (by omega)) (nm_ne1 (by omega)) (nm_ne1 (by omega)) (fun z => absurd z.1 (by show ¬ a = 19; omega)))
        have hRC : RC (pgC Mb q) := by rw [pb]; exact hG (by omega) (by rw [← r1X]; exact h63)
        have hC1 : rdN q N (3, 0, 0) 6 = (18, p, 0) := by unfold rdN; rw [wrN_nf (nm_ne1 (by decide)), wrN_nf (nm_ne1 (by decide))]; exact hC
        have hD1 : rdN q N (3, 0, 0) 7 = (18, q, 0) := by unfold rdN; rw [wrN_nf (nm_ne1 (by decide)), wrN_nf (nm_ne1 (by decide))]; exact hD
        refine go_aload_n dX7_program_72 rfl rfl ?_
        refine v7_84 dX7_program_73 rfl ⟨rfl, rfl⟩ ⟨rfl, rfl⟩ (ct_X7_takeSpare hC1 hD1 hFb hRC) (fun M3 N3 hq3 => ?_)
        obtain ⟨t1, t2, t3⟩ := hq3
        refine go_iconst dX7_program_76 (R32_lit rfl) ?_
        refine go_ist3 dX7_program_77 rfl rfl ?_
        refine go_mono (fun o M4 N4 => ?_) (lp_X7_program (M := M) (Mb := M3) (S := pgC M3 q) t3.1 rfl (by rw [t2.pg]; exact hRC) (pgC M3 q 12 0).toNat 0 M3 vn ?_ (by omega) rfl (fun _ _ => rfl))
        · rintro ⟨r, rfl, hr, y1, y2, y3, y4, rfl⟩
          have p3 : pgC M3 q = (pAl (M (4, 0, 0)) 501 (rdS (M (4, 0, 0)) n (sR M q))).2.2 := by rw [t2.pg, pb]
          rw [pb] at t1
          rw [p3] at y1 y3
          have m5 : ∀ g : Nm, g.1 < 7 → M3 g = Mb g := fun g hg => t2 g (fun z => absurd z.2.1 (by omega))
          refine ⟨r, rfl, hr, Or.inr (Or.inr ⟨by omega, by rw [← r1X]; exact h63, y1, ?_, ?_, ?_, ?_, ?_, ?_⟩)⟩
          · rw [← p3]
            funext k i
            unfold pgC
            rw [y4 _ (nm_ne1 (by decide)) (nm_ne1 (by decide)), y4 _ (nm_ne1 (by decide)) (nm_ne1 (by decide))]
          · obtain ⟨φ1, ma1, u1, u2⟩ := t1
            exact ⟨φ1, ma1, u1.fr (fun a b a0 a1 => y4 _ (nm_ne1 (by omega)) (nm_ne1 (by omega))), u2⟩
          · rw [y2, m5 _ (by decide), gb]; rfl
          · rw [y3, m5 _ (by decide), fb _ (nm_ne1 (by decide)) (nm_ne1 (by decide)) (nm_ne1 (by decide)) (fun z => by have := z.1; omega)]
          · intro n a0 a1 a2 a3 a4 a5
            rw [y4 n a0 a1, t2 n a5, fb n a0 a2 a3 a4]
          · refine ⟨t3.1, t3.2.1, t3.2.2 _ (nm_ne1 (by decide)) (nm_ne1 (by decide)), fun n a0 a1 a2 => ?_⟩
            rw [t3.2.2 n a0 a1]
            unfold rdN
            rw [wrN_nf a2, wrN_nf a2]
        · have hr := hRC
          rw [← t2.pg] at hr
          have := hr.2.2.1
          omega
      · refine go_aload_n dX7_program_66 rfl rfl ?_
        refine go_iconst dX7_program_67 (R32_lit rfl) ?_
        refine v7_74 dX7_program_68 rfl ⟨rfl, rfl⟩ ⟨rfl, rfl⟩ ct_X7_none (fun r2 M2 N2 hr2 hq2 => ?_)
        refine go_reti dX7_program_71 ?_
        obtain ⟨y1, y2, rfl⟩ := hq2
        refine Or.inr (Or.inl ⟨by omega, by rw [← r1X]; exact h63, y1, ?_, ?_, ?_, ?_, rfl⟩)
        · rw [y2]; show wr Mb (3, 0, 0) 9 4 (3, 0, 0) = _; rw [upI_wr, gb]; rfl
        · rw [y2]; show wr Mb (3, 0, 0) 9 4 (5, 0, 0) = _; rw [wr_nf (nm_ne1 (by decide)), fb _ (nm_ne1 (by decide)) (nm_ne1 (by decide)) (nm_ne1 (by decide)) (fun z => by have := z.1; omega)]
        · intro f φ ν ma h
          rw [y2]
          exact w3_fs (h.fr (fun a b a0 a1 => fb _ (nm_ne1 (by omega)) (nm_ne1 (by omega)) (nm_ne1 (by omega)) (fun z => absurd z.1 (by show ¬ a = 19; omega))))
        · intro n a0 a1 a2 a3 a4 a5
          rw [y2]
          show wr Mb (3, 0, 0) 9 4 n = _
          rw [wr_nf a0, fb n a0 a2 a3 a4]
    · skip
      refine go_aload_n dX7_program_12 rfl rfl ?_
      refine go_iconst dX7_program_13 (R32_lit rfl) ?_
      refine v7_74 dX7_program_14 rfl ⟨rfl, rfl⟩ ⟨rfl, rfl⟩ ct_X7_none (fun r0 M0 N0 hr0 hq0 => ?_)
      refine go_reti dX7_program_17 ?_
      obtain ⟨y1, y2, rfl⟩ := hq0
      exact Or.inl ⟨by omega, y1, y2, rfl⟩
