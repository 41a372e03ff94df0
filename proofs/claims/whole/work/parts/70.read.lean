/-- a reader that may go on -/
def RdO (M : Mm) (N : Nn) : Prop := N (6, 0, 0) 2 = (4, 0, 0) ∧ M (6, 0, 0) 3 ≤ 500 ∧ 0 ≤ M (6, 0, 0) 7 ∧ M (6, 0, 0) 7 ≤ 500
set_option maxRecDepth 100000 in
set_option maxHeartbeats 4000000 in
theorem ct_X4_skipSign {E : Ev} {M : Mm} {N : Nn} {c : Int} (hO : RdO M N) : Ct E yX4_skipSign cX4_skipSign 2 ((some .boolean)) (rmH 3) [vr (6, 0, 0), vi c] M N (qi (fun r M1 N1 => ((M (6, 0, 0) 5 = c ∧ r = 1 ∧ M1 (6, 0, 0) = adR (M (4, 0, 0)) (M (6, 0, 0))) ∨ (M (6, 0, 0) 5 ≠ c ∧ r = 0 ∧ M1 (6, 0, 0) = faR (M (6, 0, 0)) 1 (M (6, 0, 0) 6))) ∧ Zf M M1 ∧ N = N1)) := by
  refine ct_of (own := RX4) (L0 := [vr (6, 0, 0), vi c]) rfl (by decide +kernel) rfl rfl ?_
  refine go_aload_n dX4_skipSign_0 rfl rfl ?_
  refine g4_47 dX4_skipSign_1 ?_
  refine go_iload_n dX4_skipSign_4 rfl ?_
  refine go_icmp_eq (tgt := 18) dX4_skipSign_5 rfl (fun h5 => ?_) (fun h5 => ?_)
  · refine go_aload_n dX4_skipSign_18 rfl rfl ?_
    refine v4_40 dX4_skipSign_19 rfl ⟨rfl, rfl⟩ ⟨rfl, rfl⟩ (ct_X4_advance hO.1 hO.2.1 hO.2.2.1 hO.2.2.2) (fun M2 N2 hq2 => ?_)
    refine go_iconst dX4_skipSign_22 (R32_lit rfl) ?_
    refine go_retz dX4_skipSign_23 (by first | exact Or.inl rfl | exact Or.inr rfl | omega) ?_
    obtain ⟨y2, y3, rfl⟩ := hq2
    exact ⟨Or.inl ⟨h5, rfl, y2⟩, y3, rfl⟩
  · refine go_aload_n dX4_skipSign_8 rfl rfl ?_
    refine go_iconst dX4_skipSign_9 (R32_lit rfl) ?_
    refine go_aload_n dX4_skipSign_10 rfl rfl ?_
    refine g4_54 dX4_skipSign_11 ?_
    refine v4_57 dX4_skipSign_14 rfl ⟨rfl, rfl⟩ ⟨rfl, rfl⟩ ct_X4_fail (fun r1 M1 N1 hr1 hq1 => ?_)
    refine go_retz dX4_skipSign_17 (by first | exact Or.inl rfl | exact Or.inr rfl | omega) ?_
    obtain ⟨y1, y2, y3, rfl⟩ := hq1
    exact ⟨Or.inr ⟨h5, y1, y2⟩, y3, rfl⟩
