set_option maxRecDepth 100000 in
set_option maxHeartbeats 4000000 in
theorem ct_J9_abs_0f7a4 {E : Ev} {M : Mm} {N : Nn} {x : Int}  : Ct E yJ9_abs_0f7a4 cJ9_abs_0f7a4 1 ((some .int)) (rmH 1) [vi x] M N (qi (fun r M1 N1 => r = (if x < 0 then w32 (-x) else x) ∧ M = M1 ∧ N = N1)) := by
  refine ct_of (own := RJ9) (L0 := [vi x]) rfl (by decide +kernel) rfl rfl ?_
  refine go_iload_n dJ9_abs_0f7a4_0 rfl ?_
  refine go_if_ge (tgt := 9) dJ9_abs_0f7a4_1 rfl (fun h1 => ?_) (fun h1 => ?_)
  · refine go_iload_n dJ9_abs_0f7a4_9 rfl ?_
    exact go_reti dJ9_abs_0f7a4_10 ⟨by first | rw [if_pos (by omega)] | rw [if_neg (by omega)], rfl, rfl⟩
  · refine go_iload_n dJ9_abs_0f7a4_4 rfl ?_
    refine go_ineg dJ9_abs_0f7a4_5 ?_
    refine go_goto (tgt := 10) dJ9_abs_0f7a4_6 rfl ?_
    exact go_reti dJ9_abs_0f7a4_10 ⟨by first | rw [if_pos (by omega)] | rw [if_neg (by omega)], rfl, rfl⟩
set_option maxRecDepth 100000 in
set_option maxHeartbeats 4000000 in
theorem ct_J9_abs_067f4 {E : Ev} {M : Mm} {N : Nn} {x : Int}  : Ct E yJ9_abs_067f4 cJ9_abs_067f4 2 ((some .long)) (rmH 1) [vl x] M N (ql (fun r M1 N1 => r = absw x ∧ M = M1 ∧ N = N1)) := by
  refine ct_of (own := RJ9) (L0 := [vl x, vn]) rfl (by decide +kernel) rfl rfl ?_
  refine go_lload_n dJ9_abs_067f4_0 rfl ?_
  refine go_lconst (x := 0) dJ9_abs_067f4_1 rfl ?_
  refine go_lcmp_ge (tgt := 11) dJ9_abs_067f4_2 dJ9_abs_067f4_3 rfl (fun h2 => ?_) (fun h2 => ?_)
  · refine go_lload_n dJ9_abs_067f4_11 rfl ?_
    exact go_retl dJ9_abs_067f4_12 ⟨by unfold absw; first | rw [if_pos (by omega)] | rw [if_neg (by omega)], rfl, rfl⟩
  · refine go_lload_n dJ9_abs_067f4_6 rfl ?_
    refine go_lneg dJ9_abs_067f4_7 ?_
    refine go_goto (tgt := 12) dJ9_abs_067f4_8 rfl ?_
    exact go_retl dJ9_abs_067f4_12 ⟨by unfold absw; first | rw [if_pos (by omega)] | rw [if_neg (by omega)], rfl, rfl⟩
set_option maxRecDepth 100000 in
set_option maxHeartbeats 4000000 in
theorem ct_J9_max_7cf53 {E : Ev} {M : Mm} {N : Nn} {x y : Int}  : Ct E yJ9_max_7cf53 cJ9_max_7cf53 2 ((some .int)) (rmH 1) [vi x, vi y] M N (qi (fun r M1 N1 => r = max x y ∧ M = M1 ∧ N = N1)) := by
  refine ct_of (own := RJ9) (L0 := [vi x, vi y]) rfl (by decide +kernel) rfl rfl ?_
  refine go_iload_n dJ9_max_7cf53_0 rfl ?_
  refine go_iload_n dJ9_max_7cf53_1 rfl ?_
  refine go_icmp_lt (tgt := 9) dJ9_max_7cf53_2 rfl (fun h2 => ?_) (fun h2 => ?_)
  · refine go_iload_n dJ9_max_7cf53_9 rfl ?_
    exact go_reti dJ9_max_7cf53_10 ⟨by omega, rfl, rfl⟩
  · refine go_iload_n dJ9_max_7cf53_5 rfl ?_
    refine go_goto (tgt := 10) dJ9_max_7cf53_6 rfl ?_
    exact go_reti dJ9_max_7cf53_10 ⟨by omega, rfl, rfl⟩
set_option maxRecDepth 100000 in
set_option maxHeartbeats 4000000 in
theorem ct_J9_max_f86c9 {E : Ev} {M : Mm} {N : Nn} {x y : Int}  : Ct E yJ9_max_f86c9 cJ9_max_f86c9 4 ((some .long)) (rmH 1) [vl x, vl y] M N (ql (fun r M1 N1 => r = max x y ∧ M = M1 ∧ N = N1)) := by
  refine ct_of (own := RJ9) (L0 := [vl x, vn, vl y, vn]) rfl (by decide +kernel) rfl rfl ?_
  refine go_lload_n dJ9_max_f86c9_0 rfl ?_
  refine go_lload_n dJ9_max_f86c9_1 rfl ?_
  refine go_lcmp_lt (tgt := 10) dJ9_max_f86c9_2 dJ9_max_f86c9_3 rfl (fun h2 => ?_) (fun h2 => ?_)
  · refine go_lload_n dJ9_max_f86c9_10 rfl ?_
    exact go_retl dJ9_max_f86c9_11 ⟨by omega, rfl, rfl⟩
  · refine go_lload_n dJ9_max_f86c9_6 rfl ?_
    refine go_goto (tgt := 11) dJ9_max_f86c9_7 rfl ?_
    exact go_retl dJ9_max_f86c9_11 ⟨by omega, rfl, rfl⟩
set_option maxRecDepth 100000 in
set_option maxHeartbeats 4000000 in
theorem ct_J9_min_7cf53 {E : Ev} {M : Mm} {N : Nn} {x y : Int}  : Ct E yJ9_min_7cf53 cJ9_min_7cf53 2 ((some .int)) (rmH 1) [vi x, vi y] M N (qi (fun r M1 N1 => r = min x y ∧ M = M1 ∧ N = N1)) := by
  refine ct_of (own := RJ9) (L0 := [vi x, vi y]) rfl (by decide +kernel) rfl rfl ?_
  refine go_iload_n dJ9_min_7cf53_0 rfl ?_
  refine go_iload_n dJ9_min_7cf53_1 rfl ?_
  refine go_icmp_gt (tgt := 9) dJ9_min_7cf53_2 rfl (fun h2 => ?_) (fun h2 => ?_)
  · refine go_iload_n dJ9_min_7cf53_9 rfl ?_
    exact go_reti dJ9_min_7cf53_10 ⟨by omega, rfl, rfl⟩
  · refine go_iload_n dJ9_min_7cf53_5 rfl ?_
    refine go_goto (tgt := 10) dJ9_min_7cf53_6 rfl ?_
    exact go_reti dJ9_min_7cf53_10 ⟨by omega, rfl, rfl⟩
set_option maxRecDepth 100000 in
set_option maxHeartbeats 4000000 in
theorem ct_J9_min_f86c9 {E : Ev} {M : Mm} {N : Nn} {x y : Int}  : Ct E yJ9_min_f86c9 cJ9_min_f86c9 4 ((some .long)) (rmH 1) [vl x, vl y] M N (ql (fun r M1 N1 => r = min x y ∧ M = M1 ∧ N = N1)) := by
  refine ct_of (own := RJ9) (L0 := [vl x, vn, vl y, vn]) rfl (by decide +kernel) rfl rfl ?_
  refine go_lload_n dJ9_min_f86c9_0 rfl ?_
  refine go_lload_n dJ9_min_f86c9_1 rfl ?_
  refine go_lcmp_gt (tgt := 10) dJ9_min_f86c9_2 dJ9_min_f86c9_3 rfl (fun h2 => ?_) (fun h2 => ?_)
  · refine go_lload_n dJ9_min_f86c9_10 rfl ?_
    exact go_retl dJ9_min_f86c9_11 ⟨by omega, rfl, rfl⟩
  · refine go_lload_n dJ9_min_f86c9_6 rfl ?_
    refine go_goto (tgt := 11) dJ9_min_f86c9_7 rfl ?_
    exact go_retl dJ9_min_f86c9_11 ⟨by omega, rfl, rfl⟩
