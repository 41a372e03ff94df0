theorem JP_0 {M : Mm} (h : M (29, 0, 0) 42 = 0) : JP M [] := ⟨h, by decide, fun i c hc => (by cases hc), fun c hc => (by cases hc)⟩
theorem JP.add {M : Mm} {cs : List Int} {x : Int} (h : JP M cs) (hl : cs.length < 4) (x0 : 30 ≤ x) (x1 : x < 50) : JP (wr (wr M (30, 0, 41) (M (29, 0, 0) 42) x) (29, 0, 0) 42 (M (29, 0, 0) 42 + 1)) (cs ++ [x]) := by
  obtain ⟨h1, h2, h3, h4⟩ := h
  refine ⟨?_, ?_, fun i c hc => ?_, fun c hc => ?_⟩
  · rw [wr_eq, h1, List.length_append]; rfl
  · rw [List.length_append]; show cs.length + 1 ≤ 4; omega
  · rw [wr_nf (nm_ne1 (by decide)), upI_wr, h1]
    unfold upI
    by_cases q : i = cs.length
    · subst q
      rw [if_pos rfl]
      rw [List.getElem?_append_right (Nat.le_refl _), Nat.sub_self] at hc
      exact Option.some.inj hc
    · have hi : i < cs.length := by
        have := (List.getElem?_eq_some_iff.mp hc).1
        rw [List.length_append] at this
        have : i < cs.length + 1 := this
        omega
      rw [if_neg (by omega)]
      rw [List.getElem?_append_left hi] at hc
      exact h3 i c hc
  · rcases List.mem_append.mp hc with z | z
    · exact h4 c z
    · rw [List.mem_singleton.mp z]; exact ⟨x0, x1⟩
theorem sel_0 {α : Type} {x : Int} {a : α} (h : x = 0) : sel x a = [] := if_pos h
theorem sel_1 {α : Type} {x : Int} {a : α} (h : x ≠ 0) : sel x a = [a] := if_neg h
set_option maxRecDepth 100000 in
set_option maxHeartbeats 4000000 in
theorem pk356 {E : Ev} {M : Mm} {N : Nn} {ψ : Int → FV} {ν : Nu} {v t0 t1 u0 u1 x10 x11 x12 x13 x14 x15 : Int} {Q : Mm → Nn → Prop} {cs : List Int} (hF : FQ M ψ ν) (hJ : JP M cs) (h1 : 1 ≤ cs.length) (hn : ν.1 < 63) (v0 : 0 ≤ v) (v1 : v < 15) (hQ : ∀ M1, FQ M1 (upF ψ (15 + v) (jnF ν (cs.map ψ))) (jnN ν (cs.map ψ) (M (29, 0, 0) 37)) → Kr [34, 42] [33, 35, 36, 41] M M1 → Q M1 N) : Go E RX8 cX8_laysPick 16 (none) (rmH 5) 0 0 (zM E (qv Q)) 356 [vr (29, 0, 0), vi v, vl t0, vn, vl t1, vn, vl u0, vn, vl u1, vn, vi x10, vi x11, vi x12, vi x13, vi x14, vi x15] [] M N := by
  refine go_aload_n dX8_laysPick_356 rfl rfl ?_
  refine go_bipush dX8_laysPick_357 ⟨by decide, by decide⟩ ?_
  refine go_iload_n dX8_laysPick_359 rfl ?_
  refine go_iaddc dX8_laysPick_360 ⟨by omega, by omega⟩ ?_
  refine v8_413 dX8_laysPick_361 rfl ⟨rfl, rfl⟩ ⟨rfl, rfl⟩ (ct_X8_joins hF (by omega) (by omega) hJ hn h1) (fun M1 N1 hq1 => ?_)
  refine go_retv dX8_laysPick_364 ?_
  obtain ⟨q1, q2, rfl⟩ := hq1
  exact hQ M1 q1 (q2.up (by decide) (by decide))
set_option maxRecDepth 100000 in
set_option maxHeartbeats 4000000 in
theorem pk345 {E : Ev} {M : Mm} {N : Nn} {ψ : Int → FV} {ν : Nu} {v t0 t1 u0 u1 x10 x11 x12 x13 x14 x15 : Int} {Q : Mm → Nn → Prop} {cs : List Int} (hF : FQ M ψ ν) (hJ : JP M cs) (hl : cs.length ≤ 3) (hn : ν.1 < 63) (v0 : 0 ≤ v) (v1 : v < 15) (hk : ∀ M1, JP M1 (cs ++ sel x15 41) → Kr [42] [41] M M1 → Go E RX8 cX8_laysPick 16 (none) (rmH 5) 0 0 (zM E (qv Q)) 356 [vr (29, 0, 0), vi v, vl t0, vn, vl t1, vn, vl u0, vn, vl u1, vn, vi x10, vi x11, vi x12, vi x13, vi x14, vi x15] [] M1 N) : Go E RX8 cX8_laysPick 16 (none) (rmH 5) 0 0 (zM E (qv Q)) 345 [vr (29, 0, 0), vi v, vl t0, vn, vl t1, vn, vl u0, vn, vl u1, vn, vi x10, vi x11, vi x12, vi x13, vi x14, vi x15] [] M N := by
  refine go_iload dX8_laysPick_345 rfl ?_
  refine go_if_eq (tgt := 356) dX8_laysPick_347 rfl (fun h347 => ?_) (fun h347 => ?_)
  · first
    | (obtain ⟨q1, rfl⟩ := hq1
       exact hk M1 (by rw [sel_1 (by assumption), q1]; exact hJ.add (by omega) (by decide) (by decide)) (by rw [q1]; exact (Kr.rf.wa (by decide)).ws (by decide)))
    | exact hk M (by rw [sel_0 (by assumption), List.append_nil]; exact hJ) Kr.rf
  · refine go_aload_n dX8_laysPick_350 rfl rfl ?_
    refine go_bipush dX8_laysPick_351 ⟨by decide, by decide⟩ ?_
    refine v8_410 dX8_laysPick_353 rfl ⟨rfl, rfl⟩ ⟨rfl, rfl⟩ (ct_X8_adds (by have := hJ.1; omega) (by have := hJ.1; omega)) (fun M1 N1 hq1 => ?_)
    first
    | (obtain ⟨q1, rfl⟩ := hq1
       exact hk M1 (by rw [sel_1 (by assumption), q1]; exact hJ.add (by omega) (by decide) (by decide)) (by rw [q1]; exact (Kr.rf.wa (by decide)).ws (by decide)))
    | exact hk M (by rw [sel_0 (by assumption), List.append_nil]; exact hJ) Kr.rf
set_option maxRecDepth 100000 in
set_option maxHeartbeats 4000000 in
theorem pk334 {E : Ev} {M : Mm} {N : Nn} {ψ : Int → FV} {ν : Nu} {v t0 t1 u0 u1 x10 x11 x12 x13 x14 x15 : Int} {Q : Mm → Nn → Prop} {cs : List Int} (hF : FQ M ψ ν) (hJ : JP M cs) (hl : cs.length ≤ 3) (hn : ν.1 < 63) (v0 : 0 ≤ v) (v1 : v < 15) (hk : ∀ M1, JP M1 (cs ++ sel x14 40) → Kr [42] [41] M M1 → Go E RX8 cX8_laysPick 16 (none) (rmH 5) 0 0 (zM E (qv Q)) 345 [vr (29, 0, 0), vi v, vl t0, vn, vl t1, vn, vl u0, vn, vl u1, vn, vi x10, vi x11, vi x12, vi x13, vi x14, vi x15] [] M1 N) : Go E RX8 cX8_laysPick 16 (none) (rmH 5) 0 0 (zM E (qv Q)) 334 [vr (29, 0, 0), vi v, vl t0, vn, vl t1, vn, vl u0, vn, vl u1, vn, vi x10, vi x11, vi x12, vi x13, vi x14, vi x15] [] M N := by
  refine go_iload dX8_laysPick_334 rfl ?_
  refine go_if_eq (tgt := 345) dX8_laysPick_336 rfl (fun h336 => ?_) (fun h336 => ?_)
  · first
    | (obtain ⟨q1, rfl⟩ := hq1
       exact hk M1 (by rw [sel_1 (by assumption), q1]; exact hJ.add (by omega) (by decide) (by decide)) (by rw [q1]; exact (Kr.rf.wa (by decide)).ws (by decide)))
    | exact hk M (by rw [sel_0 (by assumption), List.append_nil]; exact hJ) Kr.rf
  · refine go_aload_n dX8_laysPick_339 rfl rfl ?_
    refine go_bipush dX8_laysPick_340 ⟨by decide, by decide⟩ ?_
    refine v8_410 dX8_laysPick_342 rfl ⟨rfl, rfl⟩ ⟨rfl, rfl⟩ (ct_X8_adds (by have := hJ.1; omega) (by have := hJ.1; omega)) (fun M1 N1 hq1 => ?_)
    first
    | (obtain ⟨q1, rfl⟩ := hq1
       exact hk M1 (by rw [sel_1 (by assumption), q1]; exact hJ.add (by omega) (by decide) (by decide)) (by rw [q1]; exact (Kr.rf.wa (by decide)).ws (by decide)))
    | exact hk M (by rw [sel_0 (by assumption), List.append_nil]; exact hJ) Kr.rf
set_option maxRecDepth 100000 in
set_option maxHeartbeats 4000000 in
theorem pk318 {E : Ev} {M : Mm} {N : Nn} {ψ : Int → FV} {ν : Nu} {v t0 t1 u0 u1 x10 x11 x12 x13 x14 x15 : Int} {Q : Mm → Nn → Prop} {cs : List Int} (hF : FQ M ψ ν) (hJ : JP M cs) (hl : cs.length ≤ 3) (hn : ν.1 < 63) (v0 : 0 ≤ v) (v1 : v < 15) (hk : ∀ M1, JP M1 (cs ++ sel (if x11 = 0 ∨ x13 = 0 then 0 else 1) 37) → Kr [42] [41] M M1 → Go E RX8 cX8_laysPick 16 (none) (rmH 5) 0 0 (zM E (qv Q)) 334 [vr (29, 0, 0), vi v, vl t0, vn, vl t1, vn, vl u0, vn, vl u1, vn, vi x10, vi x11, vi x12, vi x13, vi x14, vi x15] [] M1 N) : Go E RX8 cX8_laysPick 16 (none) (rmH 5) 0 0 (zM E (qv Q)) 318 [vr (29, 0, 0), vi v, vl t0, vn, vl t1, vn, vl u0, vn, vl u1, vn, vi x10, vi x11, vi x12, vi x13, vi x14, vi x15] [] M N := by
  refine go_iload dX8_laysPick_318 rfl ?_
  refine go_if_eq (tgt := 334) dX8_laysPick_320 rfl (fun h320 => ?_) (fun h320 => ?_)
  · first
    | (obtain ⟨q1, rfl⟩ := hq1
       exact hk M1 (by rw [sel_1 (by rw [if_neg (fun z => by rcases z with z | z <;> contradiction)]; decide), q1]; exact hJ.add (by omega) (by decide) (by decide)) (by rw [q1]; exact (Kr.rf.wa (by decide)).ws (by decide)))
    | exact hk M (by rw [sel_0 (if_pos (Or.inl (by assumption))), List.append_nil]; exact hJ) Kr.rf
    | exact hk M (by rw [sel_0 (if_pos (Or.inr (by assumption))), List.append_nil]; exact hJ) Kr.rf
  · refine go_iload dX8_laysPick_323 rfl ?_
    refine go_if_eq (tgt := 334) dX8_laysPick_325 rfl (fun h325 => ?_) (fun h325 => ?_)
    · first
      | (obtain ⟨q1, rfl⟩ := hq1
         exact hk M1 (by rw [sel_1 (by rw [if_neg (fun z => by rcases z with z | z <;> contradiction)]; decide), q1]; exact hJ.add (by omega) (by decide) (by decide)) (by rw [q1]; exact (Kr.rf.wa (by decide)).ws (by decide)))
      | exact hk M (by rw [sel_0 (if_pos (Or.inl (by assumption))), List.append_nil]; exact hJ) Kr.rf
      | exact hk M (by rw [sel_0 (if_pos (Or.inr (by assumption))), List.append_nil]; exact hJ) Kr.rf
    · refine go_aload_n dX8_laysPick_328 rfl rfl ?_
      refine go_bipush dX8_laysPick_329 ⟨by decide, by decide⟩ ?_
      refine v8_410 dX8_laysPick_331 rfl ⟨rfl, rfl⟩ ⟨rfl, rfl⟩ (ct_X8_adds (by have := hJ.1; omega) (by have := hJ.1; omega)) (fun M1 N1 hq1 => ?_)
      first
      | (obtain ⟨q1, rfl⟩ := hq1
         exact hk M1 (by rw [sel_1 (by rw [if_neg (fun z => by rcases z with z | z <;> contradiction)]; decide), q1]; exact hJ.add (by omega) (by decide) (by decide)) (by rw [q1]; exact (Kr.rf.wa (by decide)).ws (by decide)))
      | exact hk M (by rw [sel_0 (if_pos (Or.inl (by assumption))), List.append_nil]; exact hJ) Kr.rf
      | exact hk M (by rw [sel_0 (if_pos (Or.inr (by assumption))), List.append_nil]; exact hJ) Kr.rf
set_option maxRecDepth 100000 in
set_option maxHeartbeats 4000000 in
theorem pk302 {E : Ev} {M : Mm} {N : Nn} {ψ : Int → FV} {ν : Nu} {v t0 t1 u0 u1 x10 x11 x12 x13 x14 x15 : Int} {Q : Mm → Nn → Prop} {cs : List Int} (hF : FQ M ψ ν) (hJ : JP M cs) (hl : cs.length ≤ 3) (hn : ν.1 < 63) (v0 : 0 ≤ v) (v1 : v < 15) (hk : ∀ M1, JP M1 (cs ++ sel (if x10 = 0 ∨ x12 = 0 then 0 else 1) 35) → Kr [42] [41] M M1 → Go E RX8 cX8_laysPick 16 (none) (rmH 5) 0 0 (zM E (qv Q)) 318 [vr (29, 0, 0), vi v, vl t0, vn, vl t1, vn, vl u0, vn, vl u1, vn, vi x10, vi x11, vi x12, vi x13, vi x14, vi x15] [] M1 N) : Go E RX8 cX8_laysPick 16 (none) (rmH 5) 0 0 (zM E (qv Q)) 302 [vr (29, 0, 0), vi v, vl t0, vn, vl t1, vn, vl u0, vn, vl u1, vn, vi x10, vi x11, vi x12, vi x13, vi x14, vi x15] [] M N := by
  refine go_iload dX8_laysPick_302 rfl ?_
  refine go_if_eq (tgt := 318) dX8_laysPick_304 rfl (fun h304 => ?_) (fun h304 => ?_)
  · first
    | (obtain ⟨q1, rfl⟩ := hq1
       exact hk M1 (by rw [sel_1 (by rw [if_neg (fun z => by rcases z with z | z <;> contradiction)]; decide), q1]; exact hJ.add (by omega) (by decide) (by decide)) (by rw [q1]; exact (Kr.rf.wa (by decide)).ws (by decide)))
    | exact hk M (by rw [sel_0 (if_pos (Or.inl (by assumption))), List.append_nil]; exact hJ) Kr.rf
    | exact hk M (by rw [sel_0 (if_pos (Or.inr (by assumption))), List.append_nil]; exact hJ) Kr.rf
  · refine go_iload dX8_laysPick_307 rfl ?_
    refine go_if_eq (tgt := 318) dX8_laysPick_309 rfl (fun h309 => ?_) (fun h309 => ?_)
    · first
      | (obtain ⟨q1, rfl⟩ := hq1
         exact hk M1 (by rw [sel_1 (by rw [if_neg (fun z => by rcases z with z | z <;> contradiction)]; decide), q1]; exact hJ.add (by omega) (by decide) (by decide)) (by rw [q1]; exact (Kr.rf.wa (by decide)).ws (by decide)))
      | exact hk M (by rw [sel_0 (if_pos (Or.inl (by assumption))), List.append_nil]; exact hJ) Kr.rf
      | exact hk M (by rw [sel_0 (if_pos (Or.inr (by assumption))), List.append_nil]; exact hJ) Kr.rf
    · refine go_aload_n dX8_laysPick_312 rfl rfl ?_
      refine go_bipush dX8_laysPick_313 ⟨by decide, by decide⟩ ?_
      refine v8_410 dX8_laysPick_315 rfl ⟨rfl, rfl⟩ ⟨rfl, rfl⟩ (ct_X8_adds (by have := hJ.1; omega) (by have := hJ.1; omega)) (fun M1 N1 hq1 => ?_)
      first
      | (obtain ⟨q1, rfl⟩ := hq1
         exact hk M1 (by rw [sel_1 (by rw [if_neg (fun z => by rcases z with z | z <;> contradiction)]; decide), q1]; exact hJ.add (by omega) (by decide) (by decide)) (by rw [q1]; exact (Kr.rf.wa (by decide)).ws (by decide)))
      | exact hk M (by rw [sel_0 (if_pos (Or.inl (by assumption))), List.append_nil]; exact hJ) Kr.rf
      | exact hk M (by rw [sel_0 (if_pos (Or.inr (by assumption))), List.append_nil]; exact hJ) Kr.rf
set_option maxRecDepth 100000 in
set_option maxHeartbeats 4000000 in
theorem pkD_end {E : Ev} {M : Mm} {N : Nn} {ψ : Int → FV} {ν : Nu} {v t0 t1 u0 u1 x10 x11 x12 x13 x14 x15 : Int} {Q : Mm → Nn → Prop} (hF : FQ M ψ ν) (hJ : JP M []) (h1 : 1 ≤ (((([] ++ sel (if x10 = 0 ∨ x12 = 0 then 0 else 1) (35 : Int)) ++ sel (if x11 = 0 ∨ x13 = 0 then 0 else 1) (37 : Int)) ++ sel x14 (40 : Int)) ++ sel x15 (41 : Int)).length) (hn : ν.1 < 63) (v0 : 0 ≤ v) (v1 : v < 15) (hQ : ∀ M1, FQ M1 (upF ψ (15 + v) (jnF ν ((((([] ++ sel (if x10 = 0 ∨ x12 = 0 then 0 else 1) (35 : Int)) ++ sel (if x11 = 0 ∨ x13 = 0 then 0 else 1) (37 : Int)) ++ sel x14 (40 : Int)) ++ sel x15 (41 : Int)).map ψ))) (jnN ν ((((([] ++ sel (if x10 = 0 ∨ x12 = 0 then 0 else 1) (35 : Int)) ++ sel (if x11 = 0 ∨ x13 = 0 then 0 else 1) (37 : Int)) ++ sel x14 (40 : Int)) ++ sel x15 (41 : Int)).map ψ) (M (29, 0, 0) 37)) → Kr [34, 42] [33, 35, 36, 41] M M1 → Q M1 N) : Go E RX8 cX8_laysPick 16 (none) (rmH 5) 0 0 (zM E (qv Q)) 302 [vr (29, 0, 0), vi v, vl t0, vn, vl t1, vn, vl u0, vn, vl u1, vn, vi x10, vi x11, vi x12, vi x13, vi x14, vi x15] [] M N := by
  refine pk302 hF hJ (by decide) hn v0 v1 (fun M1 J1 f1 => ?_)
  have F1 : FQ M1 ψ ν := hF.k f1 (by decide) (by decide) (by decide) (by decide)
  have s1 := sel_len (x := (if x10 = 0 ∨ x12 = 0 then 0 else 1)) (j := (35 : Int))
  have s2 := sel_len (x := (if x11 = 0 ∨ x13 = 0 then 0 else 1)) (j := (37 : Int))
  have s3 := sel_len (x := x14) (j := (40 : Int))
  have L1 : ([] ++ sel (if x10 = 0 ∨ x12 = 0 then 0 else 1) (35 : Int)).length ≤ 1 := by rw [List.length_append]; show 0 + _ ≤ 1; omega
  refine pk318 F1 J1 (by omega) hn v0 v1 (fun M2 J2 f2 => ?_)
  have F2 : FQ M2 ψ ν := F1.k f2 (by decide) (by decide) (by decide) (by decide)
  have L2 := List.length_append (as := ([] ++ sel (if x10 = 0 ∨ x12 = 0 then 0 else 1) (35 : Int))) (bs := sel (if x11 = 0 ∨ x13 = 0 then 0 else 1) (37 : Int))
  refine pk334 F2 J2 (by omega) hn v0 v1 (fun M3 J3 f3 => ?_)
  have F3 : FQ M3 ψ ν := F2.k f3 (by decide) (by decide) (by decide) (by decide)
  have L3 := List.length_append (as := ([] ++ sel (if x10 = 0 ∨ x12 = 0 then 0 else 1) (35 : Int)) ++ sel (if x11 = 0 ∨ x13 = 0 then 0 else 1) (37 : Int)) (bs := sel x14 (40 : Int))
  refine pk345 F3 J3 (by omega) hn v0 v1 (fun M4 J4 f4 => ?_)
  have F4 : FQ M4 ψ ν := F3.k f4 (by decide) (by decide) (by decide) (by decide)
  have l4 : M4 (29, 0, 0) 37 = M (29, 0, 0) 37 := by rw [f4.s 37 (by decide), f3.s 37 (by decide), f2.s 37 (by decide), f1.s 37 (by decide)]
  refine pk356 F4 J4 h1 hn v0 v1 (fun M5 q5 f5 => ?_)
  rw [l4] at q5
  exact hQ M5 q5 (((((f1.up (by decide) (by decide)).tr (f2.up (by decide) (by decide))).tr (f3.up (by decide) (by decide))).tr (f4.up (by decide) (by decide))).tr f5)
set_option maxRecDepth 100000 in
set_option maxHeartbeats 4000000 in
theorem pk249 {E : Ev} {M : Mm} {N : Nn} {ψ : Int → FV} {ν : Nu} {v t0 t1 u0 u1 x10 x11 x12 x13 x14 x15 : Int} {Q : Mm → Nn → Prop}  (hF : FQ M ψ ν) (h1 : 1 ≤ (((([] ++ sel (if x10 = 0 ∨ x12 = 0 then 0 else 1) (35 : Int)) ++ sel (if x11 = 0 ∨ x13 = 0 then 0 else 1) (37 : Int)) ++ sel x14 (40 : Int)) ++ sel x15 (41 : Int)).length) (hn : ν.1 < 63) (v0 : 0 ≤ v) (v1 : v < 15) (hQ : ∀ M1, FQ M1 (upF (upF (upF ψ 40 (fad (fad (ψ 36) 1 (ψ 37)) (-1) (ψ 34))) 41 (fad (fad (ψ 34) 1 (ψ 35)) (-1) (ψ 36))) (15 + v) (jnF ν (((([] ++ sel (if x10 = 0 ∨ x12 = 0 then 0 else 1) (ψ 35)) ++ sel (if x11 = 0 ∨ x13 = 0 then 0 else 1) (ψ 37)) ++ sel x14 (fad (fad (ψ 36) 1 (ψ 37)) (-1) (ψ 34))) ++ sel x15 (fad (fad (ψ 34) 1 (ψ 35)) (-1) (ψ 36))))) (jnN ν (((([] ++ sel (if x10 = 0 ∨ x12 = 0 then 0 else 1) (ψ 35)) ++ sel (if x11 = 0 ∨ x13 = 0 then 0 else 1) (ψ 37)) ++ sel x14 (fad (fad (ψ 36) 1 (ψ 37)) (-1) (ψ 34))) ++ sel x15 (fad (fad (ψ 34) 1 (ψ 35)) (-1) (ψ 36))) (M (29, 0, 0) 37)) → Kr [34, 42] [33, 35, 36, 41] M M1 → Q M1 N) : Go E RX8 cX8_laysPick 16 (none) (rmH 5) 0 0 (zM E (qv Q)) 249 [vr (29, 0, 0), vi v, vl t0, vn, vl t1, vn, vl u0, vn, vl u1, vn, vi x10, vi x11, vi x12, vi x13, vi x14, vi x15] [] M N := by
  refine go_aload_n dX8_laysPick_249 rfl rfl ?_
  refine go_bipush dX8_laysPick_250 ⟨by decide, by decide⟩ ?_
  refine go_bipush dX8_laysPick_252 ⟨by decide, by decide⟩ ?_
  refine go_bipush dX8_laysPick_254 ⟨by decide, by decide⟩ ?_
  refine go_lconst (x := 1) dX8_laysPick_256 rfl ?_
  refine v8_392 dX8_laysPick_257 rfl ⟨rfl, rfl⟩ ⟨rfl, rfl⟩ (ct_X8_sums hF (by decide) (by decide) (by decide) (by decide) (by decide) (by decide)) (fun M1 N1 hq1 => ?_)
  obtain ⟨q1, f1, rfl⟩ := hq1
  refine go_aload_n dX8_laysPick_260 rfl rfl ?_
  refine go_bipush dX8_laysPick_261 ⟨by decide, by decide⟩ ?_
  refine go_bipush dX8_laysPick_263 ⟨by decide, by decide⟩ ?_
  refine go_bipush dX8_laysPick_265 ⟨by decide, by decide⟩ ?_
  refine c8_400 dX8_laysPick_267 ?_
  refine v8_392 dX8_laysPick_270 rfl ⟨rfl, rfl⟩ ⟨rfl, rfl⟩ (ct_X8_sums q1 (by decide) (by decide) (by decide) (by decide) (by decide) (by decide)) (fun M2 N2 hq2 => ?_)
  obtain ⟨q2, f2, rfl⟩ := hq2
  refine go_aload_n dX8_laysPick_273 rfl rfl ?_
  refine go_bipush dX8_laysPick_274 ⟨by decide, by decide⟩ ?_
  refine go_bipush dX8_laysPick_276 ⟨by decide, by decide⟩ ?_
  refine go_bipush dX8_laysPick_278 ⟨by decide, by decide⟩ ?_
  refine go_lconst (x := 1) dX8_laysPick_280 rfl ?_
  refine v8_392 dX8_laysPick_281 rfl ⟨rfl, rfl⟩ ⟨rfl, rfl⟩ (ct_X8_sums q2 (by decide) (by decide) (by decide) (by decide) (by decide) (by decide)) (fun M3 N3 hq3 => ?_)
  obtain ⟨q3, f3, rfl⟩ := hq3
  refine go_aload_n dX8_laysPick_284 rfl rfl ?_
  refine go_bipush dX8_laysPick_285 ⟨by decide, by decide⟩ ?_
  refine go_bipush dX8_laysPick_287 ⟨by decide, by decide⟩ ?_
  refine go_bipush dX8_laysPick_289 ⟨by decide, by decide⟩ ?_
  refine c8_400 dX8_laysPick_291 ?_
  refine v8_392 dX8_laysPick_294 rfl ⟨rfl, rfl⟩ ⟨rfl, rfl⟩ (ct_X8_sums q3 (by decide) (by decide) (by decide) (by decide) (by decide) (by decide)) (fun M4 N4 hq4 => ?_)
  obtain ⟨q4, f4, rfl⟩ := hq4
  refine go_aload_n dX8_laysPick_297 rfl rfl ?_
  refine go_iconst dX8_laysPick_298 (R32_lit rfl) ?_
  refine p8_372 dX8_laysPick_299 ?_
  refine go_nmM (fun M5 eM5 => ?_)
  have f5 : Kr [42] [] M4 M5 := by rw [eM5]; exact Kr.rf.ws (by decide)
  have j5 : M5 (29, 0, 0) 42 = 0 := by rw [eM5, wr_eq]
  clear eM5
  have F5 := q4.k f5 (by decide) (by decide) (by decide) (by decide)
  have ee : upF (upF (upF (upF ψ 40 (fad (ψ 36) 1 (ψ 37))) 40 (fad (upF ψ 40 (fad (ψ 36) 1 (ψ 37)) 40) (-1) (upF ψ 40 (fad (ψ 36) 1 (ψ 37)) 34))) 41 (fad (upF (upF ψ 40 (fad (ψ 36) 1 (ψ 37))) 40 (fad (upF ψ 40 (fad (ψ 36) 1 (ψ 37)) 40) (-1) (upF ψ 40 (fad (ψ 36) 1 (ψ 37)) 34)) 34) 1 (upF (upF ψ 40 (fad (ψ 36) 1 (ψ 37))) 40 (fad (upF ψ 40 (fad (ψ 36) 1 (ψ 37)) 40) (-1) (upF ψ 40 (fad (ψ 36) 1 (ψ 37)) 34)) 35))) 41 (fad (upF (upF (upF ψ 40 (fad (ψ 36) 1 (ψ 37))) 40 (fad (upF ψ 40 (fad (ψ 36) 1 (ψ 37)) 40) (-1) (upF ψ 40 (fad (ψ 36) 1 (ψ 37)) 34))) 41 (fad (upF (upF ψ 40 (fad (ψ 36) 1 (ψ 37))) 40 (fad (upF ψ 40 (fad (ψ 36) 1 (ψ 37)) 40) (-1) (upF ψ 40 (fad (ψ 36) 1 (ψ 37)) 34)) 34) 1 (upF (upF ψ 40 (fad (ψ 36) 1 (ψ 37))) 40 (fad (upF ψ 40 (fad (ψ 36) 1 (ψ 37)) 40) (-1) (upF ψ 40 (fad (ψ 36) 1 (ψ 37)) 34)) 35)) 41) (-1) (upF (upF (upF ψ 40 (fad (ψ 36) 1 (ψ 37))) 40 (fad (upF ψ 40 (fad (ψ 36) 1 (ψ 37)) 40) (-1) (upF ψ 40 (fad (ψ 36) 1 (ψ 37)) 34))) 41 (fad (upF (upF ψ 40 (fad (ψ 36) 1 (ψ 37))) 40 (fad (upF ψ 40 (fad (ψ 36) 1 (ψ 37)) 40) (-1) (upF ψ 40 (fad (ψ 36) 1 (ψ 37)) 34)) 34) 1 (upF (upF ψ 40 (fad (ψ 36) 1 (ψ 37))) 40 (fad (upF ψ 40 (fad (ψ 36) 1 (ψ 37)) 40) (-1) (upF ψ 40 (fad (ψ 36) 1 (ψ 37)) 34)) 35)) 36)) = (upF (upF ψ 40 (fad (fad (ψ 36) 1 (ψ 37)) (-1) (ψ 34))) 41 (fad (fad (ψ 34) 1 (ψ 35)) (-1) (ψ 36))) := by
    rw [upF_up, upF_up]
    have n1 : ∀ (g : FV) (j : Int), j ≠ 40 → upF ψ 40 g j = ψ j := fun g j h => upF_ne h
    have n2 : ∀ (g h : FV) (j : Int), j ≠ 40 → j ≠ 41 → upF (upF ψ 40 g) 41 h j = ψ j := fun g h j h1 h2 => by rw [upF_ne h2, upF_ne h1]
    rw [upF_eq, upF_eq, n1 _ 34 (by decide), n1 _ 34 (by decide), n1 _ 35 (by decide), n2 _ _ 36 (by decide) (by decide)]
  rw [ee] at F5
  have l5 : M5 (29, 0, 0) 37 = M (29, 0, 0) 37 := by rw [f5.s 37 (by decide), f4.s 37 (by decide), f3.s 37 (by decide), f2.s 37 (by decide), f1.s 37 (by decide)]
  refine pkD_end F5 (JP_0 j5) h1 hn v0 v1 (fun M6 q6 f6 => ?_)
  rw [l5] at q6
  refine hQ M6 ?_ ((((((f1.up (by decide) (by decide)).tr (f2.up (by decide) (by decide))).tr (f3.up (by decide) (by decide))).tr (f4.up (by decide) (by decide))).tr (f5.up (by decide) (by decide))).tr f6)
  have em : (((([] ++ sel (if x10 = 0 ∨ x12 = 0 then 0 else 1) (35 : Int)) ++ sel (if x11 = 0 ∨ x13 = 0 then 0 else 1) (37 : Int)) ++ sel x14 (40 : Int)) ++ sel x15 (41 : Int)).map (upF (upF ψ 40 (fad (fad (ψ 36) 1 (ψ 37)) (-1) (ψ 34))) 41 (fad (fad (ψ 34) 1 (ψ 35)) (-1) (ψ 36))) = ((([] ++ sel (if x10 = 0 ∨ x12 = 0 then 0 else 1) (ψ 35)) ++ sel (if x11 = 0 ∨ x13 = 0 then 0 else 1) (ψ 37)) ++ sel x14 (fad (fad (ψ 36) 1 (ψ 37)) (-1) (ψ 34))) ++ sel x15 (fad (fad (ψ 34) 1 (ψ 35)) (-1) (ψ 36)) := by
    rw [List.map_append, List.map_append, List.map_append, List.map_append, sel_map, sel_map, sel_map, sel_map, List.map_nil, upF_eq, upF_ne (show (40 : Int) ≠ 41 by decide), upF_eq, upF_ne (show (35 : Int) ≠ 41 by decide), upF_ne (show (35 : Int) ≠ 40 by decide), upF_ne (show (37 : Int) ≠ 41 by decide), upF_ne (show (37 : Int) ≠ 40 by decide)]
  rw [em] at q6
  exact q6
set_option maxRecDepth 100000 in
set_option maxHeartbeats 4000000 in
theorem pk231 {E : Ev} {M : Mm} {N : Nn} {ψ : Int → FV} {ν : Nu} {v t0 t1 u0 u1 x10 x11 x12 x13 x14 x15 : Int} {Q : Mm → Nn → Prop} {cs : List Int} (hF : FQ M ψ ν) (hJ : JP M cs) (hl : cs.length ≤ 3) (hn : ν.1 < 63) (v0 : 0 ≤ v) (v1 : v < 15) (hk : ∀ M1, JP M1 (cs ++ sel x11 36) → Kr [42] [41] M M1 → Go E RX8 cX8_laysPick 16 (none) (rmH 5) 0 0 (zM E (qv Q)) 242 [vr (29, 0, 0), vi v, vl t0, vn, vl t1, vn, vl u0, vn, vl u1, vn, vi x10, vi x11, vi x12, vi x13, vi x14, vi x15] [] M1 N) : Go E RX8 cX8_laysPick 16 (none) (rmH 5) 0 0 (zM E (qv Q)) 231 [vr (29, 0, 0), vi v, vl t0, vn, vl t1, vn, vl u0, vn, vl u1, vn, vi x10, vi x11, vi x12, vi x13, vi x14, vi x15] [] M N := by
  refine go_iload dX8_laysPick_231 rfl ?_
  refine go_if_eq (tgt := 242) dX8_laysPick_233 rfl (fun h233 => ?_) (fun h233 => ?_)
  · first
    | (obtain ⟨q1, rfl⟩ := hq1
       exact hk M1 (by rw [sel_1 (by assumption), q1]; exact hJ.add (by omega) (by decide) (by decide)) (by rw [q1]; exact (Kr.rf.wa (by decide)).ws (by decide)))
    | exact hk M (by rw [sel_0 (by assumption), List.append_nil]; exact hJ) Kr.rf
  · refine go_aload_n dX8_laysPick_236 rfl rfl ?_
    refine go_bipush dX8_laysPick_237 ⟨by decide, by decide⟩ ?_
    refine v8_410 dX8_laysPick_239 rfl ⟨rfl, rfl⟩ ⟨rfl, rfl⟩ (ct_X8_adds (by have := hJ.1; omega) (by have := hJ.1; omega)) (fun M1 N1 hq1 => ?_)
    first
    | (obtain ⟨q1, rfl⟩ := hq1
       exact hk M1 (by rw [sel_1 (by assumption), q1]; exact hJ.add (by omega) (by decide) (by decide)) (by rw [q1]; exact (Kr.rf.wa (by decide)).ws (by decide)))
    | exact hk M (by rw [sel_0 (by assumption), List.append_nil]; exact hJ) Kr.rf
set_option maxRecDepth 100000 in
set_option maxHeartbeats 4000000 in
theorem pk220 {E : Ev} {M : Mm} {N : Nn} {ψ : Int → FV} {ν : Nu} {v t0 t1 u0 u1 x10 x11 x12 x13 x14 x15 : Int} {Q : Mm → Nn → Prop} {cs : List Int} (hF : FQ M ψ ν) (hJ : JP M cs) (hl : cs.length ≤ 3) (hn : ν.1 < 63) (v0 : 0 ≤ v) (v1 : v < 15) (hk : ∀ M1, JP M1 (cs ++ sel x10 34) → Kr [42] [41] M M1 → Go E RX8 cX8_laysPick 16 (none) (rmH 5) 0 0 (zM E (qv Q)) 231 [vr (29, 0, 0), vi v, vl t0, vn, vl t1, vn, vl u0, vn, vl u1, vn, vi x10, vi x11, vi x12, vi x13, vi x14, vi x15] [] M1 N) : Go E RX8 cX8_laysPick 16 (none) (rmH 5) 0 0 (zM E (qv Q)) 220 [vr (29, 0, 0), vi v, vl t0, vn, vl t1, vn, vl u0, vn, vl u1, vn, vi x10, vi x11, vi x12, vi x13, vi x14, vi x15] [] M N := by
  refine go_iload dX8_laysPick_220 rfl ?_
  refine go_if_eq (tgt := 231) dX8_laysPick_222 rfl (fun h222 => ?_) (fun h222 => ?_)
  · first
    | (obtain ⟨q1, rfl⟩ := hq1
       exact hk M1 (by rw [sel_1 (by assumption), q1]; exact hJ.add (by omega) (by decide) (by decide)) (by rw [q1]; exact (Kr.rf.wa (by decide)).ws (by decide)))
    | exact hk M (by rw [sel_0 (by assumption), List.append_nil]; exact hJ) Kr.rf
  · refine go_aload_n dX8_laysPick_225 rfl rfl ?_
    refine go_bipush dX8_laysPick_226 ⟨by decide, by decide⟩ ?_
    refine v8_410 dX8_laysPick_228 rfl ⟨rfl, rfl⟩ ⟨rfl, rfl⟩ (ct_X8_adds (by have := hJ.1; omega) (by have := hJ.1; omega)) (fun M1 N1 hq1 => ?_)
    first
    | (obtain ⟨q1, rfl⟩ := hq1
       exact hk M1 (by rw [sel_1 (by assumption), q1]; exact hJ.add (by omega) (by decide) (by decide)) (by rw [q1]; exact (Kr.rf.wa (by decide)).ws (by decide)))
    | exact hk M (by rw [sel_0 (by assumption), List.append_nil]; exact hJ) Kr.rf
set_option maxRecDepth 100000 in
set_option maxHeartbeats 4000000 in
theorem pk242 {E : Ev} {M : Mm} {N : Nn} {ψ : Int → FV} {ν : Nu} {v t0 t1 u0 u1 x10 x11 x12 x13 x14 x15 : Int} {Q : Mm → Nn → Prop}  (hF : FQ M ψ ν) (hJ : JP M (([] ++ sel x10 (34 : Int)) ++ sel x11 (36 : Int))) (hV : 1 ≤ (([] ++ sel x10 (34 : Int)) ++ sel x11 (36 : Int)).length) (hD : 1 ≤ (((([] ++ sel (if x10 = 0 ∨ x12 = 0 then 0 else 1) (35 : Int)) ++ sel (if x11 = 0 ∨ x13 = 0 then 0 else 1) (37 : Int)) ++ sel x14 (40 : Int)) ++ sel x15 (41 : Int)).length) (hn : ν.1 + 2 ≤ 63) (v0 : 0 ≤ v) (v1 : v < 15) (hQ : ∀ M1, FQ M1 (upF (upF (upF (upF ψ v (jnF ν (([] ++ sel x10 (ψ 34)) ++ sel x11 (ψ 36)))) 40 (fad (fad (ψ 36) 1 (ψ 37)) (-1) (ψ 34))) 41 (fad (fad (ψ 34) 1 (ψ 35)) (-1) (ψ 36))) (15 + v) (jnF (jnN ν (([] ++ sel x10 (ψ 34)) ++ sel x11 (ψ 36)) (M (29, 0, 0) 37)) (((([] ++ sel (if x10 = 0 ∨ x12 = 0 then 0 else 1) (ψ 35)) ++ sel (if x11 = 0 ∨ x13 = 0 then 0 else 1) (ψ 37)) ++ sel x14 (fad (fad (ψ 36) 1 (ψ 37)) (-1) (ψ 34))) ++ sel x15 (fad (fad (ψ 34) 1 (ψ 35)) (-1) (ψ 36))))) (jnN (jnN ν (([] ++ sel x10 (ψ 34)) ++ sel x11 (ψ 36)) (M (29, 0, 0) 37)) (((([] ++ sel (if x10 = 0 ∨ x12 = 0 then 0 else 1) (ψ 35)) ++ sel (if x11 = 0 ∨ x13 = 0 then 0 else 1) (ψ 37)) ++ sel x14 (fad (fad (ψ 36) 1 (ψ 37)) (-1) (ψ 34))) ++ sel x15 (fad (fad (ψ 34) 1 (ψ 35)) (-1) (ψ 36))) (M (29, 0, 0) 37)) → Kr [34, 42] [33, 35, 36, 41] M M1 → Q M1 N) : Go E RX8 cX8_laysPick 16 (none) (rmH 5) 0 0 (zM E (qv Q)) 242 [vr (29, 0, 0), vi v, vl t0, vn, vl t1, vn, vl u0, vn, vl u1, vn, vi x10, vi x11, vi x12, vi x13, vi x14, vi x15] [] M N := by
  refine go_aload_n dX8_laysPick_242 rfl rfl ?_
  refine go_iconst dX8_laysPick_243 (R32_lit rfl) ?_
  refine go_iload_n dX8_laysPick_244 rfl ?_
  skip
  refine go_iaddc dX8_laysPick_245 ⟨by omega, by omega⟩ ?_
  rw [Int.zero_add]
  refine v8_413 dX8_laysPick_246 rfl ⟨rfl, rfl⟩ ⟨rfl, rfl⟩ (ct_X8_joins hF v0 (by omega) hJ (by omega) hV) (fun M1 N1 hq1 => ?_)
  obtain ⟨q1, q2, rfl⟩ := hq1
  have em : (([] ++ sel x10 (34 : Int)) ++ sel x11 (36 : Int)).map ψ = (([] ++ sel x10 (ψ 34)) ++ sel x11 (ψ 36)) := by rw [List.map_append, List.map_append, sel_map, sel_map, List.map_nil]
  rw [em] at q1
  have nb := jnN_le (ν := ν) (gs := (([] ++ sel x10 (ψ 34)) ++ sel x11 (ψ 36))) (v := M (29, 0, 0) 37)
  have r34 : upF ψ v (jnF ν (([] ++ sel x10 (ψ 34)) ++ sel x11 (ψ 36))) 34 = ψ 34 := upF_ne (by omega)
  have r35 : upF ψ v (jnF ν (([] ++ sel x10 (ψ 34)) ++ sel x11 (ψ 36))) 35 = ψ 35 := upF_ne (by omega)
  have r36 : upF ψ v (jnF ν (([] ++ sel x10 (ψ 34)) ++ sel x11 (ψ 36))) 36 = ψ 36 := upF_ne (by omega)
  have r37 : upF ψ v (jnF ν (([] ++ sel x10 (ψ 34)) ++ sel x11 (ψ 36))) 37 = ψ 37 := upF_ne (by omega)
  refine pk249 q1 hD (by omega) v0 v1 (fun M2 q3 f3 => ?_)
  rw [r34, r35, r36, r37, q2.s 37 (by decide)] at q3
  exact hQ M2 q3 ((q2.up (by decide) (by decide)).tr f3)
set_option maxRecDepth 100000 in
set_option maxHeartbeats 4000000 in
theorem pk215 {E : Ev} {M : Mm} {N : Nn} {ψ : Int → FV} {ν : Nu} {v t0 t1 u0 u1 x10 x11 x12 x13 x14 x15 : Int} {Q : Mm → Nn → Prop}  (hF : FQ M ψ ν) (hV : 1 ≤ (([] ++ sel x10 (34 : Int)) ++ sel x11 (36 : Int)).length) (hD : 1 ≤ (((([] ++ sel (if x10 = 0 ∨ x12 = 0 then 0 else 1) (35 : Int)) ++ sel (if x11 = 0 ∨ x13 = 0 then 0 else 1) (37 : Int)) ++ sel x14 (40 : Int)) ++ sel x15 (41 : Int)).length) (hn : ν.1 + 2 ≤ 63) (v0 : 0 ≤ v) (v1 : v < 15) (hQ : ∀ M1, FQ M1 (upF (upF (upF (upF ψ v (jnF ν (([] ++ sel x10 (ψ 34)) ++ sel x11 (ψ 36)))) 40 (fad (fad (ψ 36) 1 (ψ 37)) (-1) (ψ 34))) 41 (fad (fad (ψ 34) 1 (ψ 35)) (-1) (ψ 36))) (15 + v) (jnF (jnN ν (([] ++ sel x10 (ψ 34)) ++ sel x11 (ψ 36)) (M (29, 0, 0) 37)) (((([] ++ sel (if x10 = 0 ∨ x12 = 0 then 0 else 1) (ψ 35)) ++ sel (if x11 = 0 ∨ x13 = 0 then 0 else 1) (ψ 37)) ++ sel x14 (fad (fad (ψ 36) 1 (ψ 37)) (-1) (ψ 34))) ++ sel x15 (fad (fad (ψ 34) 1 (ψ 35)) (-1) (ψ 36))))) (jnN (jnN ν (([] ++ sel x10 (ψ 34)) ++ sel x11 (ψ 36)) (M (29, 0, 0) 37)) (((([] ++ sel (if x10 = 0 ∨ x12 = 0 then 0 else 1) (ψ 35)) ++ sel (if x11 = 0 ∨ x13 = 0 then 0 else 1) (ψ 37)) ++ sel x14 (fad (fad (ψ 36) 1 (ψ 37)) (-1) (ψ 34))) ++ sel x15 (fad (fad (ψ 34) 1 (ψ 35)) (-1) (ψ 36))) (M (29, 0, 0) 37)) → Kr [34, 42] [33, 35, 36, 41] M M1 → Q M1 N) : Go E RX8 cX8_laysPick 16 (none) (rmH 5) 0 0 (zM E (qv Q)) 215 [vr (29, 0, 0), vi v, vl t0, vn, vl t1, vn, vl u0, vn, vl u1, vn, vi x10, vi x11, vi x12, vi x13, vi x14, vi x15] [] M N := by
  refine go_aload_n dX8_laysPick_215 rfl rfl ?_
  refine go_iconst dX8_laysPick_216 (R32_lit rfl) ?_
  refine p8_372 dX8_laysPick_217 ?_
  refine go_nmM (fun M5 eM5 => ?_)
  have f5 : Kr [42] [] M M5 := by rw [eM5]; exact Kr.rf.ws (by decide)
  have j5 : M5 (29, 0, 0) 42 = 0 := by rw [eM5, wr_eq]
  clear eM5
  have F5 := hF.k f5 (by decide) (by decide) (by decide) (by decide)
  refine pk220 F5 (JP_0 j5) (by decide) (by omega) v0 v1 (fun M1 J1 f1 => ?_)
  have F1 : FQ M1 ψ ν := F5.k f1 (by decide) (by decide) (by decide) (by decide)
  have s1 := sel_len (x := x10) (j := (34 : Int))
  have L1 : ([] ++ sel x10 (34 : Int)).length ≤ 1 := by rw [List.length_append]; show 0 + _ ≤ 1; omega
  refine pk231 F1 J1 (by omega) (by omega) v0 v1 (fun M2 J2 f2 => ?_)
  have F2 : FQ M2 ψ ν := F1.k f2 (by decide) (by decide) (by decide) (by decide)
  have l2 : M2 (29, 0, 0) 37 = M (29, 0, 0) 37 := by rw [f2.s 37 (by decide), f1.s 37 (by decide), f5.s 37 (by decide)]
  refine pk242 F2 J2 hV hD hn v0 v1 (fun M3 q3 f3 => ?_)
  rw [l2] at q3
  exact hQ M3 q3 ((((f5.up (by decide) (by decide)).tr (f1.up (by decide) (by decide))).tr (f2.up (by decide) (by decide))).tr f3)
