set_option maxRecDepth 100000 in
set_option maxHeartbeats 4000000 in
/-- THE LAW, from its entry -/
theorem whole_start {p : Program} {e : Env} {s : State} {m : MethodId} {below : List Frame} {meth : Method} {c : Code} (l : Launch) (hflags : l.flags = flags0) {b L : Nat} {xs : Nat → Int32} (hL : L ≤ 3072) (C0 : lw_At p s m meth c b L xs) : W p l e room_1 s m #[Value.ref b] below meth c s.heap [] 0 0 (lw_Z below #[Value.ref b] s) (entryFrame m ([Value.ref b] : List Value).toArray 7) := by
  obtain ⟨hx, hb, hr, hml, hown, hts, hX, hbl, hlocks, hgv⟩ := id C0
  obtain ⟨T, hF⟩ := st_env hts hX hbl hgv
  obtain ⟨D, C, hK⟩ := st_classes hts
  obtain ⟨E, hEe⟩ : ∃ E : Ev, E = (l, s.heap.size, D, C, b, T, FsP s.heap.size b L xs T) := ⟨_, rfl⟩
  have eL0 : eL E = l := by rw [hEe]; rfl
  have eB0 : eB E = s.heap.size := by rw [hEe]; rfl
  have eT0 : eT E = T := by rw [hEe]; rfl
  have eS0 : eS E = b := by rw [hEe]; rfl
  have eF0 : eF E = FsP s.heap.size b L xs T := by rw [hEe]; rfl
  have eA0 : eA E = fun q => s.heap.size ≤ q := by rw [hEe]; rfl
  have hOK : EOK E := by
    refine ⟨fun u U h hW hq => ?_, fun U U' hv hh h => ?_⟩
    · rw [eF0] at h ⊢
      rw [eB0] at hq
      exact FsP_ok h hW hq
    · rw [eF0] at h ⊢
      exact FsP_ok h (by rw [hv]; exact State.WarmedH.refl U) (fun q _ => by rw [hh])
  have hBs : Bs E s := by
    refine ⟨?_, by rw [eB0]; exact Nat.le_refl _, by rw [eF0]; exact hF, hOK⟩
    rw [hEe]; exact hK
  have fm : rfv E (fmN E) = (if T 17 = 0 then .null else .ref (T 16)) := by
    unfold fmN
    rw [eT0]
    by_cases z : T 17 = 0
    · rw [if_pos z, if_pos z]; rfl
    · rw [if_neg z, if_neg z]
      show va_rf (orf E (2, 16, 0)) = _
      show Value.ref (eT E 16) = _
      rw [eT0]
  have nw : ∀ u, eF E u → ∀ w ∈ nwL, va_Nw w u := fun u hu => by rw [eF0] at hu; exact hu.2.2.2.2.2.2.2.1
  have hEN : EN E := ⟨fun u hu => nw u hu _ (List.mem_of_getElem? (i := 7) rfl), fun u hu => nw u hu _ (List.mem_of_getElem? (i := 8) rfl)⟩
  have hEI : EI E := ⟨fun u hu => nw u hu _ (List.mem_of_getElem? (i := 0) rfl), fun u hu => nw u hu _ (List.mem_of_getElem? (i := 1) rfl), fun u hu => nw u hu _ (List.mem_of_getElem? (i := 2) rfl), fun u hu => nw u hu _ (List.mem_of_getElem? (i := 3) rfl), fun u hu => nw u hu _ (List.mem_of_getElem? (i := 4) rfl), fun u hu => nw u hu _ (List.mem_of_getElem? (i := 5) rfl), fun u hu => nw u hu _ (List.mem_of_getElem? (i := 6) rfl), fun u hu => by rw [eF0] at hu; exact hu.2.2.2.2.2.2.2.2.2.1⟩
  have st : ∀ u, eF E u → ∀ q ∈ stL, vk_R q.1 q.2.1 q.2.2.1 (eT E q.2.2.2) u := fun u hu => by rw [eF0] at hu; rw [eT0]; exact hu.2.2.2.1
  have hES : ES E := by
    refine ⟨fun u hu => ?_, fun u hu => ?_, fun u hu => ?_, fun u hu => st u hu (RX4, 65, "input", 0) (List.mem_of_getElem? (i := 0) rfl), fun u hu => st u hu (RX4, 91, "from", 1) (List.mem_of_getElem? (i := 1) rfl), fun u hu => st u hu (RX4, 102, "to", 2) (List.mem_of_getElem? (i := 2) rfl), fun u hu => st u hu (RX4, 74, "let", 3) (List.mem_of_getElem? (i := 3) rfl), fun u hu => st u hu (RX4, 127, "round", 4) (List.mem_of_getElem? (i := 4) rfl), fun u hu => st u hu (RX4, 79, "pick", 5) (List.mem_of_getElem? (i := 5) rfl), fun u hu => st u hu (RX4, 123, "then", 6) (List.mem_of_getElem? (i := 6) rfl), fun u hu => st u hu (RX4, 125, "else", 7) (List.mem_of_getElem? (i := 7) rfl), fun u hu => st u hu (RX8, 181, "input", 0) (List.mem_of_getElem? (i := 8) rfl), fun u hu => st u hu (RX8, 183, "from", 1) (List.mem_of_getElem? (i := 9) rfl), fun u hu => st u hu (RX8, 184, "to", 2) (List.mem_of_getElem? (i := 10) rfl), fun u hu => st u hu (RX8, 185, "let", 3) (List.mem_of_getElem? (i := 11) rfl), fun u hu => st u hu (RX8, 187, "round", 4) (List.mem_of_getElem? (i := 12) rfl), fun u hu => st u hu (RX8, 189, "pick", 5) (List.mem_of_getElem? (i := 13) rfl), fun u hu => st u hu (RX8, 191, "then", 6) (List.mem_of_getElem? (i := 14) rfl), fun u hu => st u hu (RX8, 193, "else", 7) (List.mem_of_getElem? (i := 15) rfl)⟩
    · rw [eF0] at hu; rw [eT0, eA0]; exact hu.1
    · rw [eF0] at hu; rw [eA0]; exact hu.2.1
    · rw [eF0] at hu; rw [fm, eA0]; exact hu.2.2.1
  have hEX : EX E := by
    refine ⟨?_, fun u hu => ?_, fun u hu => ?_, fun u hu => ?_, fun u hu => ?_⟩
    · rw [eL0]
      unfold Launch.stackTraces
      rw [hflags]
      decide +kernel
    · rw [eF0] at hu; rw [eT0]; exact hu.2.2.2.2.1
    · rw [eF0] at hu; rw [eA0]; exact hu.2.2.2.2.2.1
    · rw [eF0] at hu; rw [eA0]; exact hu.2.2.2.2.2.2.1
    · rw [eF0] at hu; exact hu.2.2.2.2.2.2.2.2.1
  have hEC : EC E L xs := by
    refine ⟨fun u hu => ?_, by rw [eS0, eB0]; exact hbl, hL⟩
    rw [eF0] at hu; rw [eS0]; exact hu.2.2.2.2.2.2.2.2.2.2.1
  have hl := lv_entry ([.ref b]) (n := 7) (Nat.le_of_ble_eq_true rfl)
  rw [lg_entry_eq]
  have hCx : Cx E RL cL_law 7 (some .boolean) p s m #[Value.ref b] meth c := ⟨hx, hb, hml, hr, hown, fun w hw => hts w (List.mem_filter.mp hw).1, hlocks, hBs⟩
  have hH0 : HdF E 0 mZ0 fZ0 s.heap := by
    refine ⟨fun k q h => ?_, by rw [eB0]; rfl⟩
    obtain ⟨n, -, hk, -⟩ := wsF_of h
    exact absurd hk (Nat.not_lt_zero _)
  have g := lw_begin hEC hEN hES hEX hEI p e s m #[Value.ref b] below meth c hCx (fun h => by cases h) s.heap [] _ hH0 va_S.rf (okL_cons (v := vr (1, 0, 0)) (Or.inl (by decide)) (okL_cons (v := vn) trivial (okL_cons (v := vn) trivial (okL_cons (v := vn) trivial (okL_cons (v := vn) trivial (okL_cons (v := vn) trivial (okL_cons (v := vn) trivial okL_nil))))))) okL_nil (lv_mono hl (fun q hq => ?_))
  · rw [eL0] at g
    intro U hU X
    obtain ⟨t, a, h⟩ := g U hU X
    exact ⟨t, a, h eB0.symm⟩
  · obtain ⟨v, v1, v2, v3⟩ := lvl_mem.mp hq
    obtain ⟨i, y⟩ := q
    match i, v1 with
    | 0, v1 =>
      cases v1
      have v3 : y = .ref (eS E) := v3
      rw [v3, eS0]
      exact List.mem_cons_self
    | 1, v1 => cases v1; exact absurd rfl v2
    | 2, v1 => cases v1; exact absurd rfl v2
    | 3, v1 => cases v1; exact absurd rfl v2
    | 4, v1 => cases v1; exact absurd rfl v2
    | 5, v1 => cases v1; exact absurd rfl v2
    | 6, v1 => cases v1; exact absurd rfl v2
    | i + 7, v1 => cases v1
