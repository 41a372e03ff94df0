/-! what holds at the law's entry -/
def slT : List Nat := [65, 91, 102, 74, 127, 79, 123, 125]
theorem va_eqRf {args : Array Value} {s : State} {t u : Term} {a c : Nat} (h : (Cond.eq t u).before args s = true) (ht : t.eval args s none [] s = some (.ref a)) (hu : u.eval args s none [] s = some (.ref c)) : a = c := by
  by_cases e : a = c
  · exact e
  · exfalso
    simp [Cond.before, Cond.holds, Cond.value, ht, hu, e] at h
set_option maxRecDepth 100000 in
set_option maxHeartbeats 4000000 in
theorem st_strings {b : Nat} {s : State} (hgv : (Jvm.Cond.and given_1 narrow_1).before #[Value.ref b] s = true) : ∃ adK adV : Nat → Nat, vk_S 8 slN slB adK adV (fun q => s.heap.size ≤ q) s s.heap ∧ ∀ i : Nat, i < 8 → (Term.string RX4 (slT.getD i 0)).eval #[Value.ref b] s none [] s = some (.ref (adK i)) := by
  have hs := flat_of_before _ hgv
  refine vk_Sof (args := #[Value.ref b]) (tm := fun i => Term.string RX4 (slT.getD i 0)) (by decide) (fun i hi => ?_) (fun i hi => ?_) (fun i hi => ?_) (fun i hi => ?_) (fun i hi j hj => ?_) (fun i j hi hj hij => ?_) (fun a ha h => absurd (show s.heap.size ≤ a from h) (Nat.not_le.mpr ha))
  · match i, hi with
    | 0, _ => exact hs _ (List.mem_of_getElem? (i := 20) (by decide +kernel))
    | 1, _ => exact hs _ (List.mem_of_getElem? (i := 29) (by decide +kernel))
    | 2, _ => exact hs _ (List.mem_of_getElem? (i := 38) (by decide +kernel))
    | 3, _ => exact hs _ (List.mem_of_getElem? (i := 46) (by decide +kernel))
    | 4, _ => exact hs _ (List.mem_of_getElem? (i := 56) (by decide +kernel))
    | 5, _ => exact hs _ (List.mem_of_getElem? (i := 69) (by decide +kernel))
    | 6, _ => exact hs _ (List.mem_of_getElem? (i := 82) (by decide +kernel))
    | 7, _ => exact hs _ (List.mem_of_getElem? (i := 96) (by decide +kernel))
    | i + 8, h => exact absurd h (by omega)
  · match i, hi with
    | 0, _ => exact hs _ (List.mem_of_getElem? (i := 21) (by decide +kernel))
    | 1, _ => exact hs _ (List.mem_of_getElem? (i := 30) (by decide +kernel))
    | 2, _ => exact hs _ (List.mem_of_getElem? (i := 39) (by decide +kernel))
    | 3, _ => exact hs _ (List.mem_of_getElem? (i := 47) (by decide +kernel))
    | 4, _ => exact hs _ (List.mem_of_getElem? (i := 57) (by decide +kernel))
    | 5, _ => exact hs _ (List.mem_of_getElem? (i := 70) (by decide +kernel))
    | 6, _ => exact hs _ (List.mem_of_getElem? (i := 83) (by decide +kernel))
    | 7, _ => exact hs _ (List.mem_of_getElem? (i := 97) (by decide +kernel))
    | i + 8, h => exact absurd h (by omega)
  · match i, hi with
    | 0, _ => exact hs _ (List.mem_of_getElem? (i := 22) (by decide +kernel))
    | 1, _ => exact hs _ (List.mem_of_getElem? (i := 31) (by decide +kernel))
    | 2, _ => exact hs _ (List.mem_of_getElem? (i := 40) (by decide +kernel))
    | 3, _ => exact hs _ (List.mem_of_getElem? (i := 48) (by decide +kernel))
    | 4, _ => exact hs _ (List.mem_of_getElem? (i := 58) (by decide +kernel))
    | 5, _ => exact hs _ (List.mem_of_getElem? (i := 71) (by decide +kernel))
    | 6, _ => exact hs _ (List.mem_of_getElem? (i := 84) (by decide +kernel))
    | 7, _ => exact hs _ (List.mem_of_getElem? (i := 98) (by decide +kernel))
    | i + 8, h => exact absurd h (by omega)
  · match i, hi with
    | 0, _ => exact hs _ (List.mem_of_getElem? (i := 23) (by decide +kernel))
    | 1, _ => exact hs _ (List.mem_of_getElem? (i := 32) (by decide +kernel))
    | 2, _ => exact hs _ (List.mem_of_getElem? (i := 41) (by decide +kernel))
    | 3, _ => exact hs _ (List.mem_of_getElem? (i := 49) (by decide +kernel))
    | 4, _ => exact hs _ (List.mem_of_getElem? (i := 59) (by decide +kernel))
    | 5, _ => exact hs _ (List.mem_of_getElem? (i := 72) (by decide +kernel))
    | 6, _ => exact hs _ (List.mem_of_getElem? (i := 85) (by decide +kernel))
    | 7, _ => exact hs _ (List.mem_of_getElem? (i := 99) (by decide +kernel))
    | i + 8, h => exact absurd h (by omega)
  · match i, hi, j, hj with
    | 0, _, 0, _ => exact hs _ (List.mem_of_getElem? (i := 24) (by decide +kernel))
    | 0, _, 1, _ => exact hs _ (List.mem_of_getElem? (i := 25) (by decide +kernel))
    | 0, _, 2, _ => exact hs _ (List.mem_of_getElem? (i := 26) (by decide +kernel))
    | 0, _, 3, _ => exact hs _ (List.mem_of_getElem? (i := 27) (by decide +kernel))
    | 0, _, 4, _ => exact hs _ (List.mem_of_getElem? (i := 28) (by decide +kernel))
    | 0, _, j + 5, h => exact absurd (show j + 5 < 5 from h) (by omega)
    | 1, _, 0, _ => exact hs _ (List.mem_of_getElem? (i := 33) (by decide +kernel))
    | 1, _, 1, _ => exact hs _ (List.mem_of_getElem? (i := 34) (by decide +kernel))
    | 1, _, 2, _ => exact hs _ (List.mem_of_getElem? (i := 35) (by decide +kernel))
    | 1, _, 3, _ => exact hs _ (List.mem_of_getElem? (i := 36) (by decide +kernel))
    | 1, _, j + 4, h => exact absurd (show j + 4 < 4 from h) (by omega)
    | 2, _, 0, _ => exact hs _ (List.mem_of_getElem? (i := 42) (by decide +kernel))
    | 2, _, 1, _ => exact hs _ (List.mem_of_getElem? (i := 43) (by decide +kernel))
    | 2, _, j + 2, h => exact absurd (show j + 2 < 2 from h) (by omega)
    | 3, _, 0, _ => exact hs _ (List.mem_of_getElem? (i := 50) (by decide +kernel))
    | 3, _, 1, _ => exact hs _ (List.mem_of_getElem? (i := 51) (by decide +kernel))
    | 3, _, 2, _ => exact hs _ (List.mem_of_getElem? (i := 52) (by decide +kernel))
    | 3, _, j + 3, h => exact absurd (show j + 3 < 3 from h) (by omega)
    | 4, _, 0, _ => exact hs _ (List.mem_of_getElem? (i := 60) (by decide +kernel))
    | 4, _, 1, _ => exact hs _ (List.mem_of_getElem? (i := 61) (by decide +kernel))
    | 4, _, 2, _ => exact hs _ (List.mem_of_getElem? (i := 62) (by decide +kernel))
    | 4, _, 3, _ => exact hs _ (List.mem_of_getElem? (i := 63) (by decide +kernel))
    | 4, _, 4, _ => exact hs _ (List.mem_of_getElem? (i := 64) (by decide +kernel))
    | 4, _, j + 5, h => exact absurd (show j + 5 < 5 from h) (by omega)
    | 5, _, 0, _ => exact hs _ (List.mem_of_getElem? (i := 73) (by decide +kernel))
    | 5, _, 1, _ => exact hs _ (List.mem_of_getElem? (i := 74) (by decide +kernel))
    | 5, _, 2, _ => exact hs _ (List.mem_of_getElem? (i := 75) (by decide +kernel))
    | 5, _, 3, _ => exact hs _ (List.mem_of_getElem? (i := 76) (by decide +kernel))
    | 5, _, j + 4, h => exact absurd (show j + 4 < 4 from h) (by omega)
    | 6, _, 0, _ => exact hs _ (List.mem_of_getElem? (i := 86) (by decide +kernel))
    | 6, _, 1, _ => exact hs _ (List.mem_of_getElem? (i := 87) (by decide +kernel))
    | 6, _, 2, _ => exact hs _ (List.mem_of_getElem? (i := 88) (by decide +kernel))
    | 6, _, 3, _ => exact hs _ (List.mem_of_getElem? (i := 89) (by decide +kernel))
    | 6, _, j + 4, h => exact absurd (show j + 4 < 4 from h) (by omega)
    | 7, _, 0, _ => exact hs _ (List.mem_of_getElem? (i := 100) (by decide +kernel))
    | 7, _, 1, _ => exact hs _ (List.mem_of_getElem? (i := 101) (by decide +kernel))
    | 7, _, 2, _ => exact hs _ (List.mem_of_getElem? (i := 102) (by decide +kernel))
    | 7, _, 3, _ => exact hs _ (List.mem_of_getElem? (i := 103) (by decide +kernel))
    | 7, _, j + 4, h => exact absurd (show j + 4 < 4 from h) (by omega)
    | i + 8, h, _, _ => exact absurd h (by omega)
  · match i, hi, j, hj, hij with
    | 0, _, 0, _, h => exact absurd rfl h
    | 0, _, 1, _, _ => exact Or.inl (hs _ (List.mem_of_getElem? (i := 37) (by decide +kernel)))
    | 0, _, 2, _, _ => exact Or.inl (hs _ (List.mem_of_getElem? (i := 44) (by decide +kernel)))
    | 0, _, 3, _, _ => exact Or.inl (hs _ (List.mem_of_getElem? (i := 53) (by decide +kernel)))
    | 0, _, 4, _, _ => exact Or.inl (hs _ (List.mem_of_getElem? (i := 65) (by decide +kernel)))
    | 0, _, 5, _, _ => exact Or.inl (hs _ (List.mem_of_getElem? (i := 77) (by decide +kernel)))
    | 0, _, 6, _, _ => exact Or.inl (hs _ (List.mem_of_getElem? (i := 90) (by decide +kernel)))
    | 0, _, 7, _, _ => exact Or.inl (hs _ (List.mem_of_getElem? (i := 104) (by decide +kernel)))
    | 0, _, j + 8, h, _ => exact absurd h (by omega)
    | 1, _, 0, _, _ => exact Or.inr (hs _ (List.mem_of_getElem? (i := 37) (by decide +kernel)))
    | 1, _, 1, _, h => exact absurd rfl h
    | 1, _, 2, _, _ => exact Or.inl (hs _ (List.mem_of_getElem? (i := 45) (by decide +kernel)))
    | 1, _, 3, _, _ => exact Or.inl (hs _ (List.mem_of_getElem? (i := 54) (by decide +kernel)))
    | 1, _, 4, _, _ => exact Or.inl (hs _ (List.mem_of_getElem? (i := 66) (by decide +kernel)))
    | 1, _, 5, _, _ => exact Or.inl (hs _ (List.mem_of_getElem? (i := 78) (by decide +kernel)))
    | 1, _, 6, _, _ => exact Or.inl (hs _ (List.mem_of_getElem? (i := 91) (by decide +kernel)))
    | 1, _, 7, _, _ => exact Or.inl (hs _ (List.mem_of_getElem? (i := 105) (by decide +kernel)))
    | 1, _, j + 8, h, _ => exact absurd h (by omega)
    | 2, _, 0, _, _ => exact Or.inr (hs _ (List.mem_of_getElem? (i := 44) (by decide +kernel)))
    | 2, _, 1, _, _ => exact Or.inr (hs _ (List.mem_of_getElem? (i := 45) (by decide +kernel)))
    | 2, _, 2, _, h => exact absurd rfl h
    | 2, _, 3, _, _ => exact Or.inl (hs _ (List.mem_of_getElem? (i := 55) (by decide +kernel)))
    | 2, _, 4, _, _ => exact Or.inl (hs _ (List.mem_of_getElem? (i := 67) (by decide +kernel)))
    | 2, _, 5, _, _ => exact Or.inl (hs _ (List.mem_of_getElem? (i := 79) (by decide +kernel)))
    | 2, _, 6, _, _ => exact Or.inl (hs _ (List.mem_of_getElem? (i := 92) (by decide +kernel)))
    | 2, _, 7, _, _ => exact Or.inl (hs _ (List.mem_of_getElem? (i := 106) (by decide +kernel)))
    | 2, _, j + 8, h, _ => exact absurd h (by omega)
    | 3, _, 0, _, _ => exact Or.inr (hs _ (List.mem_of_getElem? (i := 53) (by decide +kernel)))
    | 3, _, 1, _, _ => exact Or.inr (hs _ (List.mem_of_getElem? (i := 54) (by decide +kernel)))
    | 3, _, 2, _, _ => exact Or.inr (hs _ (List.mem_of_getElem? (i := 55) (by decide +kernel)))
    | 3, _, 3, _, h => exact absurd rfl h
    | 3, _, 4, _, _ => exact Or.inl (hs _ (List.mem_of_getElem? (i := 68) (by decide +kernel)))
    | 3, _, 5, _, _ => exact Or.inl (hs _ (List.mem_of_getElem? (i := 80) (by decide +kernel)))
    | 3, _, 6, _, _ => exact Or.inl (hs _ (List.mem_of_getElem? (i := 93) (by decide +kernel)))
    | 3, _, 7, _, _ => exact Or.inl (hs _ (List.mem_of_getElem? (i := 107) (by decide +kernel)))
    | 3, _, j + 8, h, _ => exact absurd h (by omega)
    | 4, _, 0, _, _ => exact Or.inr (hs _ (List.mem_of_getElem? (i := 65) (by decide +kernel)))
    | 4, _, 1, _, _ => exact Or.inr (hs _ (List.mem_of_getElem? (i := 66) (by decide +kernel)))
    | 4, _, 2, _, _ => exact Or.inr (hs _ (List.mem_of_getElem? (i := 67) (by decide +kernel)))
    | 4, _, 3, _, _ => exact Or.inr (hs _ (List.mem_of_getElem? (i := 68) (by decide +kernel)))
    | 4, _, 4, _, h => exact absurd rfl h
    | 4, _, 5, _, _ => exact Or.inl (hs _ (List.mem_of_getElem? (i := 81) (by decide +kernel)))
    | 4, _, 6, _, _ => exact Or.inl (hs _ (List.mem_of_getElem? (i := 94) (by decide +kernel)))
    | 4, _, 7, _, _ => exact Or.inl (hs _ (List.mem_of_getElem? (i := 108) (by decide +kernel)))
    | 4, _, j + 8, h, _ => exact absurd h (by omega)
    | 5, _, 0, _, _ => exact Or.inr (hs _ (List.mem_of_getElem? (i := 77) (by decide +kernel)))
    | 5, _, 1, _, _ => exact Or.inr (hs _ (List.mem_of_getElem? (i := 78) (by decide +kernel)))
    | 5, _, 2, _, _ => exact Or.inr (hs _ (List.mem_of_getElem? (i := 79) (by decide +kernel)))
    | 5, _, 3, _, _ => exact Or.inr (hs _ (List.mem_of_getElem? (i := 80) (by decide +kernel)))
    | 5, _, 4, _, _ => exact Or.inr (hs _ (List.mem_of_getElem? (i := 81) (by decide +kernel)))
    | 5, _, 5, _, h => exact absurd rfl h
    | 5, _, 6, _, _ => exact Or.inl (hs _ (List.mem_of_getElem? (i := 95) (by decide +kernel)))
    | 5, _, 7, _, _ => exact Or.inl (hs _ (List.mem_of_getElem? (i := 109) (by decide +kernel)))
    | 5, _, j + 8, h, _ => exact absurd h (by omega)
    | 6, _, 0, _, _ => exact Or.inr (hs _ (List.mem_of_getElem? (i := 90) (by decide +kernel)))
    | 6, _, 1, _, _ => exact Or.inr (hs _ (List.mem_of_getElem? (i := 91) (by decide +kernel)))
    | 6, _, 2, _, _ => exact Or.inr (hs _ (List.mem_of_getElem? (i := 92) (by decide +kernel)))
    | 6, _, 3, _, _ => exact Or.inr (hs _ (List.mem_of_getElem? (i := 93) (by decide +kernel)))
    | 6, _, 4, _, _ => exact Or.inr (hs _ (List.mem_of_getElem? (i := 94) (by decide +kernel)))
    | 6, _, 5, _, _ => exact Or.inr (hs _ (List.mem_of_getElem? (i := 95) (by decide +kernel)))
    | 6, _, 6, _, h => exact absurd rfl h
    | 6, _, 7, _, _ => exact Or.inl (hs _ (List.mem_of_getElem? (i := 110) (by decide +kernel)))
    | 6, _, j + 8, h, _ => exact absurd h (by omega)
    | 7, _, 0, _, _ => exact Or.inr (hs _ (List.mem_of_getElem? (i := 104) (by decide +kernel)))
    | 7, _, 1, _, _ => exact Or.inr (hs _ (List.mem_of_getElem? (i := 105) (by decide +kernel)))
    | 7, _, 2, _, _ => exact Or.inr (hs _ (List.mem_of_getElem? (i := 106) (by decide +kernel)))
    | 7, _, 3, _, _ => exact Or.inr (hs _ (List.mem_of_getElem? (i := 107) (by decide +kernel)))
    | 7, _, 4, _, _ => exact Or.inr (hs _ (List.mem_of_getElem? (i := 108) (by decide +kernel)))
    | 7, _, 5, _, _ => exact Or.inr (hs _ (List.mem_of_getElem? (i := 109) (by decide +kernel)))
    | 7, _, 6, _, _ => exact Or.inr (hs _ (List.mem_of_getElem? (i := 110) (by decide +kernel)))
    | 7, _, 7, _, h => exact absurd rfl h
    | 7, _, j + 8, h, _ => exact absurd h (by omega)
    | i + 8, h, _, _, _ => exact absurd h (by omega)
def stL : List (String × Nat × String × Nat) := [(RX4, 65, "input", 0), (RX4, 91, "from", 1), (RX4, 102, "to", 2), (RX4, 74, "let", 3), (RX4, 127, "round", 4), (RX4, 79, "pick", 5), (RX4, 123, "then", 6), (RX4, 125, "else", 7), (RX8, 181, "input", 0), (RX8, 183, "from", 1), (RX8, 184, "to", 2), (RX8, 185, "let", 3), (RX8, 187, "round", 4), (RX8, 189, "pick", 5), (RX8, 191, "then", 6), (RX8, 193, "else", 7)]
def nwL : List Cond := [.methodLinkNest RX7 21 yX4_init RX7, .methodLinkNest RX7 35 yX2_init RX7, .methodLinkNest RX7 42 yX6_init RX7, .methodLinkNest RX7 49 yX3_init RX7, .methodLinkNest RX1 33 yX0_init RX7, .methodLinkNest RX2 20 yX3_init RX7, .methodLinkNest RX6 20 yX5_init RX7, .methodLinkNest RX4 146 yX7_isNumber RX7, .methodLinkNest RX4 104 yX7_isEndOf RX7]
/-- what stays over the whole run: strings, statics, words, the script -/
def FsP (B b L : Nat) (xs : Nat → Int32) (T : Nat → Nat) : State → Prop := fun U =>
  vk_S 8 slN slB T (fun i => T (8 + i)) (fun q => B ≤ q) U U.heap ∧ va_Z RJ0 "COMPACT_STRINGS" "Z" (.int 1) (fun q => B ≤ q) U U.heap ∧ va_Z RJ3 "SIOOBE_FORMATTER" "Ljava/util/function/BiFunction;" (if T 17 = 0 then .null else .ref (T 16)) (fun q => B ≤ q) U U.heap ∧
  (∀ q ∈ stL, vk_R q.1 q.2.1 q.2.2.1 (T q.2.2.2) U) ∧ vk_R RX7 291 "no such step" (T 18) U ∧ vx_Zq Bundle.tN "UNASSIGNED_STACK" Bundle.steD (fun q => B ≤ q) U U.heap ∧ vx_Zq Bundle.tN "SUPPRESSED_SENTINEL" Bundle.listD (fun q => B ≤ q) U U.heap ∧
  (∀ w ∈ nwL, va_Nw w U) ∧ (∀ w ∈ nxB, va_Nw w U) ∧ va_AO RX0 U ∧ va_X b L xs U U.heap ∧ b < B
theorem FsP_ok {B b L : Nat} {xs : Nat → Int32} {T : Nat → Nat} {s U : State} (h : FsP B b L xs T s) (hW : s.WarmedH U.vm) (hq : ∀ q, q < B → U.heap[q]? = s.heap[q]?) : FsP B b L xs T U := by
  obtain ⟨h1, h2, h3, h4, h5, h6, h7, h8, h9, h10, h11, h12⟩ := h
  have k : ∀ a : Nat, a < s.heap.size → ¬ (fun q => B ≤ q) a → U.heap[a]? = s.heap[a]? := fun a _ ha => hq a (Nat.not_le.mp ha)
  refine ⟨vk_S.moved hW.alike (h1.kept k), va_Z.moved hW.alike (h2.kept k), va_Z.moved hW.alike (h3.kept k), fun q hq => vk_R.warm hW (h4 q hq), vk_R.warm hW h5, vx_Zq.moved hW.alike (h6.kept k), vx_Zq.moved hW.alike (h7.kept k), fun w hw => ?_, fun w hw => ?_, va_AO.moved hW.alike h10, va_X.moved hW.alike (h11.kept (hq b h12)), h12⟩
  · have g := h8 w hw
    simp only [nwL, List.mem_cons, List.not_mem_nil, or_false] at hw
    rcases hw with rfl | rfl | rfl | rfl | rfl | rfl | rfl | rfl | rfl <;> exact va_Nw.warmM hW g
  · have g := h9 w hw
    simp only [nxB, List.mem_cons, List.not_mem_nil, or_false] at hw
    rcases hw with rfl | rfl | rfl | rfl
    · exact va_Nw.warmC hW g
    · exact va_Nw.warmD hW g
    · exact va_Nw.warmD hW g
    · exact va_Nw.warmD hW g
def Tst (adK adV : Nat → Nat) (tf zf tn : Nat) : Nat → Nat := fun i => if i < 8 then adK i else if i < 16 then adV (i - 8) else if i = 16 then tf else if i = 17 then zf else tn
theorem Tst_K {adK adV : Nat → Nat} {tf zf tn i : Nat} (h : i < 8) : Tst adK adV tf zf tn i = adK i := if_pos h
theorem Tst_V {adK adV : Nat → Nat} {tf zf tn i : Nat} (h : i < 8) : Tst adK adV tf zf tn (8 + i) = adV i := by
  unfold Tst
  rw [if_neg (by omega), if_pos (by omega), show 8 + i - 8 = i by omega]
theorem vk_S_cg {N : Nat} {len : List Nat} {byt : List (List Int32)} {adK adV adK' adV' : Nat → Nat} {A : Nat → Prop} {U : State} {H : Heap} (h : vk_S N len byt adK adV A U H) (hK : ∀ i, i < N → adK' i = adK i) (hV : ∀ i, i < N → adV' i = adV i) : vk_S N len byt adK' adV' A U H := by
  refine ⟨fun i hi => ?_, fun i j hi hj e => ?_⟩
  · have g := h.1 i hi
    rw [hK i hi, hV i hi]
    exact g
  · rw [hK i hi, hK j hj] at e
    exact h.2 i j hi hj e
set_option maxRecDepth 100000 in
set_option maxHeartbeats 4000000 in
theorem st_env {b L : Nat} {xs : Nat → Int32} {s : State} (hts : ∀ w ∈ lw_tbl, w.before #[Value.ref b] s = true) (hX : va_X b L xs s s.heap) (hbl : b < s.heap.size) (hgv : (Jvm.Cond.and given_1 narrow_1).before #[Value.ref b] s = true) : ∃ T : Nat → Nat, FsP s.heap.size b L xs T s := by
  have hs := flat_of_before _ hgv
  have tw : ∀ {w : Cond}, w ∈ tables_1 → w.before #[Value.ref b] s = true := fun h => hts _ (List.mem_append_right _ h)
  have hA : ∀ a : Nat, a < s.heap.size → ¬ (fun q => s.heap.size ≤ q) a := fun a ha h => absurd (show s.heap.size ≤ a from h) (Nat.not_le.mpr ha)
  obtain ⟨adK, adV, hS, hK⟩ := st_strings hgv
  obtain ⟨tn, _, _, _, hn, -⟩ := Cond.exactly_spec (args := #[Value.ref b]) (first := s) (o := none) (s := s) (idx := []) (t := Term.string RX7 291) (cls := "java/lang/String") (hs _ (List.mem_of_getElem? (i := 111) (by decide +kernel)))
  have hf := va_Zqof (A := fun q => s.heap.size ≤ q) (C := RJ3) (n := "SIOOBE_FORMATTER") (d := "Ljava/util/function/BiFunction;") (tw (bt2 (List.mem_of_getElem? (i := 170) (by decide +kernel)))) (tw (bt1 (List.mem_of_getElem? (i := 12) (by decide +kernel)))) (hs _ (List.mem_of_getElem? (i := 5) (by decide +kernel))) hA
  have hf2 : ∃ tf zf : Nat, va_Z RJ3 "SIOOBE_FORMATTER" "Ljava/util/function/BiFunction;" (if zf = 0 then .null else .ref tf) (fun q => s.heap.size ≤ q) s s.heap := by
    rcases hf with h | ⟨t, h⟩
    · exact ⟨0, 0, h⟩
    · exact ⟨t, 1, h⟩
  obtain ⟨tf, zf, hf2⟩ := hf2
  refine ⟨Tst adK adV tf zf tn, vk_S_cg hS (fun i hi => Tst_K hi) (fun i hi => Tst_V hi), ?_, hf2, ?_, ?_, ?_, ?_, ?_, ?_, ?_, hX, hbl⟩
  · exact va_Zof (tw (bt2 (List.mem_of_getElem? (i := 154) (by decide +kernel)))) (tw (bt1 (List.mem_of_getElem? (i := 10) (by decide +kernel)))) (va_eqt (hs _ (List.mem_of_getElem? (i := 4) (by decide +kernel)))) hA
  · intro q hq
    simp only [stL, List.mem_cons, List.not_mem_nil, or_false] at hq
    rcases hq with rfl | rfl | rfl | rfl | rfl | rfl | rfl | rfl | rfl | rfl | rfl | rfl | rfl | rfl | rfl | rfl
    · exact vk_R.of (A := #[Value.ref b]) (tw (bt2 (List.mem_of_getElem? (i := 140) (by decide +kernel)))) (hK 0 (by decide))
    · exact vk_R.of (A := #[Value.ref b]) (tw (bt2 (List.mem_of_getElem? (i := 209) (by decide +kernel)))) (hK 1 (by decide))
    · exact vk_R.of (A := #[Value.ref b]) (tw (bt2 (List.mem_of_getElem? (i := 210) (by decide +kernel)))) (hK 2 (by decide))
    · exact vk_R.of (A := #[Value.ref b]) (tw (bt2 (List.mem_of_getElem? (i := 211) (by decide +kernel)))) (hK 3 (by decide))
    · exact vk_R.of (A := #[Value.ref b]) (tw (bt2 (List.mem_of_getElem? (i := 212) (by decide +kernel)))) (hK 4 (by decide))
    · exact vk_R.of (A := #[Value.ref b]) (tw (bt2 (List.mem_of_getElem? (i := 213) (by decide +kernel)))) (hK 5 (by decide))
    · exact vk_R.of (A := #[Value.ref b]) (tw (bt2 (List.mem_of_getElem? (i := 214) (by decide +kernel)))) (hK 6 (by decide))
    · exact vk_R.of (A := #[Value.ref b]) (tw (bt2 (List.mem_of_getElem? (i := 215) (by decide +kernel)))) (hK 7 (by decide))
    · obtain ⟨a, _, _, _, ha, -⟩ := Cond.exactly_spec (args := #[Value.ref b]) (first := s) (o := none) (s := s) (idx := []) (t := Term.string RX8 181) (cls := "java/lang/String") (hs _ (List.mem_of_getElem? (i := 135) (by decide +kernel)))
      have e : adK 0 = a := va_eqRf (hs _ (List.mem_of_getElem? (i := 144) (by decide +kernel))) (hK 0 (by decide)) ha
      rw [← e] at ha
      exact vk_R.of (A := #[Value.ref b]) (tw (bt6 (List.mem_of_getElem? (i := 29) (by decide +kernel)))) ha
    · obtain ⟨a, _, _, _, ha, -⟩ := Cond.exactly_spec (args := #[Value.ref b]) (first := s) (o := none) (s := s) (idx := []) (t := Term.string RX8 183) (cls := "java/lang/String") (hs _ (List.mem_of_getElem? (i := 153) (by decide +kernel)))
      have e : adK 1 = a := va_eqRf (hs _ (List.mem_of_getElem? (i := 162) (by decide +kernel))) (hK 1 (by decide)) ha
      rw [← e] at ha
      exact vk_R.of (A := #[Value.ref b]) (tw (bt6 (List.mem_of_getElem? (i := 56) (by decide +kernel)))) ha
    · obtain ⟨a, _, _, _, ha, -⟩ := Cond.exactly_spec (args := #[Value.ref b]) (first := s) (o := none) (s := s) (idx := []) (t := Term.string RX8 184) (cls := "java/lang/String") (hs _ (List.mem_of_getElem? (i := 171) (by decide +kernel)))
      have e : adK 2 = a := va_eqRf (hs _ (List.mem_of_getElem? (i := 179) (by decide +kernel))) (hK 2 (by decide)) ha
      rw [← e] at ha
      exact vk_R.of (A := #[Value.ref b]) (tw (bt6 (List.mem_of_getElem? (i := 57) (by decide +kernel)))) ha
    · obtain ⟨a, _, _, _, ha, -⟩ := Cond.exactly_spec (args := #[Value.ref b]) (first := s) (o := none) (s := s) (idx := []) (t := Term.string RX8 185) (cls := "java/lang/String") (hs _ (List.mem_of_getElem? (i := 188) (by decide +kernel)))
      have e : adK 3 = a := va_eqRf (hs _ (List.mem_of_getElem? (i := 198) (by decide +kernel))) (hK 3 (by decide)) ha
      rw [← e] at ha
      exact vk_R.of (A := #[Value.ref b]) (tw (bt6 (List.mem_of_getElem? (i := 58) (by decide +kernel)))) ha
    · obtain ⟨a, _, _, _, ha, -⟩ := Cond.exactly_spec (args := #[Value.ref b]) (first := s) (o := none) (s := s) (idx := []) (t := Term.string RX8 187) (cls := "java/lang/String") (hs _ (List.mem_of_getElem? (i := 207) (by decide +kernel)))
      have e : adK 4 = a := va_eqRf (hs _ (List.mem_of_getElem? (i := 220) (by decide +kernel))) (hK 4 (by decide)) ha
      rw [← e] at ha
      exact vk_R.of (A := #[Value.ref b]) (tw (bt6 (List.mem_of_getElem? (i := 59) (by decide +kernel)))) ha
    · obtain ⟨a, _, _, _, ha, -⟩ := Cond.exactly_spec (args := #[Value.ref b]) (first := s) (o := none) (s := s) (idx := []) (t := Term.string RX8 189) (cls := "java/lang/String") (hs _ (List.mem_of_getElem? (i := 229) (by decide +kernel)))
      have e : adK 5 = a := va_eqRf (hs _ (List.mem_of_getElem? (i := 242) (by decide +kernel))) (hK 5 (by decide)) ha
      rw [← e] at ha
      exact vk_R.of (A := #[Value.ref b]) (tw (bt6 (List.mem_of_getElem? (i := 60) (by decide +kernel)))) ha
    · obtain ⟨a, _, _, _, ha, -⟩ := Cond.exactly_spec (args := #[Value.ref b]) (first := s) (o := none) (s := s) (idx := []) (t := Term.string RX8 191) (cls := "java/lang/String") (hs _ (List.mem_of_getElem? (i := 251) (by decide +kernel)))
      have e : adK 6 = a := va_eqRf (hs _ (List.mem_of_getElem? (i := 265) (by decide +kernel))) (hK 6 (by decide)) ha
      rw [← e] at ha
      exact vk_R.of (A := #[Value.ref b]) (tw (bt6 (List.mem_of_getElem? (i := 61) (by decide +kernel)))) ha
    · obtain ⟨a, _, _, _, ha, -⟩ := Cond.exactly_spec (args := #[Value.ref b]) (first := s) (o := none) (s := s) (idx := []) (t := Term.string RX8 193) (cls := "java/lang/String") (hs _ (List.mem_of_getElem? (i := 274) (by decide +kernel)))
      have e : adK 7 = a := va_eqRf (hs _ (List.mem_of_getElem? (i := 289) (by decide +kernel))) (hK 7 (by decide)) ha
      rw [← e] at ha
      exact vk_R.of (A := #[Value.ref b]) (tw (bt6 (List.mem_of_getElem? (i := 62) (by decide +kernel)))) ha
  · exact vk_R.of (A := #[Value.ref b]) (tw (bt5 (List.mem_of_getElem? (i := 36) (by decide +kernel)))) hn
  · exact vx_Zqof (tw (bt5 (List.mem_of_getElem? (i := 24) (by decide +kernel)))) (tw (bt1 (List.mem_of_getElem? (i := 16) (by decide +kernel)))) (hs _ (List.mem_of_getElem? (i := 9) (by decide +kernel))) hA
  · exact vx_Zqof (tw (bt5 (List.mem_of_getElem? (i := 26) (by decide +kernel)))) (tw (bt1 (List.mem_of_getElem? (i := 16) (by decide +kernel)))) (hs _ (List.mem_of_getElem? (i := 10) (by decide +kernel))) hA
  · intro w hw
    simp only [nwL, List.mem_cons, List.not_mem_nil, or_false] at hw
    rcases hw with rfl | rfl | rfl | rfl | rfl | rfl | rfl | rfl | rfl
    · exact va_Nw.of rfl (tw (bt1 (List.mem_of_getElem? (i := 30) (by decide +kernel))))
    · exact va_Nw.of rfl (tw (bt1 (List.mem_of_getElem? (i := 155) (by decide +kernel))))
    · exact va_Nw.of rfl (tw (bt2 (List.mem_of_getElem? (i := 28) (by decide +kernel))))
    · exact va_Nw.of rfl (tw (bt2 (List.mem_of_getElem? (i := 67) (by decide +kernel))))
    · exact va_Nw.of rfl (tw (bt1 (List.mem_of_getElem? (i := 87) (by decide +kernel))))
    · exact va_Nw.of rfl (tw (bt1 (List.mem_of_getElem? (i := 163) (by decide +kernel))))
    · exact va_Nw.of rfl (tw (bt2 (List.mem_of_getElem? (i := 34) (by decide +kernel))))
    · exact va_Nw.of rfl (tw (bt2 (List.mem_of_getElem? (i := 228) (by decide +kernel))))
    · exact va_Nw.of rfl (tw (bt2 (List.mem_of_getElem? (i := 231) (by decide +kernel))))
  · intro w hw
    simp only [nxB, List.mem_cons, List.not_mem_nil, or_false] at hw
    rcases hw with rfl | rfl | rfl | rfl
    · exact va_Nw.of rfl (tw (bt4 (List.mem_of_getElem? (i := 239) (by decide +kernel))))
    · exact va_Nw.of rfl (tw (bt5 (List.mem_of_getElem? (i := 1) (by decide +kernel))))
    · exact va_Nw.of rfl (tw (bt5 (List.mem_of_getElem? (i := 3) (by decide +kernel))))
    · exact va_Nw.of rfl (tw (bt5 (List.mem_of_getElem? (i := 5) (by decide +kernel))))
  · exact va_AO.of (A := #[Value.ref b]) (tw (bt1 (List.mem_of_getElem? (i := 85) (by decide +kernel))))
theorem arr_K {args : Array Value} {s : State} {ty : FieldType} (hb : ∀ C, ty ≠ .object C) (h : (Cond.arrayClass ty).before args s = true) : ∃ cA : ClassId, ArrOfT s cA ty ∧ va_RA s cA ty := by
  obtain ⟨c, k, comp, h1, h2, h3⟩ := Cond.arrayClass_spec h
  refine ⟨c, fun n z => ⟨fun k h => (by cases h), k, h2, comp, h3⟩, ?_⟩
  cases ty with
  | object C => exact absurd rfl (hb C)
  | _ => exact h1
theorem arr_O {args : Array Value} {s : State} {C : String} (h : (Cond.arrayOver (.object C)).before args s = true) : ∃ cA : ClassId, ArrOfT s cA (.object C) ∧ va_RA s cA (.object C) := by
  obtain ⟨comp, c, k, h1, h2, h3, h4, h5⟩ := Cond.arrayOver_spec h
  exact ⟨c, fun n z => ⟨fun k h => (by cases h), k, h3, comp, h4⟩, k, comp, h3, h4, h1, h5⟩
theorem st_classes {args : Array Value} {s : State} (hts : ∀ w ∈ lw_tbl, w.before args s = true) : ∃ (D : va_G) (C : Nat → ClassId), va_K D vwCl [(C 0, .byte), (C 1, .int), (C 2, .long), (C 3, .boolean), (C 4, .object RX0)] s := by
  have htb : ∀ w ∈ BIG, w.before args s = true := fun w hw => hts w (List.mem_filter.mp hw).1
  have tw : ∀ {w : Cond}, w ∈ tables_1 → w.before args s = true := fun h => hts _ (List.mem_append_right _ h)
  obtain ⟨c0, i0, k0⟩ := u_known (C := RX0) (T := TX0) (N := 3) (n := 3) htb ly0 (tw (bt1 (List.mem_of_getElem? (i := 86) (by decide +kernel))))
  obtain ⟨c1, i1, k1⟩ := u_known (C := RX1) (T := TX1) (N := 14) (n := 14) htb ly1 (tw (bt1 (List.mem_of_getElem? (i := 79) (by decide +kernel))))
  obtain ⟨c2, i2, k2⟩ := u_known (C := RX2) (T := TX2) (N := 8) (n := 8) htb ly2 (tw (bt1 (List.mem_of_getElem? (i := 154) (by decide +kernel))))
  obtain ⟨c3, i3, k3⟩ := u_known (C := RX3) (T := TX3) (N := 13) (n := 13) htb ly3 (tw (bt1 (List.mem_of_getElem? (i := 162) (by decide +kernel))))
  obtain ⟨c4, i4, k4⟩ := u_known (C := RX4) (T := TX4) (N := 13) (n := 13) htb ly4 (tw (bt1 (List.mem_of_getElem? (i := 29) (by decide +kernel))))
  obtain ⟨c5, i5, k5⟩ := u_known (C := RX5) (T := TX5) (N := 2) (n := 2) htb ly5 (tw (bt2 (List.mem_of_getElem? (i := 33) (by decide +kernel))))
  obtain ⟨c6, i6, k6⟩ := u_known (C := RX6) (T := TX6) (N := 5) (n := 5) htb ly6 (tw (bt2 (List.mem_of_getElem? (i := 27) (by decide +kernel))))
  obtain ⟨c7, i7, k7⟩ := u_known (C := RX7) (T := TX7) (N := 12) (n := 12) htb ly7 (tw (bt1 (List.mem_of_getElem? (i := 21) (by decide +kernel))))
  obtain ⟨c8, i8, k8⟩ := u_known (C := RX8) (T := TX8) (N := 52) (n := 52) htb ly8 (tw (bt5 (List.mem_of_getElem? (i := 63) (by decide +kernel))))
  obtain ⟨a0, r0⟩ := arr_K (ty := .byte) (fun C h => by cases h) (tw (bt1 (List.mem_of_getElem? (i := 76) (by decide +kernel))))
  obtain ⟨a1, r1⟩ := arr_K (ty := .int) (fun C h => by cases h) (tw (bt1 (List.mem_of_getElem? (i := 77) (by decide +kernel))))
  obtain ⟨a2, r2⟩ := arr_K (ty := .long) (fun C h => by cases h) (tw (bt1 (List.mem_of_getElem? (i := 105) (by decide +kernel))))
  obtain ⟨a3, r3⟩ := arr_K (ty := .boolean) (fun C h => by cases h) (tw (bt5 (List.mem_of_getElem? (i := 225) (by decide +kernel))))
  obtain ⟨a4, r4⟩ := arr_O (C := RX0) (tw (bt1 (List.mem_of_getElem? (i := 85) (by decide +kernel))))
  refine ⟨(fun k => [c0, c1, c2, c3, c4, c5, c6, c7, c8].getD k c0, fun k => [i0, i1, i2, i3, i4, i5, i6, i7, i8].getD k i0), fun k => [a0, a1, a2, a3, a4].getD k a0, fun k q hq => ?_, fun k q hq => ?_⟩
  · match k, hq with
    | 0, hq => cases hq; exact k0
    | 1, hq => cases hq; exact k1
    | 2, hq => cases hq; exact k2
    | 3, hq => cases hq; exact k3
    | 4, hq => cases hq; exact k4
    | 5, hq => cases hq; exact k5
    | 6, hq => cases hq; exact k6
    | 7, hq => cases hq; exact k7
    | 8, hq => cases hq; exact k8
    | k + 9, hq => cases hq
  · match k, hq with
    | 0, hq => cases hq; exact r0
    | 1, hq => cases hq; exact r1
    | 2, hq => cases hq; exact r2
    | 3, hq => cases hq; exact r3
    | 4, hq => cases hq; exact r4
    | k + 5, hq => cases hq
