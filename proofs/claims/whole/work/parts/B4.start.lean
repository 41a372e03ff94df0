/-! what the constructors leave -/
def mZ0 : Mm := fun _ _ => 0
def fZ0 : Rfn := fun _ _ => (0, 0, 0)
def mS0 : Mm := mX8 (mX7 mZ0)
def fS0 : Rfn := fX8 (fX7 fZ0)
def nS0 : Nn := fun n k => if n = (3, 0, 0) ∧ k = 6 then (18, 1, 0) else if n = (3, 0, 0) ∧ k = 7 then (18, 2, 0) else (0, 0, 0)
theorem fS0_b : nmL.all (fun n => !(Nat.blt (shp n).1 20 || Nat.beq (shp n).1 24) || (List.range (shp n).2).all (fun j => Nat.ble (slk n j) 1 || decide (fS0 n j = rel nS0 n j))) = true := by decide +kernel
theorem fS0_ok {n : Nm} (hn : n ∈ nmL) (h : Nat.blt (shp n).1 20 = true ∨ Nat.beq (shp n).1 24 = true) {j : Nat} (hj : j < (shp n).2) (h2 : 2 ≤ slk n j) : fS0 n j = rel nS0 n j := by
  have h1 := List.all_eq_true.mp fS0_b n hn
  have e : (Nat.blt (shp n).1 20 || Nat.beq (shp n).1 24) = true := by
    rcases h with h | h
    · rw [h]; rfl
    · rw [h]; exact Bool.or_true _
  rw [e] at h1
  have h3 := List.all_eq_true.mp h1 j (List.mem_range.mpr hj)
  rcases Bool.or_eq_true_iff.mp h3 with h4 | h4
  · have := Nat.le_of_ble_eq_true h4; omega
  · exact of_decide_eq_true h4
theorem va_atF {E : Ev} {M : Mm} {N : Nn} {F : Rfn} {n : Nm} {a : Nat} {H : Heap} (h : (Nat.blt (shp n).1 20 = true ∨ Nat.beq (shp n).1 24 = true) → ∀ j, j < (shp n).2 → 2 ≤ slk n j → F n j = rel N n j) (g : va_at (eD E) vwCl (a, clF E M F n) H) : va_at (eD E) vwCl (a, cel E M N n) H := by
  cases h1 : Nat.blt (shp n).1 20 with
  | true =>
    have e : cel E M N n = clF E M F n := by
      unfold cel clF
      rw [h1]
      show Sum.inr ((shp n).1, _) = Sum.inr ((shp n).1, _)
      refine congrArg (fun l => Sum.inr ((shp n).1, l)) (List.map_congr_left (fun j hj => ?_))
      have hj := List.mem_range.mp hj
      unfold fvl fvF
      by_cases z0 : slk n j = 0
      · rw [z0]; rfl
      · by_cases z1 : slk n j = 1
        · rw [z1]; rfl
        · rw [beqF z0, beqF z1, h (Or.inl h1) j hj (by omega)]
    rw [e]; exact g
  | false =>
    cases h2 : Nat.beq (shp n).1 22 with
    | true =>
      have e : cel E M N n = clF E M F n := by
        unfold cel clF
        rw [h1, h2]; rfl
      rw [e]; exact g
    | false =>
      cases h3 : Nat.beq (shp n).1 24 with
      | true =>
        have hs : ∀ j, 2 ≤ slk n j := fun j => by
          unfold slk
          show 2 ≤ (bif Nat.blt (shp n).1 20 then fty (shp n).1 j else bif Nat.beq (shp n).1 22 then 1 else bif Nat.beq (shp n).1 24 then (bif Nat.beq n.1 14 then 3 else 2) else 0)
          rw [h1, h2, h3]
          cases Nat.beq n.1 14 with
          | false => exact Nat.le_refl 2
          | true => exact Nat.le_succ 2
        have e1 : clF E M F n = .inl (eC E 4, (shp n).2, .inr (.inr (.inr (.inr (fun j => orf E (F n j)))))) := by
          unfold clF
          rw [h1, h2, h3]; rfl
        have e2 : cel E M N n = .inl (eC E 4, (shp n).2, .inr (.inr (.inr (.inr (fun j => orf E (rel N n j)))))) := by
          unfold cel
          rw [h1, h2, h3]; rfl
        rw [e1] at g
        rw [e2]
        have g : H[a]? = some (vp_cell (eC E 4) ((shp n).2, .inr (.inr (.inr (.inr (fun j => orf E (F n j))))))) := g
        show H[a]? = some (vp_cell (eC E 4) ((shp n).2, .inr (.inr (.inr (.inr (fun j => orf E (rel N n j)))))))
        rw [g, vp_cell_q, vp_cell_q]
        exact congrArg some (arrV_cg (fun j hj => by rw [h (Or.inr h3) j hj (hs j)]))
      | false =>
        have e : cel E M N n = clF E M F n := by
          unfold cel clF
          rw [h1, h2, h3]; rfl
        rw [e]; exact g
theorem mS0_v (n : Nm) (k : Int) : mS0 n k = 0 ∨ mS0 n k = -1 := by
  unfold mS0 mX8 mX7 mZ0 wr
  repeat' split
  all_goals first | exact Or.inl rfl | exact Or.inr rfl
theorem nS0_ok (n : Nm) (k : Int) : okR (nS0 n k) := by
  unfold nS0
  split
  · exact Or.inr (by decide +kernel)
  · split
    · exact Or.inr (by decide +kernel)
    · exact Or.inl (by decide)
theorem nmL_len : nmL.length = 253 := by decide +kernel
/-- all is made: the layer of the methods begins -/
theorem Hd_start {E : Ev} {H : Heap} (h : HdF E 253 mS0 fS0 H) : Hd E mS0 nS0 H := by
  refine ⟨fun i q hq => ?_, fun n k => ⟨fun _ => ?_, fun _ => ?_, nS0_ok n k⟩⟩
  · unfold wsl at hq
    rw [List.getElem?_map] at hq
    cases hx : nmL[i]? with
    | none => rw [hx] at hq; cases hq
    | some n =>
      rw [hx] at hq
      cases hq
      have hmem : n ∈ nmL := List.mem_of_getElem? hx
      have hi : i < 253 := by rw [← nmL_len]; exact (List.getElem?_eq_some_iff.mp hx).1
      have g := h.1 i _ (wsF_at hx hi)
      show va_at (eD E) vwCl (eB E + adr n, cel E mS0 nS0 n) H
      rw [← nm_idx hx]
      exact va_atF (fun h1 j hj h2 => fS0_ok hmem h1 hj h2) g
  · have := mS0_v n k
    unfold R32; omega
  · have := mS0_v n k
    unfold R64; omega
