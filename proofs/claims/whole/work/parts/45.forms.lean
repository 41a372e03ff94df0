theorem iand_k : ∀ n : Fin 64, (iand ((n : Nat) : Int) 1 = 0 ↔ ((n : Nat) : Int) % 2 = 0) ∧ (iand ((n : Nat) : Int) 2 = 0 ↔ ((n : Nat) : Int) / 2 % 2 = 0) ∧ (iand ((n : Nat) : Int) 4 = 0 ↔ ((n : Nat) : Int) / 4 % 2 = 0) ∧ (iand ((n : Nat) : Int) 8 = 0 ↔ ((n : Nat) : Int) / 8 % 2 = 0) ∧ (iand ((n : Nat) : Int) 16 = 0 ↔ ((n : Nat) : Int) / 16 % 2 = 0) ∧ (iand ((n : Nat) : Int) 32 = 0 ↔ ((n : Nat) : Int) / 32 % 2 = 0) := by decide +kernel
theorem b2_0 {c : Prop} [Decidable c] {k : Int} (hk : k ≠ 0) : b2 c k = 0 ↔ ¬ c := by
  unfold b2
  split
  · rename_i h; exact ⟨fun q => absurd q hk, fun q => absurd h q⟩
  · rename_i h; exact ⟨fun _ => h, fun _ => rfl⟩
theorem wyS_bd (T U : FV) : 0 ≤ wyS T U ∧ wyS T U < 64 := by
  unfold wyS
  have h1 := b2_c (c := flo T < 0) (k := 1)
  have h2 := b2_c (c := 0 ≤ fhi T) (k := 2)
  have h3 := b2_c (c := w64 (flo T + flo U) < 0) (k := 4)
  have h4 := b2_c (c := 0 ≤ w64 (fhi T + fhi U)) (k := 8)
  have h5 := b2_c (c := max (flo T) (w64 (-(fhi U))) ≤ min (fhi T) (-1)) (k := 16)
  have h6 := b2_c (c := max (flo T) 0 ≤ min (fhi T) (w64 (w64 (-(flo U)) - 1))) (k := 32)
  omega
theorem bits6 {a1 a2 a3 a4 a5 a6 w : Int} (h1 : a1 = 0 ∨ a1 = 1) (h2 : a2 = 0 ∨ a2 = 2) (h3 : a3 = 0 ∨ a3 = 4) (h4 : a4 = 0 ∨ a4 = 8) (h5 : a5 = 0 ∨ a5 = 16) (h6 : a6 = 0 ∨ a6 = 32) (hw : w = a1 + a2 + a3 + a4 + a5 + a6) : (w % 2 = 0 ↔ a1 = 0) ∧ (w / 2 % 2 = 0 ↔ a2 = 0) ∧ (w / 4 % 2 = 0 ↔ a3 = 0) ∧ (w / 8 % 2 = 0 ↔ a4 = 0) ∧ (w / 16 % 2 = 0 ↔ a5 = 0) ∧ (w / 32 % 2 = 0 ↔ a6 = 0) := by
  subst hw
  rcases h1 with rfl | rfl <;> rcases h2 with rfl | rfl <;> rcases h3 with rfl | rfl <;> rcases h4 with rfl | rfl <;> rcases h5 with rfl | rfl <;> rcases h6 with rfl | rfl <;> decide
theorem wy_bits (T U : FV) : (iand (wyS T U) 1 = 0 ↔ ¬ flo T < 0) ∧ (iand (wyS T U) 2 = 0 ↔ ¬ 0 ≤ fhi T) ∧ (iand (wyS T U) 4 = 0 ↔ ¬ w64 (flo T + flo U) < 0) ∧ (iand (wyS T U) 8 = 0 ↔ ¬ 0 ≤ w64 (fhi T + fhi U)) ∧ (iand (wyS T U) 16 = 0 ↔ ¬ max (flo T) (w64 (-(fhi U))) ≤ min (fhi T) (-1)) ∧ (iand (wyS T U) 32 = 0 ↔ ¬ max (flo T) 0 ≤ min (fhi T) (w64 (w64 (-(flo U)) - 1))) := by
  have hb := wyS_bd T U
  have hk := iand_k ⟨(wyS T U).toNat, by omega⟩
  have e : (((⟨(wyS T U).toNat, by omega⟩ : Fin 64) : Nat) : Int) = wyS T U := Int.toNat_of_nonneg hb.1
  rw [e] at hk
  have hq := bits6 (b2_c (c := flo T < 0)) (b2_c (c := 0 ≤ fhi T)) (b2_c (c := w64 (flo T + flo U) < 0)) (b2_c (c := 0 ≤ w64 (fhi T + fhi U))) (b2_c (c := max (flo T) (w64 (-(fhi U))) ≤ min (fhi T) (-1))) (b2_c (c := max (flo T) 0 ≤ min (fhi T) (w64 (w64 (-(flo U)) - 1)))) (show wyS T U = _ from rfl)
  obtain ⟨k1, k2, k3, k4, k5, k6⟩ := hk
  obtain ⟨q1, q2, q3, q4, q5, q6⟩ := hq
  exact ⟨k1.trans (q1.trans (b2_0 (by decide))), k2.trans (q2.trans (b2_0 (by decide))), k3.trans (q3.trans (b2_0 (by decide))), k4.trans (q4.trans (b2_0 (by decide))), k5.trans (q5.trans (b2_0 (by decide))), k6.trans (q6.trans (b2_0 (by decide)))⟩
def sel {α : Type} (x : Int) (a : α) : List α := if x = 0 then [] else [a]
def pkV (T A B : FV) : List FV := sel (b2 (flo T < 0) 1) A ++ sel (b2 (0 ≤ fhi T) 1) B
def pkD (T U A B DA DB : FV) : List FV := sel (b2 (flo T < 0 ∧ w64 (flo T + flo U) < 0) 1) DA ++ sel (b2 (0 ≤ fhi T ∧ 0 ≤ w64 (fhi T + fhi U)) 1) DB ++ sel (b2 (max (flo T) (w64 (-(fhi U))) ≤ min (fhi T) (-1)) 1) (fad (fad B 1 DB) (-1) A) ++ sel (b2 (max (flo T) 0 ≤ min (fhi T) (w64 (w64 (-(flo U)) - 1))) 1) (fad (fad A 1 DA) (-1) B)
theorem sel_app {α : Type} {x : Int} {cs : List α} {j : α} : (if x = 0 then cs else cs ++ [j]) = cs ++ sel x j := by
  unfold sel
  split
  · rw [List.append_nil]
  · rfl
theorem sel_map {α β : Type} {x : Int} {j : α} {g : α → β} : (sel x j).map g = sel x (g j) := by
  unfold sel
  split <;> rfl
theorem sel_len {α : Type} {x : Int} {j : α} : (sel x j).length ≤ 1 := by
  unfold sel
  split <;> simp
theorem sel_mem {α : Type} {x : Int} {j c : α} (h : c ∈ sel x j) : c = j := by
  unfold sel at h
  split at h
  · cases h
  · exact List.mem_singleton.mp h
theorem Cs.zero {M : Mm} {N : Nn} {f : Nat} : Cs (wr M (7, f, 0) 13 0) N f [] := ⟨wr_eq _ _ _ _, fun i j h => by simp at h⟩
set_option maxRecDepth 100000 in
set_option maxHeartbeats 4000000 in
theorem ct_X1_reckonPick {E : Ev} {M : Mm} {N : Nn} {f p : Nat} {φ : Nat → FV} {ν : Nu} {ma : Int → Int} {v : Int} (hF : FS M f φ ν ma) (h0 : 0 ≤ v) (h1 : v < 15) (ho0 : pgC M p 8 (4 * v + 0) < v) (ho1 : pgC M p 8 (4 * v + 1) < v) (ho2 : pgC M p 8 (4 * v + 2) < v) (ho3 : pgC M p 8 (4 * v + 3) < v) (hlt : ν.1 + 2 ≤ 63) : Ct E yX1_reckonPick cX1_reckonPick 8 (none) (rmH 5) [vr (7, f, 0), vr (18, p, 0), vi v] M N (qv (fun M1 N1 => (∃ φ1, FS M1 f φ1 (jnN (jnN ν (pkV (fad (vA (pgC M p) φ v 0) (-1) (vA (pgC M p) φ v 1)) (vA (pgC M p) φ v 2) (vA (pgC M p) φ v 3)) v) (pkD (fad (vA (pgC M p) φ v 0) (-1) (vA (pgC M p) φ v 1)) (fad (dA (pgC M p) φ v 0) (-1) (dA (pgC M p) φ v 1)) (vA (pgC M p) φ v 2) (vA (pgC M p) φ v 3) (dA (pgC M p) φ v 2) (dA (pgC M p) φ v 3)) v) (maU ma v (wyS (fad (vA (pgC M p) φ v 0) (-1) (vA (pgC M p) φ v 1)) (fad (dA (pgC M p) φ v 0) (-1) (dA (pgC M p) φ v 1)))) ∧ St v.toNat φ φ1 (jnF ν (pkV (fad (vA (pgC M p) φ v 0) (-1) (vA (pgC M p) φ v 1)) (vA (pgC M p) φ v 2) (vA (pgC M p) φ v 3))) (jnF (jnN ν (pkV (fad (vA (pgC M p) φ v 0) (-1) (vA (pgC M p) φ v 1)) (vA (pgC M p) φ v 2) (vA (pgC M p) φ v 3)) v) (pkD (fad (vA (pgC M p) φ v 0) (-1) (vA (pgC M p) φ v 1)) (fad (dA (pgC M p) φ v 0) (-1) (dA (pgC M p) φ v 1)) (vA (pgC M p) φ v 2) (vA (pgC M p) φ v 3) (dA (pgC M p) φ v 2) (dA (pgC M p) φ v 3)))) ∧ Ff f M M1 ∧ Nf f N N1)) := by
  refine ct_of (own := RX1) (L0 := [vr (7, f, 0), vr (18, p, 0), vi v, vn, vn, vn, vn, vn]) rfl (by decide +kernel) rfl rfl ?_
  have hv2 := vj_ok h0 h1 (by decide) (by decide) ho2
  have hv3 := vj_ok h0 h1 (by decide) (by decide) ho3
  have hd2 := dj_ok h0 h1 ho2
  have hd3 := dj_ok h0 h1 ho3
  have hdx2 : dj (pgC M p) v 2 < 35 := by unfold dj; split <;> omega
  have hdx3 : dj (pgC M p) v 3 < 35 := by unfold dj; split <;> omega
  refine go_aload_n dX1_reckonPick_0 rfl rfl ?_
  refine go_aload_n dX1_reckonPick_1 rfl rfl ?_
  refine go_iload_n dX1_reckonPick_2 rfl ?_
  refine v1_164 dX1_reckonPick_3 rfl ⟨rfl, rfl⟩ ⟨rfl, rfl⟩ (ct_X1_waysOf hF h0 h1 ho0 ho1) (fun r1 M1 N1 hr1 hq1 => ?_)
  obtain ⟨e1, ⟨φ1, hF1, hlo1⟩, hf1, rfl⟩ := hq1
  subst e1
  have hwb := wy_bits (fad (vA (pgC M p) φ v 0) (-1) (vA (pgC M p) φ v 1)) (fad (dA (pgC M p) φ v 0) (-1) (dA (pgC M p) φ v 1))
  generalize hTe : (fad (vA (pgC M p) φ v 0) (-1) (vA (pgC M p) φ v 1)) = T at *
  generalize hUe : (fad (dA (pgC M p) φ v 0) (-1) (dA (pgC M p) φ v 1)) = U at *
  obtain ⟨hb1, hb2, hb3, hb4, hb5, hb6⟩ := hwb
  refine go_ist3 dX1_reckonPick_6 rfl rfl ?_
  refine go_aload_n dX1_reckonPick_7 rfl rfl ?_
  refine g1_9 dX1_reckonPick_8 ?_
  refine go_iload_n dX1_reckonPick_11 rfl ?_
  refine go_iload_n dX1_reckonPick_12 rfl ?_
  refine go_iast dX1_reckonPick_13 rfl (by omega) (by omega) ?_
  refine go_nmM (fun M2 eM2 => ?_)
  have hF2 : FS M2 f φ1 ν (maU ma v (wyS T U)) := by rw [eM2]; exact hF1.may
  have hf2 : Ff f M M2 := by rw [eM2]; exact ff_may hf1
  have hp2 : pgC M2 p = pgC M p := hf2.pg
  refine go_aload_n dX1_reckonPick_14 rfl rfl ?_
  refine go_aload_n dX1_reckonPick_15 rfl rfl ?_
  refine go_iload_n dX1_reckonPick_16 rfl ?_
  refine go_iconst dX1_reckonPick_17 (R32_lit rfl) ?_
  refine v1_146 dX1_reckonPick_18 rfl ⟨rfl, rfl⟩ ⟨rfl, rfl⟩ (ct_X1_valueIn hF2 h0 h1 (by decide) (by decide) (by rw [hp2]; omega)) (fun r3 M3 N3 hq3 => ?_)
  obtain ⟨e3, ⟨φ3, hF3, hlo3, hj3, hx3⟩, hf3, rfl⟩ := hq3
  rw [hp2] at e3 hj3
  subst e3
  rw [vA_congr h0 h1 ho2 (fun j a _ _ => hlo1 j a)] at hj3
  have hf3 := hf2.tr hf3
  have hp3 : pgC M3 p = pgC M p := hf3.pg
  have k3 : ∀ j, j < 30 → φ3 j = φ j := fun j a => (hlo3 j a).trans (hlo1 j a)
  refine go_ast4 dX1_reckonPick_21 rfl rfl rfl ?_
  refine go_aload_n dX1_reckonPick_23 rfl rfl ?_
  refine go_aload_n dX1_reckonPick_24 rfl rfl ?_
  refine go_iload_n dX1_reckonPick_25 rfl ?_
  refine go_iconst dX1_reckonPick_26 (R32_lit rfl) ?_
  refine v1_146 dX1_reckonPick_27 rfl ⟨rfl, rfl⟩ ⟨rfl, rfl⟩ (ct_X1_valueIn hF3 h0 h1 (by decide) (by decide) (by rw [hp3]; omega)) (fun r4 M4 N4 hq4 => ?_)
  obtain ⟨e4, ⟨φ4, hF4, hlo4, hj4, hx4⟩, hf4, rfl⟩ := hq4
  rw [hp3] at e4 hj4
  subst e4
  rw [vA_congr h0 h1 ho3 (fun j a _ _ => k3 j a)] at hj4
  have hf4 := hf3.tr hf4
  have hp4 : pgC M4 p = pgC M p := hf4.pg
  have k4 : ∀ j, j < 30 → φ4 j = φ j := fun j a => (hlo4 j a).trans (k3 j a)
  have hA4 : φ4 (vj (pgC M p) v 2) = vA (pgC M p) φ v 2 := by
    rw [← hj3]
    refine hx4 _ ?_
    unfold vj
    split
    · omega
    · decide
  refine go_ast5 dX1_reckonPick_30 rfl rfl rfl ?_
  refine go_aload_n dX1_reckonPick_32 rfl rfl ?_
  refine go_aload_n dX1_reckonPick_33 rfl rfl ?_
  refine go_iload_n dX1_reckonPick_34 rfl ?_
  refine go_iconst dX1_reckonPick_35 (R32_lit rfl) ?_
  refine v1_154 dX1_reckonPick_36 rfl ⟨rfl, rfl⟩ ⟨rfl, rfl⟩ (ct_X1_driftIn hF4 h0 h1 (by decide) (by decide) (by rw [hp4]; omega)) (fun r5 M5 N5 hq5 => ?_)
  obtain ⟨e5, hj5, rfl, rfl⟩ := hq5
  rw [hp4] at e5 hj5
  subst e5
  rw [dA_congr h0 h1 ho2 (fun j a _ _ => k4 j a)] at hj5
  refine go_ast6 dX1_reckonPick_39 rfl rfl rfl ?_
  refine go_aload_n dX1_reckonPick_41 rfl rfl ?_
  refine go_aload_n dX1_reckonPick_42 rfl rfl ?_
  refine go_iload_n dX1_reckonPick_43 rfl ?_
  refine go_iconst dX1_reckonPick_44 (R32_lit rfl) ?_
  refine v1_154 dX1_reckonPick_45 rfl ⟨rfl, rfl⟩ ⟨rfl, rfl⟩ (ct_X1_driftIn hF4 h0 h1 (by decide) (by decide) (by rw [hp4]; omega)) (fun r6 M6 N6 hq6 => ?_)
  obtain ⟨e6, hj6, rfl, rfl⟩ := hq6
  rw [hp4] at e6 hj6
  subst e6
  rw [dA_congr h0 h1 ho3 (fun j a _ _ => k4 j a)] at hj6
  generalize hAe : vA (pgC M p) φ v 2 = A at *
  generalize hBe : vA (pgC M p) φ v 3 = B at *
  generalize hDAe : dA (pgC M p) φ v 2 = DA at *
  generalize hDBe : dA (pgC M p) φ v 3 = DB at *
  generalize hn2 : vj (pgC M p) v 2 = n2 at *
  generalize hn3 : vj (pgC M p) v 3 = n3 at *
  generalize hm2 : dj (pgC M p) v 2 = m2 at *
  generalize hm3 : dj (pgC M p) v 3 = m3 at *
  refine go_ast7 dX1_reckonPick_48 rfl rfl rfl ?_
  refine go_aload_n dX1_reckonPick_50 rfl rfl ?_
  refine go_iconst dX1_reckonPick_51 (R32_lit rfl) ?_
  refine p1_168 dX1_reckonPick_52 ?_
  refine go_nmM (fun M7 eM7 => ?_)
  have hF7 : FS M7 f φ4 ν (maU ma v (wyS T U)) := by rw [eM7]; exact hF4.k13
  have hf7 : Ff f M M7 := by rw [eM7]; exact ff_k13 hf4
  have hC7 : Cs M7 N f [] := by rw [eM7]; exact Cs.zero
  refine go_aload_n dX1_reckonPick_55 rfl rfl ?_
  refine go_iload_n dX1_reckonPick_56 rfl ?_
  refine go_iconst dX1_reckonPick_57 (R32_lit rfl) ?_
  refine go_iand dX1_reckonPick_58 ?_
  have jn67 : ∀ x : Int, x = (b2 (flo T < 0) 1) → Go E RX1 cX1_reckonPick 8 (none) (rmH 5) 0 0 (zM E (qv (fun M1 N1 => (∃ φ1, FS M1 f φ1 (jnN (jnN ν (pkV T A B) v) (pkD T U A B DA DB) v) (maU ma v (wyS T U)) ∧ St v.toNat φ φ1 (jnF ν (pkV T A B)) (jnF (jnN ν (pkV T A B) v) (pkD T U A B DA DB))) ∧ Ff f M M1 ∧ Nf f N N1))) 67 [vr (7, f, 0), vr (18, p, 0), vi v, vi (wyS T U), vr (15, f, n2), vr (15, f, n3), vr (15, f, m2), vr (15, f, m3)] [vi x, vr (7, f, 0)] M7 N := by
    intro x ex
    refine go_aload dX1_reckonPick_67 rfl rfl ?_
    refine v1_171 dX1_reckonPick_69 rfl ⟨rfl, rfl⟩ ⟨rfl, rfl⟩ (ct_X1_offer hF7 hC7 (by decide)) (fun M8 N8 hq8 => ?_)
    obtain ⟨hF8, hf8, hC8, hN8⟩ := hq8
    rw [sel_app, ex] at hC8
    have hf8 := hf7.tr hf8
    have hN8 : Nf f N N8 :=  hN8
    clear ex
    refine go_aload_n dX1_reckonPick_72 rfl rfl ?_
    refine go_iload_n dX1_reckonPick_73 rfl ?_
    refine go_iconst dX1_reckonPick_74 (R32_lit rfl) ?_
    refine go_iand dX1_reckonPick_75 ?_
    have jn84 : ∀ x : Int, x = (b2 (0 ≤ fhi T) 1) → Go E RX1 cX1_reckonPick 8 (none) (rmH 5) 0 0 (zM E (qv (fun M1 N1 => (∃ φ1, FS M1 f φ1 (jnN (jnN ν (pkV T A B) v) (pkD T U A B DA DB) v) (maU ma v (wyS T U)) ∧ St v.toNat φ φ1 (jnF ν (pkV T A B)) (jnF (jnN ν (pkV T A B) v) (pkD T U A B DA DB))) ∧ Ff f M M1 ∧ Nf f N N1))) 84 [vr (7, f, 0), vr (18, p, 0), vi v, vi (wyS T U), vr (15, f, n2), vr (15, f, n3), vr (15, f, m2), vr (15, f, m3)] [vi x, vr (7, f, 0)] M8 N8 := by
      intro x ex
      refine go_aload dX1_reckonPick_84 rfl rfl ?_
      refine v1_171 dX1_reckonPick_86 rfl ⟨rfl, rfl⟩ ⟨rfl, rfl⟩ (ct_X1_offer hF8 hC8 (by have := sel_len (x := b2 (flo T < 0) 1) (j := n2); simp only [List.length_append, List.length_nil]; omega)) (fun M9 N9 hq9 => ?_)
      obtain ⟨hF9, hf9, hC9, hN9⟩ := hq9
      rw [sel_app, ex] at hC9
      have hf9 := hf8.tr hf9
      have hN9 : Nf f N N9 := hN8.tr hN9
      clear ex
      have hl9 : ([] ++ sel (b2 (flo T < 0) 1) n2 ++ sel (b2 (0 ≤ fhi T) 1) n3).length ≤ 4 := by
        have := sel_len (x := b2 (flo T < 0) 1) (j := n2)
        have := sel_len (x := b2 (0 ≤ fhi T) 1) (j := n3)
        simp only [List.length_append, List.length_nil]
        omega
      have hm9 : ∀ c ∈ [] ++ sel (b2 (flo T < 0) 1) n2 ++ sel (b2 (0 ≤ fhi T) 1) n3, c < 39 ∧ c ≠ v.toNat := by
        intro c hcm
        rcases List.mem_append.mp hcm with q | q
        · rw [List.nil_append] at q
          rw [sel_mem q]; omega
        · rw [sel_mem q]; omega
      refine go_aload_n dX1_reckonPick_89 rfl rfl ?_
      refine go_aload_n dX1_reckonPick_90 rfl rfl ?_
      refine g1_23 dX1_reckonPick_91 ?_
      refine go_iload_n dX1_reckonPick_94 rfl ?_
      refine go_aaldV dX1_reckonPick_95 (by omega) (by omega) ?_
      refine go_iload_n dX1_reckonPick_96 rfl ?_
      refine v1_175 dX1_reckonPick_97 rfl ⟨rfl, rfl⟩ ⟨rfl, rfl⟩ (ct_X1_join hF9 hC9 hl9 (by omega) (by omega) hm9 (by omega)) (fun M10 N10 hq10 => ?_)
      obtain ⟨hF10, hf10, rfl⟩ := hq10
      rw [List.nil_append, List.map_append, sel_map, sel_map, hA4, hj4] at hF10
      have hf10 := hf9.tr hf10
      obtain ⟨φ10, e10⟩ : ∃ z, z = va_up φ4 v.toNat (jnF ν (pkV T A B)) := ⟨_, rfl⟩
      have hF10 : FS M10 f φ10 (jnN ν (pkV T A B) v) (maU ma v (wyS T U)) := by rw [e10]; exact hF10
      have v10 : φ10 v.toNat = jnF ν (pkV T A B) := by rw [e10, up_eq]
      have k10 : ∀ j, j ≠ v.toNat → φ10 j = φ4 j := fun j a => by rw [e10, up_ne a]
      have bn : (jnN ν (pkV T A B) v).1 ≤ ν.1 + 1 := by
        unfold jnN
        split
        · omega
        · omega
        · exact bnu_le.2
      refine go_aload_n dX1_reckonPick_100 rfl rfl ?_
      refine go_iconst dX1_reckonPick_101 (R32_lit rfl) ?_
      refine p1_168 dX1_reckonPick_102 ?_
      refine go_nmM (fun M11 eM11 => ?_)
      have hF11 : FS M11 f φ10 (jnN ν (pkV T A B) v) (maU ma v (wyS T U)) := by rw [eM11]; exact hF10.k13
      have hf11 : Ff f M M11 := by rw [eM11]; exact ff_k13 hf10
      have hC11 : Cs M11 N9 f [] := by rw [eM11]; exact Cs.zero
      refine go_aload_n dX1_reckonPick_105 rfl rfl ?_
      refine go_iload_n dX1_reckonPick_106 rfl ?_
      refine go_iconst dX1_reckonPick_107 (R32_lit rfl) ?_
      refine go_iand dX1_reckonPick_108 ?_
      have jn123 : ∀ x : Int, x = (b2 (flo T < 0 ∧ w64 (flo T + flo U) < 0) 1) → Go E RX1 cX1_reckonPick 8 (none) (rmH 5) 0 0 (zM E (qv (fun M1 N1 => (∃ φ1, FS M1 f φ1 (jnN (jnN ν (pkV T A B) v) (pkD T U A B DA DB) v) (maU ma v (wyS T U)) ∧ St v.toNat φ φ1 (jnF ν (pkV T A B)) (jnF (jnN ν (pkV T A B) v) (pkD T U A B DA DB))) ∧ Ff f M M1 ∧ Nf f N N1))) 123 [vr (7, f, 0), vr (18, p, 0), vi v, vi (wyS T U), vr (15, f, n2), vr (15, f, n3), vr (15, f, m2), vr (15, f, m3)] [vi x, vr (7, f, 0)] M11 N9 := by
        intro x ex
        refine go_aload dX1_reckonPick_123 rfl rfl ?_
        refine v1_171 dX1_reckonPick_125 rfl ⟨rfl, rfl⟩ ⟨rfl, rfl⟩ (ct_X1_offer hF11 hC11 (by decide)) (fun M12 N12 hq12 => ?_)
        obtain ⟨hF12, hf12, hC12, hN12⟩ := hq12
        rw [sel_app, ex] at hC12
        have hf12 := hf11.tr hf12
        have hN12 : Nf f N N12 := hN9.tr hN12
        clear ex
        refine go_aload_n dX1_reckonPick_128 rfl rfl ?_
        refine go_iload_n dX1_reckonPick_129 rfl ?_
        refine go_iconst dX1_reckonPick_130 (R32_lit rfl) ?_
        refine go_iand dX1_reckonPick_131 ?_
        have jn147 : ∀ x : Int, x = (b2 (0 ≤ fhi T ∧ 0 ≤ w64 (fhi T + fhi U)) 1) → Go E RX1 cX1_reckonPick 8 (none) (rmH 5) 0 0 (zM E (qv (fun M1 N1 => (∃ φ1, FS M1 f φ1 (jnN (jnN ν (pkV T A B) v) (pkD T U A B DA DB) v) (maU ma v (wyS T U)) ∧ St v.toNat φ φ1 (jnF ν (pkV T A B)) (jnF (jnN ν (pkV T A B) v) (pkD T U A B DA DB))) ∧ Ff f M M1 ∧ Nf f N N1))) 147 [vr (7, f, 0), vr (18, p, 0), vi v, vi (wyS T U), vr (15, f, n2), vr (15, f, n3), vr (15, f, m2), vr (15, f, m3)] [vi x, vr (7, f, 0)] M12 N12 := by
          intro x ex
          refine go_aload dX1_reckonPick_147 rfl rfl ?_
          refine v1_171 dX1_reckonPick_149 rfl ⟨rfl, rfl⟩ ⟨rfl, rfl⟩ (ct_X1_offer hF12 hC12 (by have := sel_len (x := b2 (flo T < 0 ∧ w64 (flo T + flo U) < 0) 1) (j := m2); simp only [List.length_append, List.length_nil]; omega)) (fun M13 N13 hq13 => ?_)
          obtain ⟨hF13, hf13, hC13, hN13⟩ := hq13
          rw [sel_app, ex] at hC13
          have hf13 := hf12.tr hf13
          have hN13 : Nf f N N13 := hN12.tr hN13
          clear ex
          refine go_aload_n dX1_reckonPick_152 rfl rfl ?_
          refine go_aload_n dX1_reckonPick_153 rfl rfl ?_
          refine g1_44 dX1_reckonPick_154 ?_
          refine go_aload dX1_reckonPick_157 rfl rfl ?_
          refine go_aload dX1_reckonPick_159 rfl rfl ?_
          refine go_aload dX1_reckonPick_161 rfl rfl ?_
          refine v1_179 dX1_reckonPick_163 rfl ⟨rfl, rfl⟩ ⟨rfl, rfl⟩ (ct_X1_becomeLeap hF13 (j := 37) (by decide) (by omega) (by omega) (by omega) (by decide) (by omega) (by omega) (by omega)) (fun M14 N14 hq14 => ?_)
          obtain ⟨hF14, hf14, h14c, rfl⟩ := hq14
          have hf14 := hf13.tr hf14
          have hC14 := hC13.keep h14c
          rw [k10 n3 hv3.2.1, k10 m3 hd3.2.1, k10 n2 hv2.2.1, hj4, hj6, hA4] at hF14
          obtain ⟨φ14, e14⟩ : ∃ z, z = va_up φ10 37 (fad (fad B 1 DB) (-1) A) := ⟨_, rfl⟩
          rw [← e14] at hF14
          have v14 : φ14 v.toNat = jnF ν (pkV T A B) := by rw [e14, up_ne (by omega), v10]
          have u14 : φ14 37 = fad (fad B 1 DB) (-1) A := by rw [e14, up_eq]
          have k14 : ∀ j, j ≠ v.toNat → j ≠ 37 → φ14 j = φ4 j := fun j a b => by rw [e14, up_ne b, k10 j a]
          refine go_aload_n dX1_reckonPick_166 rfl rfl ?_
          refine go_iload_n dX1_reckonPick_167 rfl ?_
          refine go_bipush dX1_reckonPick_168 ⟨by decide, by decide⟩ ?_
          refine go_iand dX1_reckonPick_170 ?_
          have jn179 : ∀ x : Int, x = (b2 (max (flo T) (w64 (-(fhi U))) ≤ min (fhi T) (-1)) 1) → Go E RX1 cX1_reckonPick 8 (none) (rmH 5) 0 0 (zM E (qv (fun M1 N1 => (∃ φ1, FS M1 f φ1 (jnN (jnN ν (pkV T A B) v) (pkD T U A B DA DB) v) (maU ma v (wyS T U)) ∧ St v.toNat φ φ1 (jnF ν (pkV T A B)) (jnF (jnN ν (pkV T A B) v) (pkD T U A B DA DB))) ∧ Ff f M M1 ∧ Nf f N N1))) 179 [vr (7, f, 0), vr (18, p, 0), vi v, vi (wyS T U), vr (15, f, n2), vr (15, f, n3), vr (15, f, m2), vr (15, f, m3)] [vi x, vr (7, f, 0)] M14 N13 := by
            intro x ex
            refine go_aload_n dX1_reckonPick_179 rfl rfl ?_
            refine g1_44 dX1_reckonPick_180 ?_
            refine v1_171 dX1_reckonPick_183 rfl ⟨rfl, rfl⟩ ⟨rfl, rfl⟩ (ct_X1_offer hF14 hC14 (by have := sel_len (x := b2 (flo T < 0 ∧ w64 (flo T + flo U) < 0) 1) (j := m2); have := sel_len (x := b2 (0 ≤ fhi T ∧ 0 ≤ w64 (fhi T + fhi U)) 1) (j := m3); simp only [List.length_append, List.length_nil]; omega)) (fun M15 N15 hq15 => ?_)
            obtain ⟨hF15, hf15, hC15, hN15⟩ := hq15
            rw [sel_app, ex] at hC15
            have hf15 := hf14.tr hf15
            have hN15 : Nf f N N15 := hN13.tr hN15
            clear ex
            refine go_aload_n dX1_reckonPick_186 rfl rfl ?_
            refine go_aload_n dX1_reckonPick_187 rfl rfl ?_
            refine g1_47 dX1_reckonPick_188 ?_
            refine go_aload dX1_reckonPick_191 rfl rfl ?_
            refine go_aload dX1_reckonPick_193 rfl rfl ?_
            refine go_aload dX1_reckonPick_195 rfl rfl ?_
            refine v1_179 dX1_reckonPick_197 rfl ⟨rfl, rfl⟩ ⟨rfl, rfl⟩ (ct_X1_becomeLeap hF15 (j := 38) (by decide) (by omega) (by omega) (by omega) (by decide) (by omega) (by omega) (by omega)) (fun M16 N16 hq16 => ?_)
            obtain ⟨hF16, hf16, h16c, rfl⟩ := hq16
            have hf16 := hf15.tr hf16
            have hC16 := hC15.keep h16c
            rw [k14 n2 hv2.2.1 (by omega), k14 m2 hd2.2.1 (by omega), k14 n3 hv3.2.1 (by omega), hA4, hj5, hj4] at hF16
            obtain ⟨φ16, e16⟩ : ∃ z, z = va_up φ14 38 (fad (fad A 1 DA) (-1) B) := ⟨_, rfl⟩
            rw [← e16] at hF16
            have v16 : φ16 v.toNat = jnF ν (pkV T A B) := by rw [e16, up_ne (by omega), v14]
            have u16 : φ16 37 = fad (fad B 1 DB) (-1) A := by rw [e16, up_ne (by decide), u14]
            have w16 : φ16 38 = fad (fad A 1 DA) (-1) B := by rw [e16, up_eq]
            have k16 : ∀ j, j ≠ v.toNat → j ≠ 37 → j ≠ 38 → φ16 j = φ4 j := fun j a b c => by rw [e16, up_ne c, k14 j a b]
            refine go_aload_n dX1_reckonPick_200 rfl rfl ?_
            refine go_iload_n dX1_reckonPick_201 rfl ?_
            refine go_bipush dX1_reckonPick_202 ⟨by decide, by decide⟩ ?_
            refine go_iand dX1_reckonPick_204 ?_
            have jn213 : ∀ x : Int, x = (b2 (max (flo T) 0 ≤ min (fhi T) (w64 (w64 (-(flo U)) - 1))) 1) → Go E RX1 cX1_reckonPick 8 (none) (rmH 5) 0 0 (zM E (qv (fun M1 N1 => (∃ φ1, FS M1 f φ1 (jnN (jnN ν (pkV T A B) v) (pkD T U A B DA DB) v) (maU ma v (wyS T U)) ∧ St v.toNat φ φ1 (jnF ν (pkV T A B)) (jnF (jnN ν (pkV T A B) v) (pkD T U A B DA DB))) ∧ Ff f M M1 ∧ Nf f N N1))) 213 [vr (7, f, 0), vr (18, p, 0), vi v, vi (wyS T U), vr (15, f, n2), vr (15, f, n3), vr (15, f, m2), vr (15, f, m3)] [vi x, vr (7, f, 0)] M16 N15 := by
              intro x ex
              refine go_aload_n dX1_reckonPick_213 rfl rfl ?_
              refine g1_47 dX1_reckonPick_214 ?_
              refine v1_171 dX1_reckonPick_217 rfl ⟨rfl, rfl⟩ ⟨rfl, rfl⟩ (ct_X1_offer hF16 hC16 (by have := sel_len (x := b2 (flo T < 0 ∧ w64 (flo T + flo U) < 0) 1) (j := m2); have := sel_len (x := b2 (0 ≤ fhi T ∧ 0 ≤ w64 (fhi T + fhi U)) 1) (j := m3); have := sel_len (x := b2 (max (flo T) (w64 (-(fhi U))) ≤ min (fhi T) (-1)) 1) (j := 37); simp only [List.length_append, List.length_nil]; omega)) (fun M17 N17 hq17 => ?_)
              obtain ⟨hF17, hf17, hC17, hN17⟩ := hq17
              rw [sel_app, ex] at hC17
              have hf17 := hf16.tr hf17
              have hN17 : Nf f N N17 := hN15.tr hN17
              clear ex
              have hl17 : ([] ++ sel (b2 (flo T < 0 ∧ w64 (flo T + flo U) < 0) 1) m2 ++ sel (b2 (0 ≤ fhi T ∧ 0 ≤ w64 (fhi T + fhi U)) 1) m3 ++ sel (b2 (max (flo T) (w64 (-(fhi U))) ≤ min (fhi T) (-1)) 1) 37 ++ sel (b2 (max (flo T) 0 ≤ min (fhi T) (w64 (w64 (-(flo U)) - 1))) 1) 38).length ≤ 4 := by
                have := sel_len (x := b2 (flo T < 0 ∧ w64 (flo T + flo U) < 0) 1) (j := m2)
                have := sel_len (x := b2 (0 ≤ fhi T ∧ 0 ≤ w64 (fhi T + fhi U)) 1) (j := m3)
                have := sel_len (x := b2 (max (flo T) (w64 (-(fhi U))) ≤ min (fhi T) (-1)) 1) (j := 37)
                have := sel_len (x := b2 (max (flo T) 0 ≤ min (fhi T) (w64 (w64 (-(flo U)) - 1))) 1) (j := 38)
                simp only [List.length_append, List.length_nil]
                omega
              have hm17 : ∀ c ∈ [] ++ sel (b2 (flo T < 0 ∧ w64 (flo T + flo U) < 0) 1) m2 ++ sel (b2 (0 ≤ fhi T ∧ 0 ≤ w64 (fhi T + fhi U)) 1) m3 ++ sel (b2 (max (flo T) (w64 (-(fhi U))) ≤ min (fhi T) (-1)) 1) 37 ++ sel (b2 (max (flo T) 0 ≤ min (fhi T) (w64 (w64 (-(flo U)) - 1))) 1) 38, c < 39 ∧ c ≠ 15 + v.toNat := by
                intro c hcm
                rcases List.mem_append.mp hcm with q | q
                · rcases List.mem_append.mp q with q | q
                  · rcases List.mem_append.mp q with q | q
                    · rw [List.nil_append] at q
                      rw [sel_mem q]; omega
                    · rw [sel_mem q]; omega
                  · rw [sel_mem q]; omega
                · rw [sel_mem q]; omega
              refine go_aload_n dX1_reckonPick_220 rfl rfl ?_
              refine go_aload_n dX1_reckonPick_221 rfl rfl ?_
              refine g1_27 dX1_reckonPick_222 ?_
              refine go_iload_n dX1_reckonPick_225 rfl ?_
              refine go_aaldD dX1_reckonPick_226 (by omega) (by omega) ?_
              refine go_iload_n dX1_reckonPick_227 rfl ?_
              refine v1_175 dX1_reckonPick_228 rfl ⟨rfl, rfl⟩ ⟨rfl, rfl⟩ (ct_X1_join hF17 hC17 hl17 (by omega) (by omega) hm17 (by omega)) (fun M18 N18 hq18 => ?_)
              refine go_retv dX1_reckonPick_231 ?_
              obtain ⟨hF18, hf18, rfl⟩ := hq18
              rw [List.nil_append, List.map_append, List.map_append, List.map_append, sel_map, sel_map, sel_map, sel_map, k16 m2 hd2.2.1 (by omega) (by omega), k16 m3 hd3.2.1 (by omega) (by omega), u16, w16, hj5, hj6] at hF18
              refine ⟨⟨_, hF18, ?_, up_eq, fun j a b c => ?_⟩, hf17.tr hf18, hN17⟩
              · rw [up_ne (by omega), v16]
              · rw [up_ne c, k16 j b (by omega) (by omega), k4 j a]
            refine go_if_eq (tgt := 212) dX1_reckonPick_205 rfl (fun h205 => ?_) (fun h205 => ?_)
            · refine go_iconst dX1_reckonPick_212 (R32_lit rfl) ?_
              exact jn213 _ (by unfold b2; first | rw [if_neg (hb6.mp h205)] | rw [if_pos (Classical.byContradiction (fun q => h205 (hb6.mpr q)))])
            · refine go_iconst dX1_reckonPick_208 (R32_lit rfl) ?_
              refine go_goto (tgt := 213) dX1_reckonPick_209 rfl ?_
              exact jn213 _ (by unfold b2; first | rw [if_neg (hb6.mp h205)] | rw [if_pos (Classical.byContradiction (fun q => h205 (hb6.mpr q)))])
          refine go_if_eq (tgt := 178) dX1_reckonPick_171 rfl (fun h171 => ?_) (fun h171 => ?_)
          · refine go_iconst dX1_reckonPick_178 (R32_lit rfl) ?_
            exact jn179 _ (by unfold b2; first | rw [if_neg (hb5.mp h171)] | rw [if_pos (Classical.byContradiction (fun q => h171 (hb5.mpr q)))])
          · refine go_iconst dX1_reckonPick_174 (R32_lit rfl) ?_
            refine go_goto (tgt := 179) dX1_reckonPick_175 rfl ?_
            exact jn179 _ (by unfold b2; first | rw [if_neg (hb5.mp h171)] | rw [if_pos (Classical.byContradiction (fun q => h171 (hb5.mpr q)))])
        refine go_if_eq (tgt := 146) dX1_reckonPick_132 rfl (fun h132 => ?_) (fun h132 => ?_)
        · refine go_iconst dX1_reckonPick_146 (R32_lit rfl) ?_
          exact jn147 _ (by unfold b2; first | rw [if_neg (fun q => hb2.mp h132 q.1)] | rw [if_neg (fun q => hb4.mp h139 q.2)] | rw [if_pos ⟨Classical.byContradiction (fun q => h132 (hb2.mpr q)), Classical.byContradiction (fun q => h139 (hb4.mpr q))⟩])
        · refine go_iload_n dX1_reckonPick_135 rfl ?_
          refine go_bipush dX1_reckonPick_136 ⟨by decide, by decide⟩ ?_
          refine go_iand dX1_reckonPick_138 ?_
          refine go_if_eq (tgt := 146) dX1_reckonPick_139 rfl (fun h139 => ?_) (fun h139 => ?_)
          · refine go_iconst dX1_reckonPick_146 (R32_lit rfl) ?_
            exact jn147 _ (by unfold b2; first | rw [if_neg (fun q => hb2.mp h132 q.1)] | rw [if_neg (fun q => hb4.mp h139 q.2)] | rw [if_pos ⟨Classical.byContradiction (fun q => h132 (hb2.mpr q)), Classical.byContradiction (fun q => h139 (hb4.mpr q))⟩])
          · refine go_iconst dX1_reckonPick_142 (R32_lit rfl) ?_
            refine go_goto (tgt := 147) dX1_reckonPick_143 rfl ?_
            exact jn147 _ (by unfold b2; first | rw [if_neg (fun q => hb2.mp h132 q.1)] | rw [if_neg (fun q => hb4.mp h139 q.2)] | rw [if_pos ⟨Classical.byContradiction (fun q => h132 (hb2.mpr q)), Classical.byContradiction (fun q => h139 (hb4.mpr q))⟩])
      refine go_if_eq (tgt := 122) dX1_reckonPick_109 rfl (fun h109 => ?_) (fun h109 => ?_)
      · refine go_iconst dX1_reckonPick_122 (R32_lit rfl) ?_
        exact jn123 _ (by unfold b2; first | rw [if_neg (fun q => hb1.mp h109 q.1)] | rw [if_neg (fun q => hb3.mp h115 q.2)] | rw [if_pos ⟨Classical.byContradiction (fun q => h109 (hb1.mpr q)), Classical.byContradiction (fun q => h115 (hb3.mpr q))⟩])
      · refine go_iload_n dX1_reckonPick_112 rfl ?_
        refine go_iconst dX1_reckonPick_113 (R32_lit rfl) ?_
        refine go_iand dX1_reckonPick_114 ?_
        refine go_if_eq (tgt := 122) dX1_reckonPick_115 rfl (fun h115 => ?_) (fun h115 => ?_)
        · refine go_iconst dX1_reckonPick_122 (R32_lit rfl) ?_
          exact jn123 _ (by unfold b2; first | rw [if_neg (fun q => hb1.mp h109 q.1)] | rw [if_neg (fun q => hb3.mp h115 q.2)] | rw [if_pos ⟨Classical.byContradiction (fun q => h109 (hb1.mpr q)), Classical.byContradiction (fun q => h115 (hb3.mpr q))⟩])
        · refine go_iconst dX1_reckonPick_118 (R32_lit rfl) ?_
          refine go_goto (tgt := 123) dX1_reckonPick_119 rfl ?_
          exact jn123 _ (by unfold b2; first | rw [if_neg (fun q => hb1.mp h109 q.1)] | rw [if_neg (fun q => hb3.mp h115 q.2)] | rw [if_pos ⟨Classical.byContradiction (fun q => h109 (hb1.mpr q)), Classical.byContradiction (fun q => h115 (hb3.mpr q))⟩])
    refine go_if_eq (tgt := 83) dX1_reckonPick_76 rfl (fun h76 => ?_) (fun h76 => ?_)
    · refine go_iconst dX1_reckonPick_83 (R32_lit rfl) ?_
      exact jn84 _ (by unfold b2; first | rw [if_neg (hb2.mp h76)] | rw [if_pos (Classical.byContradiction (fun q => h76 (hb2.mpr q)))])
    · refine go_iconst dX1_reckonPick_79 (R32_lit rfl) ?_
      refine go_goto (tgt := 84) dX1_reckonPick_80 rfl ?_
      exact jn84 _ (by unfold b2; first | rw [if_neg (hb2.mp h76)] | rw [if_pos (Classical.byContradiction (fun q => h76 (hb2.mpr q)))])
  refine go_if_eq (tgt := 66) dX1_reckonPick_59 rfl (fun h59 => ?_) (fun h59 => ?_)
  · refine go_iconst dX1_reckonPick_66 (R32_lit rfl) ?_
    exact jn67 _ (by unfold b2; first | rw [if_neg (hb1.mp h59)] | rw [if_pos (Classical.byContradiction (fun q => h59 (hb1.mpr q)))])
  · refine go_iconst dX1_reckonPick_62 (R32_lit rfl) ?_
    refine go_goto (tgt := 67) dX1_reckonPick_63 rfl ?_
    exact jn67 _ (by unfold b2; first | rw [if_neg (hb1.mp h59)] | rw [if_pos (Classical.byContradiction (fun q => h59 (hb1.mpr q)))])
