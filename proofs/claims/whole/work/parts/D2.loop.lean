/-! the law: doubtful, and the loop -/
theorem Iv_o {p q : Nat} {M M1 : Mm} {N : Nn} (hI : IvS p q M N) (h : ∀ n : Nm, n ≠ (31, 0, 0) → M1 n = M n) : IvS p q M1 N := by
  obtain ⟨hP, hW, hFm, hF1, hQR, hAi, hT⟩ := hI
  have e : pgC M1 p = pgC M p := pgC_cg (h _ (nm_ne1 (by decide))) (fun x => h _ (nm_ne1 (by decide)))
  refine ⟨hP, by rw [e]; exact hW, ?_, ?_, ?_, ?_, ?_⟩
  · rw [e]
    exact Fm_fr hFm (fun a b a0 a1 => h _ (nm_ne1 (by omega)))
  · exact hF1.fr (fun a b a0 a1 => h _ (nm_ne1 (by omega)))
  · rw [e]
    obtain ⟨a, b, c, d, f⟩ := hQR
    exact ⟨by rw [h _ (nm_ne1 (by decide))]; exact a, b, c, by rw [h _ (nm_ne1 (by decide))]; exact d, f.k (h _ (nm_ne1 (by decide))) (h _ (nm_ne1 (by decide))) (h _ (nm_ne1 (by decide))) (h _ (nm_ne1 (by decide))) (h _ (nm_ne1 (by decide))) (h _ (nm_ne1 (by decide)))⟩
  · rw [e, h (5, 0, 0) (nm_ne1 (by decide)), h (30, 0, 13) (nm_ne1 (by decide))]
    exact hAi
  · unfold IvT tpR at hT ⊢
    rw [h (3, 0, 0) (nm_ne1 (by decide)), h (29, 0, 0) (nm_ne1 (by decide)), h (4, 0, 0) (nm_ne1 (by decide)), h (30, 0, 4) (nm_ne1 (by decide))]
    exact hT
theorem QR_k31 {S : Pg} {M M1 : Mm} (h : QR S M) (g : ∀ n : Nm, n ≠ (31, 0, 0) → M1 n = M n) : QR S M1 := by
  obtain ⟨a, b, c, d, e⟩ := h
  exact ⟨by rw [g _ (nm_ne1 (by decide))]; exact a, b, c, by rw [g _ (nm_ne1 (by decide))]; exact d, e.k (g _ (nm_ne1 (by decide))) (g _ (nm_ne1 (by decide))) (g _ (nm_ne1 (by decide))) (g _ (nm_ne1 (by decide))) (g _ (nm_ne1 (by decide))) (g _ (nm_ne1 (by decide)))⟩
set_option maxRecDepth 100000 in
set_option maxHeartbeats 4000000 in
theorem lc_wk {E : Ev} {M : Mm} {N : Nn} {i r y : Int} {cl sl pc : Nat} {st : List Vv} (k : Go E RL cL_law 7 ((some .boolean)) room_1 cl sl (zLw E) pc [vr (1, 0, 0), vr (3, 0, 0), vr (29, 0, 0), vr (31, 0, 0), vi i, vn, vn] st M N) : Go E RL cL_law 7 ((some .boolean)) room_1 cl sl (zLw E) pc [vr (1, 0, 0), vr (3, 0, 0), vr (29, 0, 0), vr (31, 0, 0), vi i, vi r, vi y] st M N := by
  refine go_wkL (fun j v hj hv => ?_) k
  match j, hj with
  | 0, hj => exact hj
  | 1, hj => exact hj
  | 2, hj => exact hj
  | 3, hj => exact hj
  | 4, hj => exact hj
  | 5, hj => cases hj; exact absurd rfl hv
  | 6, hj => cases hj; exact absurd rfl hv
  | j + 7, hj => cases hj
set_option maxRecDepth 100000 in
set_option maxHeartbeats 4000000 in
theorem lc_doubtful {E : Ev} {M : Mm} {N : Nn} {L0 : Nat} {xs : Nat → Int32} {i : Int} {cl sl : Nat} (hX : EC E L0 xs) (i0 : 0 ≤ i) (i1 : i + 6 ≤ L0) (hEX : EX E) (hcl : cl + 1 ≤ room_1.cells ∧ sl + 6 ≤ room_1.slots) (hI : Iv M N) (hK : ∀ (M1 : Mm) (N1 : Nn), Iv M1 N1 → Go E RL cL_law 7 ((some .boolean)) room_1 (cl + 1) (sl + 6) (zLw E) 1299 [vr (1, 0, 0), vr (3, 0, 0), vr (29, 0, 0), vr (31, 0, 0), vi i, vn, vn] [] M1 N1) : Go E RL cL_law 7 ((some .boolean)) room_1 cl sl (zLw E) 1217 [vr (1, 0, 0), vr (3, 0, 0), vr (29, 0, 0), vr (31, 0, 0), vi i, vn, vn] [] M N := by
  have x3 := hX.2.2
  obtain ⟨p, q, hI⟩ := hI
  have hC := hI.1.1
  have hW := hI.2.1
  have hQ := hI.2.2.2.2.1
  obtain ⟨φ, ma, fs, rk⟩ := hI.2.2.1
  have hma : ∀ v, 0 ≤ v → v < pgC M p 11 0 → pgC M p 0 v = 3 → ma v = (sK (pgC M p) (wB (-1)) (pgC M p 11 0).toNat).2.2 v := fun v v0 v1 _ => (Fm_ag (M := M) hW rk v0 v1).2.2
  have hdu : duR (pgC M p) ma (sc xs (i + 1)) (pgC M p 11 0).toNat 0 0 = duR (pgC M p) (sK (pgC M p) (wB (-1)) (pgC M p 11 0).toNat).2.2 (sc xs (i + 1)) (pgC M p 11 0).toNat 0 0 := duR_cg hma (pgC M p 11 0).toNat 0 0 (by omega) (by have := hW.1; omega)
  have hcl2 : Nat.ble (cl + 1) room_1.cells = true ∧ Nat.ble (sl + 6) room_1.slots = true := ⟨Nat.ble_eq.mpr hcl.1, Nat.ble_eq.mpr hcl.2⟩
  refine go_aload_n dL_law_1217 rfl rfl ?_
  refine go_aload_n dL_law_1218 rfl rfl ?_
  refine go_iload dL_law_1219 rfl ?_
  refine go_iconst dL_law_1221 (R32_lit rfl) ?_
  refine go_iaddc dL_law_1222 ⟨by omega, by omega⟩ ?_
  refine go_scr hX dL_law_1223 (by omega) (by omega) ?_
  refine go_aload_n dL_law_1224 rfl rfl ?_
  refine go_callD dL_law_1225 rfl ⟨by decide, by decide⟩ hcl (ct_L_doubtful hEX hC hW.1 hW.2.1 fs (fun v v0 v1 v3 => by rw [hma v v0 v1 v3]; exact sK_m _ _ _ _)) (fun r M1 N1 hr hq => ?_)
  have hd1 : ∃ x, duR (pgC M p) (sK (pgC M p) (wB (-1)) (pgC M p 11 0).toNat).2.2 (sc xs (i + 1)) (pgC M p 11 0).toNat 0 0 = (r, x) ∧ (r = 0 ∧ M1 (31, 0, 0) 0 = x ∨ r = 1) ∧ (∀ n : Nm, n ≠ (31, 0, 0) → M1 n = M n) ∧ N = N1 := by
    rw [hdu] at hq
    rcases hq with ⟨x, h1, rfl, rfl, rfl⟩ | ⟨h1, rfl, rfl, rfl⟩
    · exact ⟨x, h1, Or.inl ⟨rfl, wr_eq _ _ _ _⟩, fun n hn => wr_nf hn, rfl⟩
    · exact ⟨0, h1, Or.inr rfl, fun _ _ => rfl, rfl⟩
  obtain ⟨x, hx, hrx, hm, rfl⟩ := hd1
  clear hq
  have hI1 := Iv_o hI hm
  have hQ1 : QR (pgC M p) M1 := QR_k31 hQ hm
  refine go_ist5 dL_law_1228 rfl rfl ?_
  refine go_aload_n dL_law_1230 rfl rfl ?_
  refine go_aload_n dL_law_1231 rfl rfl ?_
  refine go_iload dL_law_1232 rfl ?_
  refine go_iconst dL_law_1234 (R32_lit rfl) ?_
  refine go_iaddc dL_law_1235 ⟨by omega, by omega⟩ ?_
  refine go_scr hX dL_law_1236 (by omega) (by omega) ?_
  refine vL_143 dL_law_1237 rfl ⟨rfl, rfl⟩ hcl2 (ct_X8_doubtful hQ1 (Or.inl hW) hW.wa hW.ne) (fun y M2 N2 hy hq2 => ?_)
  obtain ⟨b1, b2, b3, rfl⟩ := hq2
  rw [hx] at b1 b2
  have b1 : y = x := b1
  have b2 : M2 (29, 0, 0) 0 = r := b2
  have hI2 : Iv M2 N := ⟨p, q, Iv_k hI1 b3 (by decide) (by decide)⟩
  refine go_ist6 dL_law_1240 rfl rfl ?_
  refine go_aload_n dL_law_1242 rfl rfl ?_
  refine vL_144 dL_law_1243 rfl ⟨rfl, rfl⟩ hcl2 ct_X8_thrown (fun r3 M3 N3 hr3 hq3 => ?_)
  obtain ⟨c1, rfl, rfl⟩ := hq3
  refine go_iload dL_law_1246 rfl ?_
  refine go_icmp_eq (tgt := 1253) dL_law_1248 rfl (fun _ => ?_) (fun z => absurd (c1.trans b2) z)
  refine go_iload dL_law_1253 rfl ?_
  refine go_if_ne (tgt := 1270) dL_law_1255 rfl (fun z => ?_) (fun z => ?_)
  · refine go_goto (tgt := 1299) dL_law_1270 rfl ?_
    exact lc_wk (hK M2 N hI2)
  · refine go_aload_n dL_law_1258 rfl rfl ?_
    refine go_iconst dL_law_1259 (R32_lit rfl) ?_
    refine go_lald (len := 1) dL_law_1260 rfl (by decide) (by decide) ?_
    refine go_iload dL_law_1261 rfl ?_
    refine go_i2l dL_law_1263 ?_
    have e31 : M2 (31, 0, 0) 0 = y := by
      rw [b3.1 (31, 0, 0) (nm_ne1 (by decide)) (fun f _ => nm_ne1 (by decide)), b1]
      rcases hrx with h | h
      · exact h.2
      · exact absurd (h.symm.trans z) (by decide)
    refine go_lcmp_eq (tgt := 1270) dL_law_1264 dL_law_1265 rfl (fun _ => ?_) (fun z => absurd e31 z)
    refine go_goto (tgt := 1299) dL_law_1270 rfl ?_
    exact lc_wk (hK M2 N hI2)
set_option maxRecDepth 100000 in
set_option maxHeartbeats 4000000 in
theorem lw_loop {E : Ev} {L0 : Nat} {xs : Nat → Int32} (hX : EC E L0 xs) (hN : EN E) (hE : ES E) (hEX : EX E) : ∀ (n : Nat) (i : Int) (cl sl : Nat) (M : Mm) (N : Nn), 0 ≤ i → (L0 : Int) ≤ i + n → cl + n ≤ 4000 → sl + 6 * n ≤ 60000 → i ≤ 4000 → Iv M N → Go E RL cL_law 7 ((some .boolean)) room_1 cl sl (zLw E) 23 [vr (1, 0, 0), vr (3, 0, 0), vr (29, 0, 0), vr (31, 0, 0), vi i, vn, vn] [] M N := by
  intro n
  induction n using Nat.strongRecOn with
  | ind n ih =>
  intro i cl sl M N i0 hn hc hs i4 hI
  have x3 := hX.2.2
  have rc : room_1.cells = 601024 := rfl
  have rs : room_1.slots = 7293034 := rfl
  refine go_iload dL_law_23 rfl ?_
  refine go_aload_n dL_law_25 rfl rfl ?_
  refine go_sclen hX dL_law_26 ?_
  refine go_bipush dL_law_27 ⟨by decide, by decide⟩ ?_
  refine go_isubc dL_law_29 ⟨by omega, by omega⟩ ?_
  refine go_icmp_gt (tgt := 1305) dL_law_30 rfl (fun h30 => ?_) (fun h30 => ?_)
  · refine go_iconst dL_law_1305 (R32_lit rfl) ?_
    exact go_lawend dL_law_1306 (by omega) (by omega)
  · have i6 : i + 6 ≤ L0 := by omega
    have hcl : Nat.ble cl room_1.cells = true ∧ Nat.ble sl room_1.slots = true := ⟨Nat.ble_eq.mpr (by omega), Nat.ble_eq.mpr (by omega)⟩
    have hnx : ∀ (c' s' : Nat) (M1 : Mm) (N1 : Nn), c' ≤ cl + 1 → s' ≤ sl + 6 → Iv M1 N1 → Go E RL cL_law 7 ((some .boolean)) room_1 c' s' (zLw E) 1299 [vr (1, 0, 0), vr (3, 0, 0), vr (29, 0, 0), vr (31, 0, 0), vi i, vn, vn] [] M1 N1 := by
      intro c' s' M1 N1 hc' hs' hI1
      refine go_iinc4c dL_law_1299 rfl rfl ⟨by omega, by omega⟩ ?_
      refine go_goto (tgt := 23) dL_law_1302 rfl ?_
      exact ih (n - 6) (by omega) (i + 6) c' s' M1 N1 (by omega) (by omega) (by omega) (by omega) (by omega) hI1
    have hK : ∀ (M1 : Mm) (N1 : Nn), Iv M1 N1 → Go E RL cL_law 7 ((some .boolean)) room_1 cl sl (zLw E) 1299 [vr (1, 0, 0), vr (3, 0, 0), vr (29, 0, 0), vr (31, 0, 0), vi i, vn, vn] [] M1 N1 := fun M1 N1 h => hnx cl sl M1 N1 (by omega) (by omega) h
    refine go_aload_n dL_law_33 rfl rfl ?_
    refine go_iload dL_law_34 rfl ?_
    refine go_scr hX dL_law_36 (by omega) (by omega) ?_
    refine go_bipush dL_law_37 ⟨by decide, by decide⟩ ?_
    refine go_iand dL_law_39 ?_
    rw [iand_31 (show R32 (sc xs i) from R32_of _)]
    refine go_nmi (fun y hy => ?_)
    have hy0 : 0 ≤ y ∧ y < 32 := by omega
    clear hy ih
    have hz : y = 0 ∨ y = 1 ∨ y = 2 ∨ y = 3 ∨ y = 4 ∨ y = 5 ∨ y = 6 ∨ y = 7 ∨ y = 8 ∨ y = 9 ∨ y = 10 ∨ y = 11 ∨ y = 12 ∨ y = 13 ∨ y = 14 ∨ y = 15 ∨ y = 16 ∨ y = 17 ∨ y = 18 ∨ y = 19 ∨ y = 20 ∨ y = 21 ∨ y = 22 ∨ y = 23 ∨ y = 24 ∨ y = 25 ∨ y = 26 ∨ y = 27 ∨ y = 28 ∨ y = 29 ∨ 30 ≤ y := by omega
    rcases hz with rfl | rfl | rfl | rfl | rfl | rfl | rfl | rfl | rfl | rfl | rfl | rfl | rfl | rfl | rfl | rfl | rfl | rfl | rfl | rfl | rfl | rfl | rfl | rfl | rfl | rfl | rfl | rfl | rfl | rfl | hz
    · exact go_tableIn (tgt := 176) dL_law_40 (by decide) (by decide) rfl rfl (lc_feed hX i0 i6 hcl hI hK)
    · exact go_tableIn (tgt := 249) dL_law_40 (by decide) (by decide) rfl rfl (lc_program hX i0 i6 hN hE hcl hI hK)
    · exact go_tableIn (tgt := 274) dL_law_40 (by decide) (by decide) rfl rfl (lc_fault hX i0 i6 hcl hI hK)
    · exact go_tableIn (tgt := 287) dL_law_40 (by decide) (by decide) rfl rfl (lc_where hX i0 i6 hcl hI hK)
    · exact go_tableIn (tgt := 300) dL_law_40 (by decide) (by decide) rfl rfl (lc_about hX i0 i6 hcl hI hK)
    · exact go_tableIn (tgt := 325) dL_law_40 (by decide) (by decide) rfl rfl (lc_variable hX i0 i6 hcl hI hK)
    · exact go_tableIn (tgt := 363) dL_law_40 (by decide) (by decide) rfl rfl (lc_operand hX i0 i6 hcl hI hK)
    · exact go_tableIn (tgt := 400) dL_law_40 (by decide) (by decide) rfl rfl (lc_set hX i0 i6 hcl hI hK)
    · exact go_tableIn (tgt := 437) dL_law_40 (by decide) (by decide) rfl rfl (lc_at hX i0 i6 hcl hI hK)
    · exact go_tableIn (tgt := 475) dL_law_40 (by decide) (by decide) rfl rfl (lc_went hX i0 i6 hcl hI hK)
    · exact go_tableIn (tgt := 500) dL_law_40 (by decide) (by decide) rfl rfl (lc_form hX i0 i6 hcl hI hK)
    · exact go_tableIn (tgt := 566) dL_law_40 (by decide) (by decide) rfl rfl (lc_reach hX i0 i6 hcl hI hK)
    · exact go_tableIn (tgt := 632) dL_law_40 (by decide) (by decide) rfl rfl (lc_bound hX i0 i6 hcl hI hK)
    · exact go_tableIn (tgt := 658) dL_law_40 (by decide) (by decide) rfl rfl (lc_noise hX i0 i6 hcl hI hK)
    · exact go_tableIn (tgt := 695) dL_law_40 (by decide) (by decide) rfl rfl (lc_shared hX i0 i6 hcl hI hK)
    · exact go_tableIn (tgt := 732) dL_law_40 (by decide) (by decide) rfl rfl (lc_part hX i0 i6 hcl hI hK)
    · exact go_tableIn (tgt := 770) dL_law_40 (by decide) (by decide) rfl rfl (lc_blame hX i0 i6 hcl hI hK)
    · exact go_tableIn (tgt := 795) dL_law_40 (by decide) (by decide) rfl rfl (lc_may hX i0 i6 hcl hI hK)
    · exact go_tableIn (tgt := 820) dL_law_40 (by decide) (by decide) rfl rfl (lc_split hX i0 i6 hcl hI hK)
    · exact go_tableIn (tgt := 870) dL_law_40 (by decide) (by decide) rfl rfl (lc_splits hX i0 i6 hcl hI hK)
    · exact go_tableIn (tgt := 907) dL_law_40 (by decide) (by decide) rfl rfl (lc_climb hX i0 i6 hcl hI hK)
    · exact go_tableIn (tgt := 957) dL_law_40 (by decide) (by decide) rfl rfl (lc_witness hX i0 i6 hcl hI hK)
    · exact go_tableIn (tgt := 1019) dL_law_40 (by decide) (by decide) rfl rfl (lc_worst hX i0 i6 hcl hI hK)
    · exact go_tableIn (tgt := 1045) dL_law_40 (by decide) (by decide) rfl rfl (lc_parts hX i0 i6 hcl hI hK)
    · exact go_tableIn (tgt := 1094) dL_law_40 (by decide) (by decide) rfl rfl (lc_finer hX i0 i6 hcl hI hK)
    · exact go_tableIn (tgt := 1131) dL_law_40 (by decide) (by decide) rfl rfl (lc_grid hX i0 i6 hcl hI hK)
    · exact go_tableIn (tgt := 1168) dL_law_40 (by decide) (by decide) rfl rfl (lc_range hX i0 i6 hcl hI hK)
    · exact go_tableIn (tgt := 1217) dL_law_40 (by decide) (by decide) rfl rfl (lc_doubtful hX i0 i6 hEX ⟨by omega, by omega⟩ hI (fun M1 N1 h => hnx (cl + 1) (sl + 6) M1 N1 (by omega) (by omega) h))
    · exact go_tableIn (tgt := 1273) dL_law_40 (by decide) (by decide) rfl rfl (lc_size hX i0 i6 hcl hI hK)
    · exact go_tableIn (tgt := 1286) dL_law_40 (by decide) (by decide) rfl rfl (lc_trouble hX i0 i6 hcl hI hK)
    · exact go_tableOut (tgt := 1299) dL_law_40 (Or.inr (by omega)) rfl (hK M N hI)
