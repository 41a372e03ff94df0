/-! the law's beginning: both objects are made, and agree -/
theorem nlL_8 : NLk RL 8 7 (3, 0, 0) := ⟨RX7, TX7, 12, tyX7, rfl, rfl, rfl, ly7, tyX7_ok, bg1 20 (by decide +kernel) rfl, bg1 21 (by decide +kernel) rfl, bg1 1 (by decide +kernel) rfl, fun j hj => by
  match j, hj with
  | 0, _ => rfl
  | 1, _ => rfl
  | 2, _ => rfl
  | 3, _ => rfl
  | 4, _ => rfl
  | 5, _ => rfl
  | 6, _ => rfl
  | 7, _ => rfl
  | 8, _ => rfl
  | 9, _ => rfl
  | 10, _ => rfl
  | 11, _ => rfl
  | j + 12, h => exact absurd h (by omega)⟩
theorem nlL_16 : NLk RL 16 8 (29, 0, 0) := ⟨RX8, TX8, 52, tyX8, rfl, rfl, rfl, ly8, tyX8_ok, bg5 62 (by decide +kernel) rfl, bg5 63 (by decide +kernel) rfl, bg1 9 (by decide +kernel) rfl, fun j hj => by
  match j, hj with
  | 0, _ => rfl
  | 1, _ => rfl
  | 2, _ => rfl
  | 3, _ => rfl
  | 4, _ => rfl
  | 5, _ => rfl
  | 6, _ => rfl
  | 7, _ => rfl
  | 8, _ => rfl
  | 9, _ => rfl
  | 10, _ => rfl
  | 11, _ => rfl
  | 12, _ => rfl
  | 13, _ => rfl
  | 14, _ => rfl
  | 15, _ => rfl
  | 16, _ => rfl
  | 17, _ => rfl
  | 18, _ => rfl
  | 19, _ => rfl
  | 20, _ => rfl
  | 21, _ => rfl
  | 22, _ => rfl
  | 23, _ => rfl
  | 24, _ => rfl
  | 25, _ => rfl
  | 26, _ => rfl
  | 27, _ => rfl
  | 28, _ => rfl
  | 29, _ => rfl
  | 30, _ => rfl
  | 31, _ => rfl
  | 32, _ => rfl
  | 33, _ => rfl
  | 34, _ => rfl
  | 35, _ => rfl
  | 36, _ => rfl
  | 37, _ => rfl
  | 38, _ => rfl
  | 39, _ => rfl
  | 40, _ => rfl
  | 41, _ => rfl
  | 42, _ => rfl
  | 43, _ => rfl
  | 44, _ => rfl
  | 45, _ => rfl
  | 46, _ => rfl
  | 47, _ => rfl
  | 48, _ => rfl
  | 49, _ => rfl
  | 50, _ => rfl
  | 51, _ => rfl
  | j + 52, h => exact absurd h (by omega)⟩
theorem liL7 {own : String} {idx : Nat} : LkI own idx yX7_init cX7_init 1 := ⟨bg1 23 (by decide +kernel) rfl, bg1 1 (by decide +kernel) rfl, bg1 24 (by rfl) rfl, by decide +kernel, by decide +kernel, by decide +kernel, rfl⟩
theorem mlL7 : Cond.methodLink RL 15 yX7_init ∈ BIG := bg1 22 (by decide +kernel) rfl
theorem liL8 {own : String} {idx : Nat} : LkI own idx yX8_init cX8_init 1 := ⟨bg5 65 (by decide +kernel) rfl, bg1 9 (by decide +kernel) rfl, bg5 66 (by rfl) rfl, by decide +kernel, by decide +kernel, by decide +kernel, rfl⟩
theorem mlL8 : Cond.methodLink RL 18 yX8_init ∈ BIG := bg5 64 (by decide +kernel) rfl
theorem gg_go {E : Ev} {own : String} {cc : ByteArray} {nL : Nat} {ret : Option FieldType} {R : Room} {cl sl : Nat} {bI : Bool} {Z : Zt} {pc : Nat} {L st : List Vv} {Hq : Heap → Prop} {M : Mm} {N : Nn} (h : ∀ H, Hq H → Hd E M N H) (k : Go E own cc nL ret R cl sl Z pc L st M N) : GoG E own cc nL ret R cl sl bI Z pc L st Hq := by
  intro p e s m args below meth c C hb0 H locs ls hP hS hL hst hl
  exact k p e s m args below meth c C H locs ls (h H hP) hS hL hst hl
theorem mS0_z {n : Nm} (h3 : n ≠ (3, 0, 0)) (h9 : n ≠ (29, 0, 0)) (k : Int) : mS0 n k = 0 := by
  unfold mS0 mX8 mX7 mZ0
  rw [wr_nn h9, wr_nn h3, wr_nn h3, wr_nn h3, wr_nn h3]
theorem mS0_3 {k : Int} (h : k ≠ 11) : mS0 (3, 0, 0) k = 0 := by
  unfold mS0 mX8 mX7 mZ0
  rw [wr_nn (nm_ne1 (by decide)), wr_nk h]
  unfold wr
  split
  · rfl
  · split
    · rfl
    · split <;> rfl
theorem mS0_29 {k : Int} (h : k ≠ 3) : mS0 (29, 0, 0) k = 0 := by
  unfold mS0 mX8 mX7 mZ0
  rw [wr_nk h, wr_nn (nm_ne1 (by decide)), wr_nn (nm_ne1 (by decide)), wr_nn (nm_ne1 (by decide)), wr_nn (nm_ne1 (by decide))]
theorem FS_0 {f : Nat} : FS mS0 f (fun _ => fz) nu0 (fun _ => 0) := by
  have z : ∀ (a b : Nat) (k : Int), 7 ≤ a → a ≤ 16 → mS0 (a, f, b) k = 0 := fun a b k a0 a1 => mS0_z (nm_ne1 (by omega)) (nm_ne1 (by omega)) k
  refine ⟨fun j _ => ⟨?_, ?_, ?_, fun i _ _ => ?_, fun i _ => rfl, fun i _ => rfl⟩, ?_, ?_, ?_, fun i i0 i1 => absurd (show i < 0 from i1) (by omega), fun v _ _ => z 8 0 v (by decide) (by decide), rfl⟩
  · exact z 15 j 1 (by decide) (by decide)
  · rw [z 15 j 2 (by decide) (by decide)]; decide
  · rw [z 15 j 2 (by decide) (by decide)]; decide
  · exact z 16 j i (by decide) (by decide)
  · exact z 7 0 3 (by decide) (by decide)
  · exact Int.le_refl 0
  · show (0 : Int) ≤ 63; decide
/-- at the beginning class and reference agree -/
theorem Iv_0 : Iv mS0 nS0 := by
  have e11 : pgC mS0 1 11 0 = 0 := mS0_z (n := (18, 1, 0)) (nm_ne1 (by decide)) (nm_ne1 (by decide)) 11
  have e12 : pgC mS0 1 12 0 = 0 := mS0_z (n := (18, 1, 0)) (nm_ne1 (by decide)) (nm_ne1 (by decide)) 12
  have eK : (sK (pgC mS0 1) (wB (-1)) (pgC mS0 1 11 0).toNat) = sZ := by
    rw [e11]
    show sI (pgC mS0 1) (pgC mS0 1 12 0).toNat = sZ
    rw [e12]
    rfl
  refine ⟨1, 2, ⟨rfl, rfl, by decide, by decide, by decide⟩, WF_0 e11 e12, ⟨fun _ => fz, fun _ => 0, ?_, ?_⟩, ⟨_, _, _, FS_0⟩, ?_, ?_, ?_⟩
  · rw [eK]
    exact FS_0
  · intro w hw
    have := hw.2.1
    have := hw.1
    omega
  · refine ⟨?_, by omega, by omega, Or.inr ⟨mS0_29 (by decide), e11⟩, fun v v0 v1 => absurd v1 (by omega)⟩
    rw [e11]; exact mS0_29 (by decide)
  · intro k k0 k1
    omega
  · refine ⟨?_, ?_, ?_, fun i _ _ => ?_, ?_, ?_, fun h => ?_⟩
    · rw [mS0_3 (by decide), mS0_29 (by decide)]
    · rw [mS0_3 (by decide)]; decide
    · rw [mS0_3 (by decide)]; decide
    · rw [mS0_z (nm_ne1 (by decide)) (nm_ne1 (by decide)), mS0_z (nm_ne1 (by decide)) (nm_ne1 (by decide))]; decide
    · rw [mS0_3 (by decide), mS0_29 (by decide)]
    · rw [mS0_3 (by decide), mS0_29 (by decide)]
    · rw [mS0_3 (by decide)] at h; exact absurd h (by decide)
set_option maxRecDepth 100000 in
set_option maxHeartbeats 4000000 in
theorem lw_begin {E : Ev} {L0 : Nat} {xs : Nat → Int32} (hX : EC E L0 xs) (hN : EN E) (hE : ES E) (hEX : EX E) (hEI : EI E) : GoG E RL cL_law 7 ((some .boolean)) room_1 0 0 false (zLw E) 0 [vr (1, 0, 0), vn, vn, vn, vn, vn, vn] [] (HdF E 0 mZ0 fZ0) := by
  have x3 := hX.2.2
  have fr : Fresh 0 mZ0 fZ0 := fun i n _ _ => ⟨fun _ => rfl, fun _ => rfl⟩
  have h0 : nmL[0]? = some (3, 0, 0) := by decide +kernel
  have h222 : nmL[222]? = some (29, 0, 0) := by decide +kernel
  have h252 : nmL[252]? = some (31, 0, 0) := by decide +kernel
  refine gg_new (n := (3, 0, 0)) (ci := 7) (Nf := 12) dL_law_0 nlL_8 rfl h0 (fun _ => rfl) (fun _ => rfl) (Nat.le_of_ble_eq_true rfl) (Nat.le_of_ble_eq_true rfl) ?_
  have fr := fr.s
  refine gg_dup_r dL_law_3 ?_
  refine gg_callI (n := (3, 0, 0)) dL_law_4 liL7 mlL7 rfl ⟨Nat.le_of_ble_eq_true rfl, Nat.le_of_ble_eq_true rfl⟩ (List.mem_of_getElem? h0) (cf_X7 hEI fr) (Nat.le_of_ble_eq_true rfl) (Nat.le_of_ble_eq_true rfl) (fun k' M' F' hq => ?_)
  obtain ⟨rfl, rfl, rfl, fr⟩ := hq
  refine gg_astore_n dL_law_7 rfl rfl rfl ?_
  have f222 := fr 222 _ (Nat.le_refl _) h222
  refine gg_new (n := (29, 0, 0)) (ci := 8) (Nf := 52) dL_law_8 nlL_16 rfl h222 f222.1 f222.2 (Nat.le_of_ble_eq_true rfl) (Nat.le_of_ble_eq_true rfl) ?_
  have fr := fr.s
  refine gg_dup_r dL_law_11 ?_
  refine gg_callI (n := (29, 0, 0)) dL_law_12 liL8 mlL8 rfl ⟨Nat.le_of_ble_eq_true rfl, Nat.le_of_ble_eq_true rfl⟩ (List.mem_of_getElem? h222) (cf_X8 hEI fr) (Nat.le_of_ble_eq_true rfl) (Nat.le_of_ble_eq_true rfl) (fun k' M' F' hq => ?_)
  obtain ⟨rfl, rfl, rfl, fr⟩ := hq
  refine gg_astore_n dL_law_15 rfl rfl rfl ?_
  refine gg_iconst dL_law_16 (R32_lit rfl) ?_
  refine gg_newl (n := (31, 0, 0)) (len := 1) dL_law_17 h252 rfl rfl rfl (fr 252 _ (Nat.le_refl _) h252).1 (Nat.le_of_ble_eq_true rfl) (Nat.le_of_ble_eq_true rfl) ?_
  refine gg_astore_n dL_law_19 rfl rfl rfl ?_
  refine gg_iconst dL_law_20 (R32_lit rfl) ?_
  refine gg_istore dL_law_21 rfl rfl ?_
  refine gg_go (M := mS0) (N := nS0) (fun H h => Hd_start h) ?_
  exact lw_loop hX hN hE hEX L0 0 _ _ mS0 nS0 (by omega) (by omega) (by omega) (by omega) (by omega) Iv_0
