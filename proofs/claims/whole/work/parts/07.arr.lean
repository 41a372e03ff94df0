variable {E : Ev} {own : String} {cc : ByteArray} {nL : Nat} {ret : Option FieldType} {R : Room} {cl sl : Nat} {Z : Zt} {pc : Nat} {L st : List Vv} {M : Mm} {N : Nn}
theorem idx_in {i : Int} {len : Nat} (hr : R32 i) (h0 : 0 ≤ i) (h1 : i < len) : vp_in (Int32.ofInt i) len ∧ (Int32.ofInt i).toNatClampNeg = i.toNat := by
  have hc : (Int32.ofInt i).toNatClampNeg = i.toNat := Int32.toNatClampNeg_ofInt_of_le (by have := hr.1; omega) (by have := hr.2; omega)
  refine ⟨fun h => ?_, hc⟩
  rcases h with h | h
  · have := (lt32 (b := 0) hr (R32_lit rfl)).mp h
    omega
  · rw [hc] at h
    omega
theorem cel_i {n : Nm} {len : Nat} (hs : shp n = (21, len)) : cel E M N n = .inl (eC E 1, len, .inl (fun j => Int32.ofInt (M n j))) := by
  unfold cel
  rw [hs]
  rfl
theorem slk_i {n : Nm} {len : Nat} (hs : shp n = (21, len)) (k : Nat) : slk n k = 0 := by
  unfold slk
  rw [hs]
  rfl
theorem go_iald {n : Nm} {len : Nat} {i : Int} (hd : decode cc pc = .ok (.iaload, 1)) (hs : shp n = (21, len)) (h0 : 0 ≤ i) (h1 : i < (len : Int)) (kk : Go E own cc nL ret R cl sl Z (pc + 1) L (vi (M n i) :: st) M N) : Go E own cc nL ret R cl sl Z pc L (vi i :: vr n :: st) M N := by
  intro p e s m args below meth c C H locs ls hP hS hL hst hl
  have hn : n ∈ nmL := okR_mem hst.tail.head (by rw [hs]; rfl)
  obtain ⟨hin, hix⟩ := idx_in hst.head h0 h1
  have hi : ((i.toNat : Nat) : Int) = i := Int.toNat_of_nonneg h0
  have hrg := (hP.2 n i.toNat).1 (slk_i hs _)
  rw [hi] at hrg
  have k1 := kk p e s m args below meth c C H locs ls hP hS hL (okL_cons hrg hst.tail.tail) hl
  show W p (eL E) e R s m args below meth c H locs cl sl (Z below args s) (F0 m pc ls (.int (Int32.ofInt i) :: cv E (vr n) :: st.map (cv E)))
  rw [cv_mem hn]
  refine va_iald (D := eD E) (cl := vwCl) (tys := tysl E) C.1 C.2.1 C.2.2.2.2.2.2.2.1 hP.1 (adr n) 1 (by rw [wsl_at hn, cel_i hs]) rfl hin hd ?_
  rw [hix, hi]
  exact k1
theorem go_iast {n : Nm} {len : Nat} {i x : Int} (hd : decode cc pc = .ok (.iastore, 1)) (hs : shp n = (21, len)) (h0 : 0 ≤ i) (h1 : i < (len : Int)) (kk : Go E own cc nL ret R cl sl Z (pc + 1) L st (wr M n i (x)) N) : Go E own cc nL ret R cl sl Z pc L (vi x :: vi i :: vr n :: st) M N := by
  intro p e s m args below meth c C H locs ls hP hS hL hst hl
  have hn : n ∈ nmL := okR_mem hst.tail.tail.head (by rw [hs]; rfl)
  obtain ⟨hin, hix⟩ := idx_in hst.tail.head h0 h1
  have hi : ((i.toNat : Nat) : Int) = i := Int.toNat_of_nonneg h0
  have hx : (Int32.ofInt x) = Int32.ofInt (x) := rfl
  have hset : (wsl E M N).set (adr n) (eB E + adr n, .inl (eC E 1, len, .inl (upd (fun j => Int32.ofInt (M n j)) i.toNat (Int32.ofInt x)))) = wsl E (wr M n i (x)) N := by
    unfold wsl
    refine map_set hn ?_ (fun x hx => ?_)
    · rw [cel_i hs]
      refine congrArg (fun f => ((eB E + adr n, Sum.inl (eC E 1, len, .inl (f))) : Nat × va_E)) ?_
      funext j
      show Int32.ofInt (wr M n i (x) n j) = if j = i.toNat then _ else _
      by_cases hj : j = i.toNat
      · rw [if_pos hj, hj, hi, wr_eq, hx]
      · rw [if_neg hj, wr_nk (by omega)]
    · rw [cel_wr hx]
  have hRg : Rg (wr M n i (x)) N := by
    have h := Rg_wr (n := n) (k := i.toNat) (x := x) hP.2 (fun _ => hst.head) (fun q => by rw [slk_i hs] at q; cases q)
    rw [hi] at h
    exact h
  show W p (eL E) e R s m args below meth c H locs cl sl (Z below args s) (F0 m pc ls (cv E (vi x) :: .int (Int32.ofInt i) :: cv E (vr n) :: st.map (cv E)))
  rw [cv_mem hn]
  refine va_iast (D := eD E) (cl := vwCl) (tys := tysl E) (H0 := s.heap) (A := eA E) C.1 C.2.1 C.2.2.2.2.2.2.2.1 hP.1 wsl_D hS (adr n) 1 (by rw [wsl_at hn, cel_i hs]) rfl hin hd (fun H1 locs1 hP1 hD1 hS1 => ?_)
  rw [hix, hset] at hP1
  exact kk p e s m args below meth c C H1 locs1 ls ⟨hP1, hRg⟩ hS1 hL hst.tail.tail.tail hl
theorem cel_b {n : Nm} {len : Nat} (hs : shp n = (20, len)) : cel E M N n = .inl (eC E 0, len, .inl (fun j => Int32.ofInt (M n j))) := by
  unfold cel
  rw [hs]
  rfl
theorem slk_b {n : Nm} {len : Nat} (hs : shp n = (20, len)) (k : Nat) : slk n k = 0 := by
  unfold slk
  rw [hs]
  rfl
theorem go_bald {n : Nm} {len : Nat} {i : Int} (hd : decode cc pc = .ok (.baload, 1)) (hs : shp n = (20, len)) (h0 : 0 ≤ i) (h1 : i < (len : Int)) (kk : Go E own cc nL ret R cl sl Z (pc + 1) L (vi (M n i) :: st) M N) : Go E own cc nL ret R cl sl Z pc L (vi i :: vr n :: st) M N := by
  intro p e s m args below meth c C H locs ls hP hS hL hst hl
  have hn : n ∈ nmL := okR_mem hst.tail.head (by rw [hs]; rfl)
  obtain ⟨hin, hix⟩ := idx_in hst.head h0 h1
  have hi : ((i.toNat : Nat) : Int) = i := Int.toNat_of_nonneg h0
  have hrg := (hP.2 n i.toNat).1 (slk_b hs _)
  rw [hi] at hrg
  have k1 := kk p e s m args below meth c C H locs ls hP hS hL (okL_cons hrg hst.tail.tail) hl
  show W p (eL E) e R s m args below meth c H locs cl sl (Z below args s) (F0 m pc ls (.int (Int32.ofInt i) :: cv E (vr n) :: st.map (cv E)))
  rw [cv_mem hn]
  refine va_bald (D := eD E) (cl := vwCl) (tys := tysl E) C.1 C.2.1 C.2.2.2.2.2.2.2.1 hP.1 (adr n) 0 (by rw [wsl_at hn, cel_b hs]) rfl hin hd ?_
  rw [hix, hi]
  exact k1
theorem go_bast {n : Nm} {len : Nat} {i x : Int} (hd : decode cc pc = .ok (.bastore, 1)) (hs : shp n = (20, len)) (h0 : 0 ≤ i) (h1 : i < (len : Int)) (kk : Go E own cc nL ret R cl sl Z (pc + 1) L st (wr M n i (ib8 x)) N) : Go E own cc nL ret R cl sl Z pc L (vi x :: vi i :: vr n :: st) M N := by
  intro p e s m args below meth c C H locs ls hP hS hL hst hl
  have hn : n ∈ nmL := okR_mem hst.tail.tail.head (by rw [hs]; rfl)
  obtain ⟨hin, hix⟩ := idx_in hst.tail.head h0 h1
  have hi : ((i.toNat : Nat) : Int) = i := Int.toNat_of_nonneg h0
  have hx : (vp_nar .byte (Int32.ofInt x)) = Int32.ofInt (ib8 x) := (by rw [vp_nar_byte]; exact o32_eq (by rw [Int8.toInt_toInt32, Int32.toInt_toInt8, i32 hst.head, ib8_bmod]))
  have hset : (wsl E M N).set (adr n) (eB E + adr n, .inl (eC E 0, len, .inl (upd (fun j => Int32.ofInt (M n j)) i.toNat (vp_nar .byte (Int32.ofInt x))))) = wsl E (wr M n i (ib8 x)) N := by
    unfold wsl
    refine map_set hn ?_ (fun x hx => ?_)
    · rw [cel_b hs]
      refine congrArg (fun f => ((eB E + adr n, Sum.inl (eC E 0, len, .inl (f))) : Nat × va_E)) ?_
      funext j
      show Int32.ofInt (wr M n i (ib8 x) n j) = if j = i.toNat then _ else _
      by_cases hj : j = i.toNat
      · rw [if_pos hj, hj, hi, wr_eq, hx]
      · rw [if_neg hj, wr_nk (by omega)]
    · rw [cel_wr hx]
  have hRg : Rg (wr M n i (ib8 x)) N := by
    have h := Rg_wr (n := n) (k := i.toNat) (x := ib8 x) hP.2 (fun _ => ib8_R _) (fun q => by rw [slk_b hs] at q; cases q)
    rw [hi] at h
    exact h
  show W p (eL E) e R s m args below meth c H locs cl sl (Z below args s) (F0 m pc ls (cv E (vi x) :: .int (Int32.ofInt i) :: cv E (vr n) :: st.map (cv E)))
  rw [cv_mem hn]
  refine va_bast (D := eD E) (cl := vwCl) (tys := tysl E) (H0 := s.heap) (A := eA E) C.1 C.2.1 C.2.2.2.2.2.2.2.1 hP.1 wsl_D hS (adr n) 0 (by rw [wsl_at hn, cel_b hs]) rfl hin hd (fun H1 locs1 hP1 hD1 hS1 => ?_)
  rw [hix, hset] at hP1
  exact kk p e s m args below meth c C H1 locs1 ls ⟨hP1, hRg⟩ hS1 hL hst.tail.tail.tail hl
theorem cel_z {n : Nm} {len : Nat} (hs : shp n = (23, len)) : cel E M N n = .inl (eC E 3, len, .inl (fun j => Int32.ofInt (M n j))) := by
  unfold cel
  rw [hs]
  rfl
theorem slk_z {n : Nm} {len : Nat} (hs : shp n = (23, len)) (k : Nat) : slk n k = 0 := by
  unfold slk
  rw [hs]
  rfl
theorem go_zald {n : Nm} {len : Nat} {i : Int} (hd : decode cc pc = .ok (.baload, 1)) (hs : shp n = (23, len)) (h0 : 0 ≤ i) (h1 : i < (len : Int)) (kk : Go E own cc nL ret R cl sl Z (pc + 1) L (vi (M n i) :: st) M N) : Go E own cc nL ret R cl sl Z pc L (vi i :: vr n :: st) M N := by
  intro p e s m args below meth c C H locs ls hP hS hL hst hl
  have hn : n ∈ nmL := okR_mem hst.tail.head (by rw [hs]; rfl)
  obtain ⟨hin, hix⟩ := idx_in hst.head h0 h1
  have hi : ((i.toNat : Nat) : Int) = i := Int.toNat_of_nonneg h0
  have hrg := (hP.2 n i.toNat).1 (slk_z hs _)
  rw [hi] at hrg
  have k1 := kk p e s m args below meth c C H locs ls hP hS hL (okL_cons hrg hst.tail.tail) hl
  show W p (eL E) e R s m args below meth c H locs cl sl (Z below args s) (F0 m pc ls (.int (Int32.ofInt i) :: cv E (vr n) :: st.map (cv E)))
  rw [cv_mem hn]
  refine va_zald (D := eD E) (cl := vwCl) (tys := tysl E) C.1 C.2.1 C.2.2.2.2.2.2.2.1 hP.1 (adr n) 3 (by rw [wsl_at hn, cel_z hs]) rfl hin hd ?_
  rw [hix, hi]
  exact k1
theorem go_zast {n : Nm} {len : Nat} {i x : Int} (hd : decode cc pc = .ok (.bastore, 1)) (hs : shp n = (23, len)) (h0 : 0 ≤ i) (h1 : i < (len : Int)) (hz : x = 0 ∨ x = 1) (kk : Go E own cc nL ret R cl sl Z (pc + 1) L st (wr M n i (x)) N) : Go E own cc nL ret R cl sl Z pc L (vi x :: vi i :: vr n :: st) M N := by
  intro p e s m args below meth c C H locs ls hP hS hL hst hl
  have hn : n ∈ nmL := okR_mem hst.tail.tail.head (by rw [hs]; rfl)
  obtain ⟨hin, hix⟩ := idx_in hst.tail.head h0 h1
  have hi : ((i.toNat : Nat) : Int) = i := Int.toNat_of_nonneg h0
  have hx : (vp_nar .boolean (Int32.ofInt x)) = Int32.ofInt (x) := (by rcases hz with rfl | rfl <;> rfl)
  have hset : (wsl E M N).set (adr n) (eB E + adr n, .inl (eC E 3, len, .inl (upd (fun j => Int32.ofInt (M n j)) i.toNat (vp_nar .boolean (Int32.ofInt x))))) = wsl E (wr M n i (x)) N := by
    unfold wsl
    refine map_set hn ?_ (fun x hx => ?_)
    · rw [cel_z hs]
      refine congrArg (fun f => ((eB E + adr n, Sum.inl (eC E 3, len, .inl (f))) : Nat × va_E)) ?_
      funext j
      show Int32.ofInt (wr M n i (x) n j) = if j = i.toNat then _ else _
      by_cases hj : j = i.toNat
      · rw [if_pos hj, hj, hi, wr_eq, hx]
      · rw [if_neg hj, wr_nk (by omega)]
    · rw [cel_wr hx]
  have hRg : Rg (wr M n i (x)) N := by
    have h := Rg_wr (n := n) (k := i.toNat) (x := x) hP.2 (fun _ => hst.head) (fun q => by rw [slk_z hs] at q; cases q)
    rw [hi] at h
    exact h
  show W p (eL E) e R s m args below meth c H locs cl sl (Z below args s) (F0 m pc ls (cv E (vi x) :: .int (Int32.ofInt i) :: cv E (vr n) :: st.map (cv E)))
  rw [cv_mem hn]
  refine va_zast (D := eD E) (cl := vwCl) (tys := tysl E) (H0 := s.heap) (A := eA E) C.1 C.2.1 C.2.2.2.2.2.2.2.1 hP.1 wsl_D hS (adr n) 3 (by rw [wsl_at hn, cel_z hs]) rfl hin hd (fun H1 locs1 hP1 hD1 hS1 => ?_)
  rw [hix, hset] at hP1
  exact kk p e s m args below meth c C H1 locs1 ls ⟨hP1, hRg⟩ hS1 hL hst.tail.tail.tail hl
theorem cel_l {n : Nm} {len : Nat} (hs : shp n = (22, len)) : cel E M N n = .inl (eC E 2, len, .inr (.inl (fun j => Int64.ofInt (M n j)))) := by
  unfold cel
  rw [hs]
  rfl
theorem slk_l {n : Nm} {len : Nat} (hs : shp n = (22, len)) (k : Nat) : slk n k = 1 := by
  unfold slk
  rw [hs]
  rfl
theorem go_lald {n : Nm} {len : Nat} {i : Int} (hd : decode cc pc = .ok (.laload, 1)) (hs : shp n = (22, len)) (h0 : 0 ≤ i) (h1 : i < (len : Int)) (kk : Go E own cc nL ret R cl sl Z (pc + 1) L (vl (M n i) :: st) M N) : Go E own cc nL ret R cl sl Z pc L (vi i :: vr n :: st) M N := by
  intro p e s m args below meth c C H locs ls hP hS hL hst hl
  have hn : n ∈ nmL := okR_mem hst.tail.head (by rw [hs]; rfl)
  obtain ⟨hin, hix⟩ := idx_in hst.head h0 h1
  have hi : ((i.toNat : Nat) : Int) = i := Int.toNat_of_nonneg h0
  have hrg := (hP.2 n i.toNat).2.1 (slk_l hs _)
  rw [hi] at hrg
  have k1 := kk p e s m args below meth c C H locs ls hP hS hL (okL_cons hrg hst.tail.tail) hl
  show W p (eL E) e R s m args below meth c H locs cl sl (Z below args s) (F0 m pc ls (.int (Int32.ofInt i) :: cv E (vr n) :: st.map (cv E)))
  rw [cv_mem hn]
  refine va_lald (D := eD E) (cl := vwCl) (tys := tysl E) C.1 C.2.1 C.2.2.2.2.2.2.2.1 hP.1 (adr n) 2 (by rw [wsl_at hn, cel_l hs]) rfl hin hd ?_
  rw [hix, hi]
  exact k1
theorem go_last {n : Nm} {len : Nat} {i x : Int} (hd : decode cc pc = .ok (.lastore, 1)) (hs : shp n = (22, len)) (h0 : 0 ≤ i) (h1 : i < (len : Int)) (kk : Go E own cc nL ret R cl sl Z (pc + 1) L st (wr M n i (x)) N) : Go E own cc nL ret R cl sl Z pc L (vl x :: vi i :: vr n :: st) M N := by
  intro p e s m args below meth c C H locs ls hP hS hL hst hl
  have hn : n ∈ nmL := okR_mem hst.tail.tail.head (by rw [hs]; rfl)
  obtain ⟨hin, hix⟩ := idx_in hst.tail.head h0 h1
  have hi : ((i.toNat : Nat) : Int) = i := Int.toNat_of_nonneg h0
  have hx : (Int64.ofInt x) = Int64.ofInt (x) := rfl
  have hset : (wsl E M N).set (adr n) (eB E + adr n, .inl (eC E 2, len, .inr (.inl (vp_updL (fun j => Int64.ofInt (M n j)) i.toNat (Int64.ofInt x))))) = wsl E (wr M n i (x)) N := by
    unfold wsl
    refine map_set hn ?_ (fun x hx => ?_)
    · rw [cel_l hs]
      refine congrArg (fun f => ((eB E + adr n, Sum.inl (eC E 2, len, .inr (.inl (f)))) : Nat × va_E)) ?_
      funext j
      show Int64.ofInt (wr M n i (x) n j) = if j = i.toNat then _ else _
      by_cases hj : j = i.toNat
      · rw [if_pos hj, hj, hi, wr_eq, hx]
      · rw [if_neg hj, wr_nk (by omega)]
    · rw [cel_wr hx]
  have hRg : Rg (wr M n i (x)) N := by
    have h := Rg_wr (n := n) (k := i.toNat) (x := x) hP.2 (fun q => by rw [slk_l hs] at q; cases q) (fun _ => hst.head)
    rw [hi] at h
    exact h
  show W p (eL E) e R s m args below meth c H locs cl sl (Z below args s) (F0 m pc ls (cv E (vl x) :: .int (Int32.ofInt i) :: cv E (vr n) :: st.map (cv E)))
  rw [cv_mem hn]
  refine va_last (D := eD E) (cl := vwCl) (tys := tysl E) (H0 := s.heap) (A := eA E) C.1 C.2.1 C.2.2.2.2.2.2.2.1 hP.1 wsl_D hS (adr n) 2 (by rw [wsl_at hn, cel_l hs]) rfl hin hd (fun H1 locs1 hP1 hD1 hS1 => ?_)
  rw [hix, hset] at hP1
  exact kk p e s m args below meth c C H1 locs1 ls ⟨hP1, hRg⟩ hS1 hL hst.tail.tail.tail hl
theorem cel_a {n : Nm} {len : Nat} (hs : shp n = (24, len)) : cel E M N n = .inl (eC E 4, len, .inr (.inr (.inr (.inr (fun j => orf E (rel N n j)))))) := by
  unfold cel
  rw [hs]
  rfl
theorem go_aald2 {n r : Nm} {len : Nat} {i : Int} (hd : decode cc pc = .ok (.aaload, 1)) (hs : shp n = (24, len)) (h2 : ∀ k, slk n k = 2) (h0 : 0 ≤ i) (h1 : i < (len : Int)) (hr : sref n i.toNat = r) (kk : Go E own cc nL ret R cl sl Z (pc + 1) L (vr r :: st) M N) : Go E own cc nL ret R cl sl Z pc L (vi i :: vr n :: st) M N := by
  subst hr
  intro p e s m args below meth c C H locs ls hP hS hL hst hl
  have hn : n ∈ nmL := okR_mem hst.tail.head (by rw [hs]; rfl)
  obtain ⟨hin, hix⟩ := idx_in hst.head h0 h1
  have hok : sref n i.toNat ∈ nmL := sref_ok n hn i.toNat (by rw [hs]; show i.toNat < len; omega) (h2 _)
  have k1 := kk p e s m args below meth c C H locs ls hP hS hL (okL_cons (Or.inr hok) hst.tail.tail) hl
  show W p (eL E) e R s m args below meth c H locs cl sl (Z below args s) (F0 m pc ls (.int (Int32.ofInt i) :: cv E (vr n) :: st.map (cv E)))
  rw [cv_mem hn]
  refine va_aldq (D := eD E) (cl := vwCl) (tys := tysl E) C.1 C.2.1 C.2.2.2.2.2.2.2.1 hP.1 (adr n) 4 (by rw [wsl_at hn, cel_a hs]) rfl hin hd ?_
  have hv : va_rf (orf E (rel N n (Int32.ofInt i).toNatClampNeg)) = cv E (vr (sref n i.toNat)) := by
    rw [hix]
    unfold rel
    rw [h2]
    rfl
  rw [hv]
  exact k1
theorem go_aald3 {n : Nm} {len : Nat} {i : Int} (hd : decode cc pc = .ok (.aaload, 1)) (hs : shp n = (24, len)) (h3 : ∀ k, slk n k = 3) (h0 : 0 ≤ i) (h1 : i < (len : Int)) (kk : Go E own cc nL ret R cl sl Z (pc + 1) L (vr (N n i) :: st) M N) : Go E own cc nL ret R cl sl Z pc L (vi i :: vr n :: st) M N := by
  intro p e s m args below meth c C H locs ls hP hS hL hst hl
  have hn : n ∈ nmL := okR_mem hst.tail.head (by rw [hs]; rfl)
  obtain ⟨hin, hix⟩ := idx_in hst.head h0 h1
  have hi : ((i.toNat : Nat) : Int) = i := Int.toNat_of_nonneg h0
  have hok := (hP.2 n i.toNat).2.2
  rw [hi] at hok
  have k1 := kk p e s m args below meth c C H locs ls hP hS hL (okL_cons hok hst.tail.tail) hl
  show W p (eL E) e R s m args below meth c H locs cl sl (Z below args s) (F0 m pc ls (.int (Int32.ofInt i) :: cv E (vr n) :: st.map (cv E)))
  rw [cv_mem hn]
  refine va_aldq (D := eD E) (cl := vwCl) (tys := tysl E) C.1 C.2.1 C.2.2.2.2.2.2.2.1 hP.1 (adr n) 4 (by rw [wsl_at hn, cel_a hs]) rfl hin hd ?_
  have hv : va_rf (orf E (rel N n (Int32.ofInt i).toNatClampNeg)) = cv E (vr (N n i)) := by
    rw [hix]
    unfold rel
    rw [h3, hi]
    rfl
  rw [hv]
  exact k1
theorem go_aast {n r : Nm} {len : Nat} {i : Int} (hd : decode cc pc = .ok (.aastore, 1)) (hs : shp n = (24, len)) (h3 : ∀ k, slk n k = 3) (hr : shp r = (0, 3)) (h0 : 0 ≤ i) (h1 : i < (len : Int)) (kk : Go E own cc nL ret R cl sl Z (pc + 1) L st M (wrN N n i r)) : Go E own cc nL ret R cl sl Z pc L (vr r :: vi i :: vr n :: st) M N := by
  intro p e s m args below meth c C H locs ls hP hS hL hst hl
  have hn : n ∈ nmL := okR_mem hst.tail.tail.head (by rw [hs]; rfl)
  have hrm : r ∈ nmL := okR_mem hst.head (by rw [hr]; rfl)
  obtain ⟨hin, hix⟩ := idx_in hst.tail.head h0 h1
  have hi : ((i.toNat : Nat) : Int) = i := Int.toNat_of_nonneg h0
  have hset : (wsl E M N).set (adr n) (eB E + adr n, .inl (eC E 4, len, .inr (.inr (.inr (.inr (va_up (fun j => orf E (rel N n j)) i.toNat (some (eB E + adr r)))))))) = wsl E M (wrN N n i r) := by
    unfold wsl
    refine map_set hn ?_ (fun x hx => ?_)
    · rw [cel_a hs]
      refine congrArg (fun f => ((eB E + adr n, Sum.inl (eC E 4, len, .inr (.inr (.inr (.inr f))))) : Nat × va_E)) ?_
      funext j
      show orf E (rel (wrN N n i r) n j) = if j = i.toNat then _ else _
      have hrel : ∀ N0 : Nn, rel N0 n j = N0 n j := fun N0 => by unfold rel; rw [h3]; rfl
      rw [hrel]
      show orf E (wrN N n i r n j) = if j = i.toNat then _ else orf E (rel N n j)
      rw [hrel]
      by_cases hj : j = i.toNat
      · rw [if_pos hj, hj, hi, wrN_eq, orf_mem hrm]
      · rw [if_neg hj, wrN_ne (fun q => hj (by omega))]
    · rw [cel_wrN hx]
  have hRg : Rg M (wrN N n i r) := by
    have h := Rg_wrN (n := n) (k := i.toNat) (r := r) hP.2 hst.head
    rw [hi] at h
    exact h
  show W p (eL E) e R s m args below meth c H locs cl sl (Z below args s) (F0 m pc ls (cv E (vr r) :: .int (Int32.ofInt i) :: cv E (vr n) :: st.map (cv E)))
  rw [cv_mem hn, cv_mem hrm]
  refine va_astq (D := eD E) (cl := vwCl) (tys := tysl E) (H0 := s.heap) (A := eA E) (r := (RX0, TX0, 3)) C.1 C.2.1 C.2.2.2.2.2.2.2.1 hP.1 wsl_D hS (adr n) 4 (adr r) 0 (by rw [wsl_at hn, cel_a hs]) rfl (by rw [wsl_at hrm, cel_obj (Nf := 3) (ci := 0) (by rw [hr]) rfl (by rw [hr])]) rfl hin hd (fun H1 locs1 hP1 hD1 hS1 => ?_)
  rw [hix, hset] at hP1
  exact kk p e s m args below meth c C H1 locs1 ls ⟨hP1, hRg⟩ hS1 hL hst.tail.tail.tail hl
theorem go_alen4 {n : Nm} {len : Nat} (hd : decode cc pc = .ok (.arraylength, 1)) (hs : shp n = (24, len)) (hr : R32 (len : Int)) (kk : Go E own cc nL ret R cl sl Z (pc + 1) L (vi (len : Int) :: st) M N) : Go E own cc nL ret R cl sl Z pc L (vr n :: st) M N := by
  intro p e s m args below meth c C H locs ls hP hS hL hst hl
  have hn : n ∈ nmL := okR_mem hst.head (by rw [hs]; rfl)
  have k1 := kk p e s m args below meth c C H locs ls hP hS hL (okL_cons hr hst.tail) hl
  show W p (eL E) e R s m args below meth c H locs cl sl (Z below args s) (F0 m pc ls (cv E (vr n) :: st.map (cv E)))
  rw [cv_mem hn]
  exact va_alen (D := eD E) (cl := vwCl) (tys := tysl E) C.1 C.2.1 C.2.2.2.2.2.2.2.1 hP.1 (adr n) 4 (by rw [wsl_at hn, cel_a hs]) rfl (v := Int32.ofInt (len : Int)) Int32.ofInt_eq_ofNat.symm hd k1
def ALk (own : String) (idx : Nat) : Prop := Cond.methodLink own idx arraycopyName ∈ BIG ∧ Cond.native arraycopyName ∈ BIG ∧ Cond.static arraycopyName ∈ BIG ∧ Cond.initialized "java/lang/System" ∈ BIG
/-- System.arraycopy -/
def cpM (M : Mm) (a : Nm) (sp : Int) (b : Nm) (dp k : Int) : Mm := fun n j => if n = b ∧ dp ≤ j ∧ j < dp + k then M a (sp + (j - dp)) else M n j
theorem go_copyi {na nb : Nm} {la lb idx : Nat} {sp dp k : Int} (hd : decode cc pc = .ok (.invokestatic idx, 3)) (lk : ALk own idx) (ha : shp na = (21, la)) (hb : shp nb = (21, lb)) (h1 : 0 ≤ sp) (h2 : 0 ≤ dp) (h3 : 0 ≤ k) (h4 : sp + k ≤ (la : Int)) (h5 : dp + k ≤ (lb : Int)) (hR : 1 ≤ R.frames ∧ 26 ≤ R.locals) (kk : Go E own cc nL ret R cl sl Z (pc + 3) L [] (cpM M na sp nb dp k) N) : Go E own cc nL ret R cl sl Z pc L [vi k, vi dp, vr nb, vi sp, vr na] M N := by
  intro p e s m args below meth c C H locs ls hP hS hL hst hl
  have hr3 : R32 k := hst.head
  have hr2 : R32 dp := hst.tail.head
  have hr1 : R32 sp := hst.tail.tail.tail.head
  have hnb : nb ∈ nmL := okR_mem hst.tail.tail.head (by rw [hb]; rfl)
  have hna : na ∈ nmL := okR_mem hst.tail.tail.tail.tail.head (by rw [ha]; rfl)
  have cl1 : ∀ {x : Int}, R32 x → (Int32.ofInt x).toNatClampNeg = x.toNat := fun {x} h => Int32.toNatClampNeg_ofInt_of_le (by have := h.1; omega) (by have := h.2; omega)
  have nn : ∀ {x : Int}, R32 x → 0 ≤ x → ¬ Int32.ofInt x < 0 := fun {x} h h0 q => by have := (lt32 (b := 0) h (R32_lit rfl)).mp q; omega
  have hset : (wsl E M N).set (adr nb) (eB E + adr nb, .inl (eC E 1, lb, .inl (va_cpy (fun j => Int32.ofInt (M na j)) (fun j => Int32.ofInt (M nb j)) sp.toNat dp.toNat k.toNat))) = wsl E (cpM M na sp nb dp k) N := by
    unfold wsl
    refine map_set hnb ?_ (fun x hx => ?_)
    · rw [cel_i hb]
      refine congrArg (fun f => ((eB E + adr nb, Sum.inl (eC E 1, lb, .inl (f))) : Nat × va_E)) ?_
      funext j
      show Int32.ofInt (cpM M na sp nb dp k nb j) = if dp.toNat ≤ j ∧ j < dp.toNat + k.toNat then _ else _
      unfold cpM
      by_cases hj : dp.toNat ≤ j ∧ j < dp.toNat + k.toNat
      · rw [if_pos hj, if_pos ⟨rfl, by omega, by omega⟩]
        refine congrArg (fun z => Int32.ofInt (M na z)) ?_
        omega
      · rw [if_neg hj, if_neg (fun q => hj ⟨by omega, by omega⟩)]
    · refine congrArg (fun z => (eB E + adr x, z)) (cel_congr (fun j => ?_) (fun _ => rfl))
      unfold cpM
      rw [if_neg (fun q => hx q.1)]
  have hRg : Rg (cpM M na sp nb dp k) N := by
    intro n j
    unfold cpM
    by_cases hq : n = nb ∧ dp ≤ (j : Int) ∧ (j : Int) < dp + k
    · rw [if_pos hq]
      obtain ⟨rfl, hq2, hq3⟩ := hq
      have hz := hP.2 na (sp + ((j : Int) - dp)).toNat
      have hz2 : (((sp + ((j : Int) - dp)).toNat : Nat) : Int) = sp + ((j : Int) - dp) := Int.toNat_of_nonneg (by omega)
      rw [hz2] at hz
      exact ⟨(fun q => hz.1 (slk_i ha _)), (fun q => by rw [slk_i hb] at q; cases q), (hP.2 n j).2.2⟩
    · rw [if_neg hq]
      exact hP.2 n j
  show W p (eL E) e R s m args below meth c H locs cl sl (Z below args s) (F0 m pc ls [.int (Int32.ofInt k), .int (Int32.ofInt dp), cv E (vr nb), .int (Int32.ofInt sp), cv E (vr na)])
  rw [cv_mem hna, cv_mem hnb]
  refine va_copyi (D := eD E) (cl := vwCl) (tys := tysl E) (H0 := s.heap) (A := eA E) (ty := .int) C.1 C.2.1 (C.2.2.1.trans hl.1.symm) C.2.2.2.2.1 (C.2.2.2.2.2.1 _ lk.1) (C.2.2.2.2.2.1 _ lk.2.1) (C.2.2.2.2.2.1 _ lk.2.2.1) (C.2.2.2.2.2.1 _ lk.2.2.2) C.2.2.2.2.2.2.2.1 hP.1 wsl_D hS (adr na) (adr nb) 1 1 (by rw [wsl_at hna, cel_i ha]) (by rw [wsl_at hnb, cel_i hb]) rfl rfl rfl (nn hr1 h1) (nn hr2 h2) (nn hr3 h3) (by rw [cl1 hr1, cl1 hr3]; omega) (by rw [cl1 hr2, cl1 hr3]; omega) (fun _ _ => rfl) hR.1 (by show 0 + (7 + 11) ≤ _; omega) hd (fun H1 locs1 hP1 hD1 hS1 => ?_)
  rw [cl1 hr1, cl1 hr2, cl1 hr3, hset] at hP1
  exact kk p e s m args below meth c C H1 locs1 ls ⟨hP1, hRg⟩ hS1 hL okL_nil hl
theorem go_copyl {na nb : Nm} {la lb idx : Nat} {sp dp k : Int} (hd : decode cc pc = .ok (.invokestatic idx, 3)) (lk : ALk own idx) (ha : shp na = (22, la)) (hb : shp nb = (22, lb)) (h1 : 0 ≤ sp) (h2 : 0 ≤ dp) (h3 : 0 ≤ k) (h4 : sp + k ≤ (la : Int)) (h5 : dp + k ≤ (lb : Int)) (hR : 1 ≤ R.frames ∧ 26 ≤ R.locals) (kk : Go E own cc nL ret R cl sl Z (pc + 3) L [] (cpM M na sp nb dp k) N) : Go E own cc nL ret R cl sl Z pc L [vi k, vi dp, vr nb, vi sp, vr na] M N := by
  intro p e s m args below meth c C H locs ls hP hS hL hst hl
  have hr3 : R32 k := hst.head
  have hr2 : R32 dp := hst.tail.head
  have hr1 : R32 sp := hst.tail.tail.tail.head
  have hnb : nb ∈ nmL := okR_mem hst.tail.tail.head (by rw [hb]; rfl)
  have hna : na ∈ nmL := okR_mem hst.tail.tail.tail.tail.head (by rw [ha]; rfl)
  have cl1 : ∀ {x : Int}, R32 x → (Int32.ofInt x).toNatClampNeg = x.toNat := fun {x} h => Int32.toNatClampNeg_ofInt_of_le (by have := h.1; omega) (by have := h.2; omega)
  have nn : ∀ {x : Int}, R32 x → 0 ≤ x → ¬ Int32.ofInt x < 0 := fun {x} h h0 q => by have := (lt32 (b := 0) h (R32_lit rfl)).mp q; omega
  have hset : (wsl E M N).set (adr nb) (eB E + adr nb, .inl (eC E 2, lb, .inr (.inl (va_cpy (fun j => Int64.ofInt (M na j)) (fun j => Int64.ofInt (M nb j)) sp.toNat dp.toNat k.toNat)))) = wsl E (cpM M na sp nb dp k) N := by
    unfold wsl
    refine map_set hnb ?_ (fun x hx => ?_)
    · rw [cel_l hb]
      refine congrArg (fun f => ((eB E + adr nb, Sum.inl (eC E 2, lb, .inr (.inl (f)))) : Nat × va_E)) ?_
      funext j
      show Int64.ofInt (cpM M na sp nb dp k nb j) = if dp.toNat ≤ j ∧ j < dp.toNat + k.toNat then _ else _
      unfold cpM
      by_cases hj : dp.toNat ≤ j ∧ j < dp.toNat + k.toNat
      · rw [if_pos hj, if_pos ⟨rfl, by omega, by omega⟩]
        refine congrArg (fun z => Int64.ofInt (M na z)) ?_
        omega
      · rw [if_neg hj, if_neg (fun q => hj ⟨by omega, by omega⟩)]
    · refine congrArg (fun z => (eB E + adr x, z)) (cel_congr (fun j => ?_) (fun _ => rfl))
      unfold cpM
      rw [if_neg (fun q => hx q.1)]
  have hRg : Rg (cpM M na sp nb dp k) N := by
    intro n j
    unfold cpM
    by_cases hq : n = nb ∧ dp ≤ (j : Int) ∧ (j : Int) < dp + k
    · rw [if_pos hq]
      obtain ⟨rfl, hq2, hq3⟩ := hq
      have hz := hP.2 na (sp + ((j : Int) - dp)).toNat
      have hz2 : (((sp + ((j : Int) - dp)).toNat : Nat) : Int) = sp + ((j : Int) - dp) := Int.toNat_of_nonneg (by omega)
      rw [hz2] at hz
      exact ⟨(fun q => by rw [slk_l hb] at q; cases q), (fun q => hz.2.1 (slk_l ha _)), (hP.2 n j).2.2⟩
    · rw [if_neg hq]
      exact hP.2 n j
  show W p (eL E) e R s m args below meth c H locs cl sl (Z below args s) (F0 m pc ls [.int (Int32.ofInt k), .int (Int32.ofInt dp), cv E (vr nb), .int (Int32.ofInt sp), cv E (vr na)])
  rw [cv_mem hna, cv_mem hnb]
  refine va_copyl (D := eD E) (cl := vwCl) (tys := tysl E) (H0 := s.heap) (A := eA E) (ty := .long) C.1 C.2.1 (C.2.2.1.trans hl.1.symm) C.2.2.2.2.1 (C.2.2.2.2.2.1 _ lk.1) (C.2.2.2.2.2.1 _ lk.2.1) (C.2.2.2.2.2.1 _ lk.2.2.1) (C.2.2.2.2.2.1 _ lk.2.2.2) C.2.2.2.2.2.2.2.1 hP.1 wsl_D hS (adr na) (adr nb) 2 2 (by rw [wsl_at hna, cel_l ha]) (by rw [wsl_at hnb, cel_l hb]) rfl rfl rfl (nn hr1 h1) (nn hr2 h2) (nn hr3 h3) (by rw [cl1 hr1, cl1 hr3]; omega) (by rw [cl1 hr2, cl1 hr3]; omega) (fun _ _ => rfl) hR.1 (by show 0 + (7 + 11) ≤ _; omega) hd (fun H1 locs1 hP1 hD1 hS1 => ?_)
  rw [cl1 hr1, cl1 hr2, cl1 hr3, hset] at hP1
  exact kk p e s m args below meth c C H1 locs1 ls ⟨hP1, hRg⟩ hS1 hL okL_nil hl
