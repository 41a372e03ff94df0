variable {E : Ev} {own : String} {cc : ByteArray} {nL : Nat} {ret : Option FieldType} {R : Room} {cl sl : Nat} {Z : Zt} {pc : Nat} {L st : List Vv} {M : Mm} {N : Nn}
theorem nmL_nodup : nmL.Nodup := by decide +kernel
theorem nm_at {n : Nm} (h : n ∈ nmL) : nmL[adr n]? = some n := by
  unfold adr
  rw [List.getElem?_eq_getElem (List.idxOf_lt_length_of_mem h)]
  exact congrArg some (List.getElem_idxOf _)
theorem nm_lt {n : Nm} (h : n ∈ nmL) : adr n < nmL.length := List.idxOf_lt_length_of_mem h
theorem nm_idx {i : Nat} {n : Nm} (h : nmL[i]? = some n) : i = adr n := by
  have hm : n ∈ nmL := List.mem_of_getElem? h
  have hl : i < nmL.length := (List.getElem?_eq_some_iff.mp h).1
  exact (List.getElem?_inj hl nmL_nodup).mp (h.trans (nm_at hm).symm)
theorem adr_inj {n n' : Nm} (h : n ∈ nmL) (h' : n' ∈ nmL) (e : adr n = adr n') : n = n' := by
  have h1 := nm_at h
  rw [e, nm_at h'] at h1
  exact (Option.some.inj h1).symm
theorem wsl_at {n : Nm} (h : n ∈ nmL) : (wsl E M N)[adr n]? = some (eB E + adr n, cel E M N n) := by
  unfold wsl
  rw [List.getElem?_map, nm_at h]
  rfl
theorem wsl_D : va_D (eA E) (wsl E M N) := by
  constructor
  · intro i j p q hi hj hpq
    unfold wsl at hi hj
    rw [List.getElem?_map] at hi hj
    cases hx : nmL[i]? with
    | none => rw [hx] at hi; cases hi
    | some x =>
      cases hy : nmL[j]? with
      | none => rw [hy] at hj; cases hj
      | some y =>
        rw [hx] at hi; rw [hy] at hj
        cases hi; cases hj
        have h1 : eB E + adr x = eB E + adr y := hpq
        have h2 := nm_idx hx
        have h3 := nm_idx hy
        omega
  · intro k q hk
    unfold wsl at hk
    rw [List.getElem?_map] at hk
    cases hx : nmL[k]? with
    | none => rw [hx] at hk; cases hk
    | some x => rw [hx] at hk; cases hk; exact Nat.le_add_right _ _
theorem map_set {β : Type} {f f' : Nm → β} {n : Nm} {b : β} (hn : n ∈ nmL) (h1 : f' n = b) (h2 : ∀ x, x ≠ n → f' x = f x) : (nmL.map f).set (adr n) b = nmL.map f' := by
  apply List.ext_getElem?
  intro i
  by_cases hi : i = adr n
  · subst hi
    rw [List.getElem?_set_self (by rw [List.length_map]; exact nm_lt hn), List.getElem?_map, nm_at hn]
    show some b = some (f' n)
    rw [h1]
  · rw [List.getElem?_set_ne (Ne.symm hi), List.getElem?_map, List.getElem?_map]
    cases hx : nmL[i]? with
    | none => rfl
    | some x =>
      have hne : x ≠ n := by
        intro e
        exact hi (by rw [← e]; exact nm_idx hx)
      show some (f x) = some (f' x)
      rw [h2 x hne]
theorem okR_mem {n : Nm} (h : okR n) (hs : Nat.blt (shp n).1 99 = true) : n ∈ nmL := by
  rcases h with h | h
  · obtain ⟨k, a, b⟩ := n
    have hk : k = 0 ∨ k = 1 ∨ k = 2 := by change k ≤ 2 at h; omega
    rcases hk with rfl | rfl | rfl
    · exact absurd (show false = true from hs) Bool.false_ne_true
    · exact absurd (show false = true from hs) Bool.false_ne_true
    · exact absurd (show false = true from hs) Bool.false_ne_true
  · exact h
theorem cv_mem {n : Nm} (h : n ∈ nmL) : cv E (vr n) = .ref (eB E + adr n) := by
  show va_rf (orf E n) = _
  rw [orf_mem h]
  rfl
theorem cel_congr {M' : Mm} {N' : Nn} {n : Nm} (h1 : ∀ j : Nat, M' n j = M n j) (h2 : ∀ j : Nat, N' n j = N n j) : cel E M' N' n = cel E M N n := by
  have hf : fvl E M' N' n = fvl E M N n := by
    funext k
    unfold fvl rel
    rw [h1, h2]
  have hr : rel N' n = rel N n := by
    funext k
    unfold rel
    rw [h2]
  unfold cel
  rw [hf, hr]
  simp only [h1]
def wr (M : Mm) (n : Nm) (k x : Int) : Mm := fun n' k' => if n' = n ∧ k' = k then x else M n' k'
def wrN (N : Nn) (n : Nm) (k : Int) (r : Nm) : Nn := fun n' k' => if n' = n ∧ k' = k then r else N n' k'
theorem wr_eq (M : Mm) (n : Nm) (k x : Int) : wr M n k x n k = x := if_pos ⟨rfl, rfl⟩
theorem wr_ne {M : Mm} {n n' : Nm} {k k' x : Int} (h : ¬ (n' = n ∧ k' = k)) : wr M n k x n' k' = M n' k' := if_neg h
theorem wr_nk {M : Mm} {n : Nm} {k k' x : Int} (h : k' ≠ k) : wr M n k x n k' = M n k' := if_neg (fun q => h q.2)
theorem wr_nn {M : Mm} {n n' : Nm} {k k' x : Int} (h : n' ≠ n) : wr M n k x n' k' = M n' k' := if_neg (fun q => h q.1)
theorem wrN_eq (N : Nn) (n : Nm) (k : Int) (r : Nm) : wrN N n k r n k = r := if_pos ⟨rfl, rfl⟩
theorem wrN_ne {N : Nn} {n n' : Nm} {k k' : Int} {r : Nm} (h : ¬ (n' = n ∧ k' = k)) : wrN N n k r n' k' = N n' k' := if_neg h
theorem Rg_wr {n : Nm} {k : Nat} {x : Int} (h : Rg M N) (h0 : slk n k = 0 → R32 x) (h1 : slk n k = 1 → R64 x) : Rg (wr M n k x) N := by
  intro n' j
  by_cases e : n' = n ∧ (j : Int) = k
  · obtain ⟨rfl, e2⟩ := e
    have e3 : j = k := by omega
    subst e3
    rw [wr_eq]
    exact ⟨h0, h1, (h n' j).2.2⟩
  · rw [wr_ne e]
    exact h n' j
theorem Rg_wrN {n r : Nm} {k : Nat} (h : Rg M N) (hr : okR r) : Rg M (wrN N n k r) := by
  intro n' j
  refine ⟨(h n' j).1, (h n' j).2.1, ?_⟩
  by_cases e : n' = n ∧ (j : Int) = k
  · obtain ⟨rfl, e2⟩ := e
    rw [e2, wrN_eq]
    exact hr
  · rw [wrN_ne e]
    exact (h n' j).2.2
theorem shp_nf : ∀ n ∈ nmL, Nat.blt (shp n).1 20 = true → vwCl[(shp n).1]?.map (fun q => q.2.2) = some (shp n).2 := by decide +kernel
/-- a field's link -/
def FLk (own : String) (idx ci k : Nat) : Prop := ∃ (C : String) (T : u_T) (Nf : Nat), vwCl[ci]? = some (C, T, Nf) ∧ k < Nf ∧ Nat.blt ci 20 = true ∧ (∀ w ∈ u_ws C T Nf, w ∈ BIG) ∧ Cond.fieldLink own idx (T k).1 (T k).2.1 (T k).2.2.1 ∈ BIG
/-- .. of one that may be written -/
def PLk (own : String) (idx ci k : Nat) (ty : FieldType) : Prop := ∃ (C : String) (T : u_T) (Nf : Nat), vwCl[ci]? = some (C, T, Nf) ∧ k < Nf ∧ Nat.blt ci 20 = true ∧ (∀ w ∈ u_ws C T Nf, w ∈ BIG) ∧ Cond.fieldLink own idx (T k).1 (T k).2.1 (T k).2.2.1 ∈ BIG ∧
  (∃ ty0 : Nat → FieldType, ∀ k, k < Nf → parseFieldDescriptor (T k).2.2.1 = some (ty0 k)) ∧ (∀ a, a < Nf → ∀ b, b < Nf → a ≠ b → (T a).2.1 ≠ (T b).2.1) ∧ (T k).2.2.2 = false ∧ parseFieldDescriptor (T k).2.2.1 = some ty
section WL
variable {p : Program} {e : Env} {s : State} {m : MethodId} {args : Array Value} {below : List Frame} {meth : Method} {c : Code} {H : Heap} {locs : List Loc} {ls : Array Slot} {rest : List Value} {Q : State → Prop}
theorem cel_obj {n : Nm} {ci Nf : Nat} (hs : (shp n).1 = ci) (h3 : Nat.blt ci 20 = true) (hz : (shp n).2 = Nf) : cel E M N n = .inr (ci, (List.range Nf).map (fvl E M N n)) := by
  unfold cel
  rw [hs, h3, hz]
  rfl
theorem W_get {n : Nm} {idx k ci : Nat} (lk : FLk own idx ci k) (hn : n ∈ nmL) (hs : (shp n).1 = ci) (C : Cx E own cc nL ret p s m args meth c) (hP : Hd E M N H) (hd : decode cc pc = .ok (.getfield idx, 3))
    (kk : W p (eL E) e R s m args below meth c H locs cl sl Q (F0 m (pc + 3) ls (fvl E M N n k :: rest))) : W p (eL E) e R s m args below meth c H locs cl sl Q (F0 m pc ls (.ref (eB E + adr n) :: rest)) := by
  obtain ⟨Cn, T, Nf, h1, h2, h3, h4, h5⟩ := lk
  have hsz : (shp n).2 = Nf := by
    have h := shp_nf n hn (by rw [hs]; exact h3)
    rw [hs, h1] at h
    exact (Option.some.inj h).symm
  refine va_get (D := eD E) (cl := vwCl) (tys := tysl E) (C := Cn) (T := T) (N := Nf) (ref := (T k).1) C.1 C.2.1 C.2.2.2.2.2.1 h4 C.2.2.2.2.1 C.2.2.2.2.2.2.2.1 hP.1 (adr n) (by rw [wsl_at hn, cel_obj hs h3 hsz]) h1 k h2 (C.2.2.2.2.2.1 _ h5) (fun _ h => h) ?_ hd kk
  rw [List.getElem?_map, List.getElem?_range h2]
  rfl
theorem W_put {M' : Mm} {N' : Nn} {v : Value} {n : Nm} {idx k ci : Nat} {ty : FieldType} (lk : PLk own idx ci k ty) (hn : n ∈ nmL) (hs : (shp n).1 = ci) (C : Cx E own cc nL ret p s m args meth c) (hP : Hd E M N H) (hS : va_S (eA E) s.heap H locs)
    (hnar : narrow ty v = v) (hfit : fits ty v = true) (hv : ∀ j : Nat, fvl E M' N' n j = if j = k then v else fvl E M N n j) (ho : ∀ n', n' ≠ n → cel E M' N' n' = cel E M N n') (hR : Rg M' N') (hd : decode cc pc = .ok (.putfield idx, 3))
    (kk : ∀ (H : Heap) (locs : List Loc), Hd E M' N' H → va_S (eA E) s.heap H locs → W p (eL E) e R s m args below meth c H locs cl sl Q (F0 m (pc + 3) ls rest)) : W p (eL E) e R s m args below meth c H locs cl sl Q (F0 m pc ls (v :: .ref (eB E + adr n) :: rest)) := by
  obtain ⟨Cn, T, Nf, h1, h2, h3, h4, h5, ⟨ty0, h6⟩, h7, h8, h9⟩ := lk
  have hsz : (shp n).2 = Nf := by
    have h := shp_nf n hn (by rw [hs]; exact h3)
    rw [hs, h1] at h
    exact (Option.some.inj h).symm
  have hset : (wsl E M N).set (adr n) (eB E + adr n, .inr (ci, ((List.range Nf).map (fvl E M N n)).set k v)) = wsl E M' N' := by
    unfold wsl
    refine map_set hn ?_ (fun x hx => ?_)
    · rw [cel_obj hs h3 hsz]
      refine congrArg (fun l => (eB E + adr n, Sum.inr (ci, l))) ?_
      apply List.ext_getElem?
      intro i
      by_cases hi : i < Nf
      · by_cases hik : i = k
        · subst hik
          rw [List.getElem?_set_self (by simp [hi]), List.getElem?_map, List.getElem?_range hi]
          show some (fvl E M' N' n i) = _
          rw [hv, if_pos rfl]
        · rw [List.getElem?_set_ne (Ne.symm hik), List.getElem?_map, List.getElem?_map, List.getElem?_range hi]
          show some (fvl E M' N' n i) = some (fvl E M N n i)
          rw [hv, if_neg hik]
      · rw [List.getElem?_eq_none (by simp; omega), List.getElem?_eq_none (by simp; omega)]
    · rw [ho x hx]
  refine va_put (D := eD E) (cl := vwCl) (tys := tysl E) (C := Cn) (T := T) (N := Nf) (ref := (T k).1) (ty := ty) (H0 := s.heap) (A := eA E) C.1 C.2.1 C.2.2.2.2.2.1 h4 ty0 h6 h7 C.2.2.2.2.1 C.2.2.2.2.2.2.2.1 hP.1 wsl_D hS (adr n) (by rw [wsl_at hn, cel_obj hs h3 hsz]) h1 k h2 (C.2.2.2.2.2.1 _ h5) (fun _ h => h) h8 h9 hnar hfit (by simp [h2]) hd (fun H1 locs1 hP1 hD1 hS1 => ?_)
  rw [hset] at hP1
  exact kk H1 locs1 ⟨hP1, hR⟩ hS1
end WL
theorem go_get0 {n : Nm} {idx k ci : Nat} (hd : decode cc pc = .ok (.getfield idx, 3)) (lk : FLk own idx ci k) (hs : (shp n).1 = ci) (h9 : Nat.blt ci 99 = true) (h0 : slk n k = 0) (kk : Go E own cc nL ret R cl sl Z (pc + 3) L (vi (M n k) :: st) M N) : Go E own cc nL ret R cl sl Z pc L (vr n :: st) M N := by
  intro p e s m args below meth c C H locs ls hP hS hL hst hl
  have hn : n ∈ nmL := okR_mem hst.head (by rw [hs]; exact h9)
  have k1 := kk p e s m args below meth c C H locs ls hP hS hL (okL_cons ((hP.2 n k).1 h0) hst.tail) hl
  show W p (eL E) e R s m args below meth c H locs cl sl (Z below args s) (F0 m pc ls (cv E (vr n) :: st.map (cv E)))
  rw [cv_mem hn]
  refine W_get lk hn hs C hP hd ?_
  have hv : fvl E M N n k = cv E (vi (M n k)) := by unfold fvl; rw [h0]; rfl
  rw [hv]
  exact k1
theorem go_get1 {n : Nm} {idx k ci : Nat} (hd : decode cc pc = .ok (.getfield idx, 3)) (lk : FLk own idx ci k) (hs : (shp n).1 = ci) (h9 : Nat.blt ci 99 = true) (h0 : slk n k = 1) (kk : Go E own cc nL ret R cl sl Z (pc + 3) L (vl (M n k) :: st) M N) : Go E own cc nL ret R cl sl Z pc L (vr n :: st) M N := by
  intro p e s m args below meth c C H locs ls hP hS hL hst hl
  have hn : n ∈ nmL := okR_mem hst.head (by rw [hs]; exact h9)
  have k1 := kk p e s m args below meth c C H locs ls hP hS hL (okL_cons ((hP.2 n k).2.1 h0) hst.tail) hl
  show W p (eL E) e R s m args below meth c H locs cl sl (Z below args s) (F0 m pc ls (cv E (vr n) :: st.map (cv E)))
  rw [cv_mem hn]
  refine W_get lk hn hs C hP hd ?_
  have hv : fvl E M N n k = cv E (vl (M n k)) := by unfold fvl; rw [h0]; rfl
  rw [hv]
  exact k1
theorem sref_okb : nmL.all (fun n => (List.range 52).all (fun k => !(Nat.blt k (shp n).2 && Nat.beq (slk n k) 2) || decide (sref n k ∈ nmL))) = true := by decide +kernel
theorem sref_ok0 (n : Nm) (hn : n ∈ nmL) (k : Nat) (hk : k < 52) (h1 : k < (shp n).2) (h2 : slk n k = 2) : sref n k ∈ nmL := by
  have h := List.all_eq_true.mp (List.all_eq_true.mp sref_okb n hn) k (List.mem_range.mpr hk)
  have h3 : Nat.blt k (shp n).2 = true := Nat.ble_eq.mpr h1
  rw [h3, h2] at h
  simpa using h
theorem shp_le : ∀ n ∈ nmL, (Nat.blt (shp n).1 20 = true ∨ Nat.beq (shp n).1 24 = true) → (shp n).2 ≤ 52 := by decide +kernel
theorem sref_ok (n : Nm) (hn : n ∈ nmL) (k : Nat) (hk : k < (shp n).2) (h2 : slk n k = 2) : sref n k ∈ nmL := by
  refine sref_ok0 n hn k ?_ hk h2
  have h3 : Nat.blt (shp n).1 20 = true ∨ Nat.beq (shp n).1 24 = true := by
    unfold slk at h2
    cases hc : shp n with
    | mk c len =>
      rw [hc] at h2
      show Nat.blt c 20 = true ∨ Nat.beq c 24 = true
      cases h4 : Nat.blt c 20 with
      | true => exact Or.inl rfl
      | false =>
        cases h5 : Nat.beq c 24 with
        | true => exact Or.inr rfl
        | false =>
          simp only [h4, h5, cond_false] at h2
          cases h6 : Nat.beq c 22 with
          | true => rw [h6] at h2; cases h2
          | false => rw [h6] at h2; cases h2
  exact Nat.lt_of_lt_of_le hk (shp_le n hn h3)
theorem go_get2 {n r : Nm} {idx k ci : Nat} (hd : decode cc pc = .ok (.getfield idx, 3)) (lk : FLk own idx ci k) (hs : (shp n).1 = ci) (h9 : Nat.blt ci 99 = true) (h0 : slk n k = 2) (hr : sref n k = r) (hk : Nat.blt k (shp n).2 = true) (kk : Go E own cc nL ret R cl sl Z (pc + 3) L (vr r :: st) M N) : Go E own cc nL ret R cl sl Z pc L (vr n :: st) M N := by
  subst hr
  intro p e s m args below meth c C H locs ls hP hS hL hst hl
  have hn : n ∈ nmL := okR_mem hst.head (by rw [hs]; exact h9)
  have k1 := kk p e s m args below meth c C H locs ls hP hS hL (okL_cons (Or.inr (sref_ok n hn k (Nat.le_of_ble_eq_true hk) h0)) hst.tail) hl
  show W p (eL E) e R s m args below meth c H locs cl sl (Z below args s) (F0 m pc ls (cv E (vr n) :: st.map (cv E)))
  rw [cv_mem hn]
  refine W_get lk hn hs C hP hd ?_
  have hv : fvl E M N n k = cv E (vr (sref n k)) := by unfold fvl rel; rw [h0]; rfl
  rw [hv]
  exact k1
theorem go_get3 {n : Nm} {idx k ci : Nat} (hd : decode cc pc = .ok (.getfield idx, 3)) (lk : FLk own idx ci k) (hs : (shp n).1 = ci) (h9 : Nat.blt ci 99 = true) (h0 : slk n k = 3) (kk : Go E own cc nL ret R cl sl Z (pc + 3) L (vr (N n k) :: st) M N) : Go E own cc nL ret R cl sl Z pc L (vr n :: st) M N := by
  intro p e s m args below meth c C H locs ls hP hS hL hst hl
  have hn : n ∈ nmL := okR_mem hst.head (by rw [hs]; exact h9)
  have k1 := kk p e s m args below meth c C H locs ls hP hS hL (okL_cons (hP.2 n k).2.2 hst.tail) hl
  show W p (eL E) e R s m args below meth c H locs cl sl (Z below args s) (F0 m pc ls (cv E (vr n) :: st.map (cv E)))
  rw [cv_mem hn]
  refine W_get lk hn hs C hP hd ?_
  have hv : fvl E M N n k = cv E (vr (N n k)) := by unfold fvl rel; rw [h0]; rfl
  rw [hv]
  exact k1
theorem fvl_wr {n : Nm} {k : Nat} {x : Int} (h0 : slk n k = 0) (j : Nat) : fvl E (wr M n k x) N n j = if j = k then .int (Int32.ofInt x) else fvl E M N n j := by
  by_cases e : j = k
  · subst e
    rw [if_pos rfl]
    unfold fvl
    rw [h0, wr_eq]
    rfl
  · rw [if_neg e]
    unfold fvl rel
    rw [wr_nk (by omega)]
theorem fvl_wr1 {n : Nm} {k : Nat} {x : Int} (h0 : slk n k = 1) (j : Nat) : fvl E (wr M n k x) N n j = if j = k then .long (Int64.ofInt x) else fvl E M N n j := by
  by_cases e : j = k
  · subst e
    rw [if_pos rfl]
    unfold fvl
    rw [h0, wr_eq]
    rfl
  · rw [if_neg e]
    unfold fvl rel
    rw [wr_nk (by omega)]
theorem fvl_wrN {n : Nm} {k : Nat} {r : Nm} (h0 : slk n k = 3) (j : Nat) : fvl E M (wrN N n k r) n j = if j = k then rfv E r else fvl E M N n j := by
  by_cases e : j = k
  · subst e
    rw [if_pos rfl]
    unfold fvl rel
    rw [h0, wrN_eq]
    rfl
  · rw [if_neg e]
    unfold fvl rel
    rw [wrN_ne (fun q => e (by omega))]
theorem cel_wr {n n' : Nm} {k x : Int} (h : n' ≠ n) : cel E (wr M n k x) N n' = cel E M N n' := cel_congr (fun _ => wr_nn h) (fun _ => rfl)
theorem cel_wrN {n n' r : Nm} {k : Int} (h : n' ≠ n) : cel E M (wrN N n k r) n' = cel E M N n' := cel_congr (fun _ => rfl) (fun _ => wrN_ne (fun q => h q.1))
theorem go_put0 {n : Nm} {idx k ci : Nat} {x : Int} {ty : FieldType} (hd : decode cc pc = .ok (.putfield idx, 3)) (lk : PLk own idx ci k ty) (hs : (shp n).1 = ci) (h9 : Nat.blt ci 99 = true) (h0 : slk n k = 0) (hnar : narrow ty (.int (Int32.ofInt x)) = .int (Int32.ofInt x)) (hfit : fits ty (.int (Int32.ofInt x)) = true) (kk : Go E own cc nL ret R cl sl Z (pc + 3) L st (wr M n k x) N) : Go E own cc nL ret R cl sl Z pc L (vi x :: vr n :: st) M N := by
  intro p e s m args below meth c C H locs ls hP hS hL hst hl
  have hn : n ∈ nmL := okR_mem hst.tail.head (by rw [hs]; exact h9)
  show W p (eL E) e R s m args below meth c H locs cl sl (Z below args s) (F0 m pc ls (.int (Int32.ofInt x) :: cv E (vr n) :: st.map (cv E)))
  rw [cv_mem hn]
  refine W_put (M' := wr M n k x) (N' := N) lk hn hs C hP hS hnar hfit (fvl_wr h0) (fun n' h => cel_wr h) (Rg_wr hP.2 (fun _ => hst.head) (fun q => by rw [h0] at q; cases q)) hd (fun H1 locs1 hP1 hS1 => ?_)
  exact kk p e s m args below meth c C H1 locs1 ls hP1 hS1 hL hst.tail.tail hl
theorem go_put1 {n : Nm} {idx k ci : Nat} {x : Int} (hd : decode cc pc = .ok (.putfield idx, 3)) (lk : PLk own idx ci k .long) (hs : (shp n).1 = ci) (h9 : Nat.blt ci 99 = true) (h0 : slk n k = 1) (kk : Go E own cc nL ret R cl sl Z (pc + 3) L st (wr M n k x) N) : Go E own cc nL ret R cl sl Z pc L (vl x :: vr n :: st) M N := by
  intro p e s m args below meth c C H locs ls hP hS hL hst hl
  have hn : n ∈ nmL := okR_mem hst.tail.head (by rw [hs]; exact h9)
  show W p (eL E) e R s m args below meth c H locs cl sl (Z below args s) (F0 m pc ls (.long (Int64.ofInt x) :: cv E (vr n) :: st.map (cv E)))
  rw [cv_mem hn]
  refine W_put (M' := wr M n k x) (N' := N) lk hn hs C hP hS rfl rfl (fvl_wr1 h0) (fun n' h => cel_wr h) (Rg_wr hP.2 (fun q => by rw [h0] at q; cases q) (fun _ => hst.head)) hd (fun H1 locs1 hP1 hS1 => ?_)
  exact kk p e s m args below meth c C H1 locs1 ls hP1 hS1 hL hst.tail.tail hl
theorem go_put3 {n r : Nm} {idx k ci : Nat} {ty : FieldType} (hd : decode cc pc = .ok (.putfield idx, 3)) (lk : PLk own idx ci k ty) (hs : (shp n).1 = ci) (h9 : Nat.blt ci 99 = true) (h0 : slk n k = 3) (hty : ∀ a : Nat, narrow ty (.ref a) = .ref a ∧ fits ty (.ref a) = true) (hr : Nat.beq r.1 0 = false) (kk : Go E own cc nL ret R cl sl Z (pc + 3) L st M (wrN N n k r)) : Go E own cc nL ret R cl sl Z pc L (vr r :: vr n :: st) M N := by
  intro p e s m args below meth c C H locs ls hP hS hL hst hl
  have hn : n ∈ nmL := okR_mem hst.tail.head (by rw [hs]; exact h9)
  obtain ⟨a, ha⟩ := orf_some (E := E) (n := r) (fun h => by rw [h] at hr; cases hr)
  have hra : rfv E r = .ref a := by show va_rf (orf E r) = _; rw [ha]; rfl
  show W p (eL E) e R s m args below meth c H locs cl sl (Z below args s) (F0 m pc ls (rfv E r :: cv E (vr n) :: st.map (cv E)))
  rw [cv_mem hn]
  refine W_put (M' := M) (N' := wrN N n k r) lk hn hs C hP hS (by rw [hra]; exact (hty a).1) (by rw [hra]; exact (hty a).2) (fvl_wrN h0) (fun n' h => cel_wrN h) (Rg_wrN hP.2 hst.head) hd (fun H1 locs1 hP1 hS1 => ?_)
  exact kk p e s m args below meth c C H1 locs1 ls hP1 hS1 hL hst.tail.tail hl
