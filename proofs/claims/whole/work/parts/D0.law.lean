def R_law : String := "RoundedSumsLaw"
def lw_P (b : Addr) (xs : List Int32) (args : Array Value) (s : State) : Prop := args = #[.ref b] ∧ s.IntsAt b xs ∧ xs.length ≤ 3072 ∧ (Jvm.Cond.and given_1 narrow_1).before args s = true
def lw_Q (_ : Array Value) (s : State) (o : Outcome) (t : State) : Prop := o = .returned (some (.int 1)) ∧ Framed s o t [] 601024 7293034
def lw_Z (below : List Frame) (a : Array Value) (s : State) : State → Prop := fun t => ∃ o, t.status = .running ∧ Ended t below o ∧ lw_Q a s o t
/-- the law's own end, with 1 on the stack, nothing written that was there before, its room as the claim has it -/
theorem lw_ret {p : Program} {l : Launch} {e : Env} {s : State} {m : MethodId} {below : List Frame} {meth : Method} {c : Code} {b : Nat} (hx : p.tables.exec = Jvm.exec) (hb : c.code = code) (hr : meth.sig.returnType = ret) (hlocks : meth.locks = false) {pc : Nat} {H : Heap} {ls : Array Slot} (hdg : decode code pc = .ok (.ireturn, 1)) : W p l e room_1 s m #[Value.ref b] below meth c H [] 601024 7293034 (lw_Z below #[Value.ref b] s) (F0 m pc ls [.int 1]) := by
  intro T hT X
  obtain ⟨fs, hret, hrun, hended, hW, hframe⟩ := X.leave (v := some (.int 1)) (hlocks := hlocks) (fun h => by rw [hr] at h; cases h)
  have hmeth' : T.vm.method? m = some meth := X.method'
  refine ⟨T.setFrames fs, ?_, .returned (some (.int 1)), hrun, hended, rfl, ⟨_, rfl⟩, hW, hframe⟩
  jvm_step X.here [X.here.top, hx, hb, hdg, hmeth', hr, ret, narrow_b1]
  (try refine ⟨rfl, ?_⟩); (try refine ⟨rfl, ?_⟩)
  first | (intro acts; rw [hret _ acts rfl rfl rfl]) | rw [hret _ _ rfl rfl rfl]
  exact Steps.refl _
/-- what holds at the law's entry: the machine, the code, the tables' words (any of lw_tbl by 'hts w (by decide +kernel)'), the script of L ints xs at the cell b, what the Statement gives of the start (any of its parts by flat_of_before) -/
def lw_At (p : Program) (s : State) (m : MethodId) (meth : Method) (c : Code) (b L : Nat) (xs : Nat → Int32) : Prop :=
  p.tables.exec = Jvm.exec ∧ c.code = code ∧ meth.sig.returnType = ret ∧ c.maxLocals = 7 ∧ s.vm.findClass R_law = some m.cls ∧ (∀ w ∈ lw_tbl, w.before #[Value.ref b] s = true) ∧ va_X b L xs s s.heap ∧ b < s.heap.size ∧ meth.locks = false ∧ (Jvm.Cond.and given_1 narrow_1).before #[Value.ref b] s = true
/-! the law's own rules -/
theorem lwg_ret {p : Program} {l : Launch} {e : Env} {s : State} {m : MethodId} {below : List Frame} {meth : Method} {c : Code} {args : Array Value} (hx : p.tables.exec = Jvm.exec) (hb : c.code = code) (hr : meth.sig.returnType = ret) (hlocks : meth.locks = false) {pc : Nat} {H : Heap} {ls : Array Slot} (hdg : decode code pc = .ok (.ireturn, 1)) : W p l e room_1 s m args below meth c H [] 601024 7293034 (lw_Z below args s) (F0 m pc ls [.int 1]) := by
  intro T hT X
  obtain ⟨fs, hret, hrun, hended, hW, hframe⟩ := X.leave (v := some (.int 1)) (hlocks := hlocks) (fun h => by rw [hr] at h; cases h)
  have hmeth' : T.vm.method? m = some meth := X.method'
  refine ⟨T.setFrames fs, ?_, .returned (some (.int 1)), hrun, hended, rfl, ⟨_, rfl⟩, hW, hframe⟩
  jvm_step X.here [X.here.top, hx, hb, hdg, hmeth', hr, ret, narrow_b1]
  (try refine ⟨rfl, ?_⟩); (try refine ⟨rfl, ?_⟩)
  first | (intro acts; rw [hret _ acts rfl rfl rfl]) | rw [hret _ _ rfl rfl rfl]
  exact Steps.refl _
def zLw (E : Ev) : Zt := fun below args s t => s.heap.size = eB E → lw_Z below args s t
def sc (xs : Nat → Int32) (j : Int) : Int := (xs j.toNat).toInt
section LW
variable {E : Ev} {own : String} {cc : ByteArray} {nL : Nat} {ret : Option FieldType} {R : Room} {cl sl : Nat} {Z : Zt} {pc : Nat} {L st : List Vv} {M : Mm} {N : Nn} {Q : Option Vv → Mm → Nn → Prop}
theorem go_lawend (hd : decode cL_law pc = .ok (.ireturn, 1)) (hc : cl ≤ 601024) (hs : sl ≤ 7293034) : Go E RL cL_law 7 (some .boolean) room_1 cl sl (zLw E) pc L [vi 1] M N := by
  intro p e s m args below meth c C H locs ls hP hS hL hst hl T hT X
  by_cases h : s.heap.size = eB E
  · have g : W p (eL E) e room_1 s m args below meth c H locs cl sl (lw_Z below args s) (F0 m pc ls [.int 1]) := W.widen hc hs (va_forget (fun q hq => by rw [h]; exact hS.2.2 q hq) (lwg_ret C.1 C.2.1 C.2.2.2.1 C.2.2.2.2.2.2.1 hd))
    obtain ⟨t, a, b⟩ := g T hT X
    exact ⟨t, a, fun _ => b⟩
  · exact ⟨_, Steps.refl _, fun z => absurd z h⟩
theorem go_wkL {L2 : List Vv} (h : ∀ (i : Nat) (v : Vv), L2[i]? = some v → v ≠ vn → L[i]? = some v) (k : Go E own cc nL ret R cl sl Z pc L2 st M N) : Go E own cc nL ret R cl sl Z pc L st M N := by
  intro p e s m args below meth c C H locs ls hP hS hL hst hl
  refine k p e s m args below meth c C H locs ls hP hS (fun v hv => ?_) hst (lv_mono hl (fun q hq => ?_))
  · obtain ⟨i, hi⟩ := List.getElem?_of_mem hv
    by_cases z : v = vn
    · rw [z]; trivial
    · exact hL.at (h i v hi z)
  · obtain ⟨v, v1, v2, v3⟩ := lvl_mem.mp hq
    exact lvl_mem.mpr ⟨v, h _ v v1 v2, v2, v3⟩
/-- the script -/
def EC (E : Ev) (L0 : Nat) (xs : Nat → Int32) : Prop := (∀ s, eF E s → va_X (eS E) L0 xs s s.heap) ∧ eS E < eB E ∧ L0 ≤ 3072
theorem go_scr {L0 : Nat} {xs : Nat → Int32} {j : Int} (hX : EC E L0 xs) (hd : decode cc pc = .ok (.iaload, 1)) (h0 : 0 ≤ j) (h1 : j < L0) (k : Go E own cc nL ret R cl sl Z (pc + 1) L (vi (sc xs j) :: st) M N) : Go E own cc nL ret R cl sl Z pc L (vi j :: vr (1, 0, 0) :: st) M N := by
  intro p e s m args below meth c C H locs ls hP hS hL hst hl
  obtain ⟨x1, x2, x3⟩ := hX
  have hF := C.2.2.2.2.2.2.2.2.2.1
  have hB := C.2.2.2.2.2.2.2.2.1
  have kk := k p e s m args below meth c C H locs ls hP hS hL (okL_cons (R32_of _) hst.tail.tail) hl
  have hvj : (Int32.ofInt j).toInt = j := i32 ⟨by omega, by omega⟩
  have hcl : (Int32.ofInt j).toNatClampNeg = j.toNat := by
    show (Int32.ofInt j).toInt.toNat = j.toNat
    rw [hvj]
  show W p (eL E) e R s m args below meth c H locs cl sl (Z below args s) (F0 m pc ls (.int (Int32.ofInt j) :: .ref (eS E) :: st.map (cv E)))
  refine va_sld (A := eA E) C.1 C.2.1 (x1 s hF) (Nat.lt_of_lt_of_le x2 hB) (fun z => absurd (show eB E ≤ eS E from z) (Nat.not_le.mpr x2)) hS ?_ hd ?_
  · rintro (q | q)
    · have q := Int32.lt_iff_toInt_lt.mp q
      rw [hvj] at q
      have q : j < 0 := q
      omega
    · rw [hcl] at q; omega
  · rw [hcl]
    have e1 : (Int32.ofInt (sc xs j)) = xs j.toNat := Int32.ofInt_toInt _
    rw [show (vi (sc xs j) :: st).map (cv E) = .int (Int32.ofInt (sc xs j)) :: st.map (cv E) from rfl, e1] at kk
    exact kk
theorem go_sclen {L0 : Nat} {xs : Nat → Int32} (hX : EC E L0 xs) (hd : decode cc pc = .ok (.arraylength, 1)) (k : Go E own cc nL ret R cl sl Z (pc + 1) L (vi (L0 : Int) :: st) M N) : Go E own cc nL ret R cl sl Z pc L (vr (1, 0, 0) :: st) M N := by
  intro p e s m args below meth c C H locs ls hP hS hL hst hl
  obtain ⟨x1, x2, x3⟩ := hX
  have hF := C.2.2.2.2.2.2.2.2.2.1
  have hB := C.2.2.2.2.2.2.2.2.1
  have kk := k p e s m args below meth c C H locs ls hP hS hL (okL_cons (v := vi (L0 : Int)) ⟨by omega, by omega⟩ hst.tail) hl
  show W p (eL E) e R s m args below meth c H locs cl sl (Z below args s) (F0 m pc ls (.ref (eS E) :: st.map (cv E)))
  refine va_slen (A := eA E) C.1 C.2.1 (x1 s hF) (Nat.lt_of_lt_of_le x2 hB) (fun z => absurd (show eB E ≤ eS E from z) (Nat.not_le.mpr x2)) hS hd ?_
  have e1 : Int32.ofNat L0 = Int32.ofInt (L0 : Int) := o32_eq (Int32.toInt_ofNat_of_lt (by omega))
  rw [e1]
  exact kk
theorem W_runD {mc ms : Nat} {p : Program} {e : Env} {s : State} {m : MethodId} {args : Array Value} {below : List Frame} {meth : Method} {c : Code} {H : Heap} {locs : List Loc} {ls : Array Slot} {a : Array Value} {st0 : List Value} {Qc : Option Vv → Mm → Nn → Prop} (C : Cx E own cc nL ret p s m args meth c) (hS : va_S (eA E) s.heap H locs) (hL : okL L) (hst : okL st) (hl : lv_has ls nL (lvl E L))
    (hr : va_Run p (eL E) e R s m args below meth c H locs cl sl mc ms (F0 m pc ls st0) (st.map (cv E)) (QcE E Qc a) (eA E))
    (k : ∀ (r : Option Vv) (M' : Mm) (N' : Nn), Qc r M' N' → Go E own cc nL ret R (cl + mc) (sl + ms) Z (pc + 3) L (r.toList ++ st) M' N') : W p (eL E) e R s m args below meth c H locs cl sl (Z below args s) (F0 m pc ls st0) := by
  intro T hT X
  obtain ⟨v, st₀, t, T', L1, h0, X', hL1, e1, e2, ⟨r, M', N', hv, hok, hq, hP', hz, hk⟩, hsteps⟩ := hr T hT X
  cases hv
  rw [h0] at hz hk
  have hst2 : okL (r.toList ++ st) := by
    intro w hw
    rcases List.mem_append.mp hw with h | h
    · exact hok w (by simpa using h)
    · exact hst w h
  have hS' : va_S (eA E) s.heap T'.heap (locs ++ L1) := by
    refine ⟨Nat.le_trans hS.1 (by rw [e1]; exact hz), fun q h1 h2 => ?_, fun q hq => ?_⟩
    · rw [e1, hk q (Nat.lt_of_lt_of_le h1 hS.1) h2]
      exact hS.2.1 q h1 h2
    · rcases List.mem_append.mp hq with h | h
      · exact hS.2.2 q h
      · exact hL1 q h
  obtain ⟨t2, a1, b1⟩ := k r M' N' hq p e s m args below meth c C T'.heap (locs ++ L1) ls (by rw [e1]; exact hP') hS' hL hst2 hl T' rfl X'
  have e3 : (r.map (cv E)).toList ++ st.map (cv E) = (r.toList ++ st).map (cv E) := by
    cases r <;> rfl
  refine ⟨t2, hsteps t2 ?_, b1⟩
  show Steps p.tables e below (T'.setTop (F0 m (pc + 3) ls ((r.map (cv E)).toList ++ st.map (cv E)))) t2
  rw [e3]
  exact a1
theorem go_callD {i : Int} {P : Int → Mm → Nn → Prop} (hd : decode cc pc = .ok (.invokestatic 138, 3)) (hct : Nat.ble (ctL st) 8 = true) (hR : 8 ≤ R.frames ∧ 303 ≤ R.locals) (hcl : cl + 1 ≤ R.cells ∧ sl + 6 ≤ R.slots) (hc : CtD E yL_doubtful cL_doubtful 4 ((some .int)) [(0, 9, 12, 13)] (rmF 7 1 6) [vr (3, 0, 0), vi i, vr (31, 0, 0)] M N (qi P) 1 6)
    (k : ∀ r M1 N1, R32 r → P r M1 N1 → Go E RL cc nL ret R (cl + 1) (sl + 6) Z (pc + 3) L (vi r :: st) M1 N1) : Go E RL cc nL ret R cl sl Z pc L (vr (31, 0, 0) :: vi i :: vr (3, 0, 0) :: st) M N := by
  intro p e s m args below meth c C H locs ls hP hS hL hst hl
  have hts := C.2.2.2.2.2.1
  have hokA : okL [vr (3, 0, 0), vi i, vr (31, 0, 0)] := okL_cons hst.tail.tail.head (okL_cons hst.tail.head (okL_cons hst.head okL_nil))
  refine W_runD (mc := 1) (ms := 6) (a := ([vr (3, 0, 0), vi i, vr (31, 0, 0)].map (cv E)).toArray) (Qc := qi P) C hS hL hst.tail.tail.tail hl ?_ (fun r M1 N1 h => by obtain ⟨z, rfl, h1, h⟩ := h; exact k z M1 N1 h1 h)
  have hG : GoodIn BIG (va_wsS RL 138 yL_doubtful (.codeWith yL_doubtful cL_doubtful 4 (some .int) [(0, 9, 12, 13)] :: BIG)) := by
    intro w hw
    unfold va_wsS at hw
    rcases List.mem_append.mp hw with hw | hw
    · simp only [List.mem_cons, List.not_mem_nil, or_false] at hw
      rcases hw with rfl | rfl | rfl
      · exact big_good _ xl_ml
      · exact big_good _ xl_st
      · exact big_good _ xl_in
    · rcases List.mem_cons.mp hw with rfl | hw
      · exact big_good _ xl_cw
      · exact big_good w hw
  refine vx_runSW (hh := [(0, 9, 12, 13)]) (Ts := BIG) (cc := cc) (nL := nL) (As := [vr (3, 0, 0), vi i, vr (31, 0, 0)].map (cv E)) (Pc := va_Pc ([vr (3, 0, 0), vi i, vr (31, 0, 0)].map (cv E)) (fun U => Bs E U ∧ Hd E M N U.heap ∧ okL [vr (3, 0, 0), vi i, vr (31, 0, 0)])) ⟨C.1, C.2.1, C.2.2.1, C.2.2.2.2.1, hts⟩ hc (vx_cwSW 3 hts hG rfl rfl rfl ⟨by decide +kernel, by decide +kernel, by decide +kernel⟩ ⟨hR.1, hR.2⟩) ?_ rfl rfl hl.1 rfl ?_ hd hcl
  · exact ⟨fun a U g mk hq => ⟨hq.1, Bs.blind hq.2.1, hq.2.2⟩, fun U hU hW => ⟨rfl, C.2.2.2.2.2.2.2.next hS hU hW, by rw [hU]; exact hP, hokA⟩⟩
  · show 2 * 0 + _ ≤ 8
    rw [ctL_cat]
    have := Nat.le_of_ble_eq_true hct
    omega
end LW
