variable {E : Ev} {own : String} {cc : ByteArray} {nL : Nat} {ret : Option FieldType} {R : Room} {cl sl : Nat} {Z : Zt} {pc : Nat} {L st : List Vv} {M : Mm} {N : Nn} {Q : Option Vv → Mm → Nn → Prop}
/-! ends -/
theorem go_iret {x : Int} (hd : decode cc pc = .ok (.ireturn, 1)) (hq : Q (some (vi x)) M N) : Go E own cc nL (some .int) R 0 0 (zM E Q) pc L [vi x] M N := by
  intro p e s m args below meth c C H locs ls hP hS hL hst hl
  exact W.iret C.1 C.2.1 C.2.2.2.1 (fun t ht hW => ⟨some (vi x), M, N, rfl, fun v hv => by cases hv; exact hst.head, hq, by rw [ht]; exact hP, hS.F ht⟩) hS.2.2 hd C.2.2.2.2.2.2.1
theorem go_zret {x : Int} (hd : decode cc pc = .ok (.ireturn, 1)) (hx : x = 0 ∨ x = 1) (hq : Q (some (vi x)) M N) : Go E own cc nL (some .boolean) R 0 0 (zM E Q) pc L [vi x] M N := by
  intro p e s m args below meth c C H locs ls hP hS hL hst hl
  exact W.zret C.1 C.2.1 C.2.2.2.1 (by rcases hx with rfl | rfl <;> rfl) (fun t ht hW => ⟨some (vi x), M, N, rfl, fun v hv => by cases hv; exact hst.head, hq, by rw [ht]; exact hP, hS.F ht⟩) hS.2.2 hd C.2.2.2.2.2.2.1
theorem go_lret {x : Int} (hd : decode cc pc = .ok (.lreturn, 1)) (hq : Q (some (vl x)) M N) : Go E own cc nL (some .long) R 0 0 (zM E Q) pc L [vl x] M N := by
  intro p e s m args below meth c C H locs ls hP hS hL hst hl
  exact W.lret C.1 C.2.1 C.2.2.2.1 (fun t ht hW => ⟨some (vl x), M, N, rfl, fun v hv => by cases hv; exact hst.head, hq, by rw [ht]; exact hP, hS.F ht⟩) hS.2.2 hd C.2.2.2.2.2.2.1
theorem go_vret (hd : decode cc pc = .ok (.return_, 1)) (hq : Q none M N) : Go E own cc nL none R 0 0 (zM E Q) pc L [] M N := by
  intro p e s m args below meth c C H locs ls hP hS hL hst hl
  exact W.vret C.1 C.2.1 C.2.2.2.1 (fun t ht hW => ⟨none, M, N, rfl, (fun v hv => by cases hv), hq, by rw [ht]; exact hP, hS.F ht⟩) hS.2.2 hd C.2.2.2.2.2.2.1
theorem go_aret {n : Nm} {C0 : String} (hd : decode cc pc = .ok (.areturn, 1)) (hq : Q (some (vr n)) M N) : Go E own cc nL (some (.object C0)) R 0 0 (zM E Q) pc L [vr n] M N := by
  intro p e s m args below meth c C H locs ls hP hS hL hst hl
  refine W.aret (v := cv E (vr n)) C.1 C.2.1 C.2.2.2.1 (Or.inl ⟨_, rfl⟩) ?_ (fun t ht hW => ⟨some (vr n), M, N, rfl, fun v hv => by cases hv; exact hst.head, hq, by rw [ht]; exact hP, hS.F ht⟩) hS.2.2 hd C.2.2.2.2.2.2.1
  show va_rf (orf E n) = .null ∨ ∃ a, va_rf (orf E n) = .ref a
  cases orf E n with
  | none => exact Or.inl rfl
  | some a => exact Or.inr ⟨a, rfl⟩
/-! a method's start -/
def en1 : List Vv → List Vv
  | [] => []
  | .inr (.inl x) :: t => vl x :: vn :: en1 t
  | v :: t => v :: en1 t
def enL (As : List Vv) (nL : Nat) : List Vv := en1 As ++ List.replicate (nL - (en1 As).length) vn
theorem en1_long {x : Int} {t : List Vv} : en1 (vl x :: t) = vl x :: vn :: en1 t := rfl
theorem en1_one {v : Vv} {t : List Vv} (h : ∀ x, v ≠ vl x) : en1 (v :: t) = v :: en1 t := by
  rcases v with x | x | n | u
  · rfl
  · exact absurd rfl (h x)
  · rfl
  · rfl
theorem en1_mem : ∀ (As : List Vv) (i j : Nat) (v : Vv), (en1 As)[j]? = some v → v ≠ vn → (i + j, cv E v) ∈ lv_args i (As.map (cv E))
  | [], _, _, _, h, _ => by simp [en1] at h
  | a :: t, i, j, v, h, hn => by
    by_cases ha : ∃ x, a = vl x
    · obtain ⟨x, rfl⟩ := ha
      rw [en1_long] at h
      show (i + j, cv E v) ∈ (i, cv E (vl x)) :: lv_args (if (cv E (vl x)).category = 2 then i + 2 else i + 1) (t.map (cv E))
      rw [if_pos (cv_cat2.mpr ⟨x, rfl⟩)]
      match j, h with
      | 0, h => cases h; exact List.mem_cons_self
      | 1, h => exact absurd (Option.some.inj h).symm hn
      | j + 2, h =>
        have := en1_mem t (i + 2) j v h hn
        rw [show i + (j + 2) = i + 2 + j by omega]
        exact List.mem_cons_of_mem _ this
    · rw [en1_one (fun x e => ha ⟨x, e⟩)] at h
      show (i + j, cv E v) ∈ (i, cv E a) :: lv_args (if (cv E a).category = 2 then i + 2 else i + 1) (t.map (cv E))
      rw [if_neg (fun q => ha (cv_cat2.mp q))]
      match j, h with
      | 0, h => cases h; exact List.mem_cons_self
      | j + 1, h =>
        have := en1_mem t (i + 1) j v h hn
        rw [show i + (j + 1) = i + 1 + j by omega]
        exact List.mem_cons_of_mem _ this
theorem en1_len : ∀ (As : List Vv), (lg_sl (As.map (cv E))).length = (en1 As).length
  | [] => rfl
  | a :: t => by
    have ih := en1_len t
    by_cases ha : ∃ x, a = vl x
    · obtain ⟨x, rfl⟩ := ha
      rw [en1_long]
      show (List.flatMap _ (cv E (vl x) :: t.map (cv E))).length = _
      rw [List.flatMap_cons, if_pos (cv_cat2.mpr ⟨x, rfl⟩), List.length_append]
      show 2 + (lg_sl (t.map (cv E))).length = _
      rw [ih]; simp; omega
    · rw [en1_one (fun x e => ha ⟨x, e⟩)]
      show (List.flatMap _ (cv E a :: t.map (cv E))).length = _
      rw [List.flatMap_cons, if_neg (fun q => ha (cv_cat2.mp q)), List.length_append]
      show 1 + (lg_sl (t.map (cv E))).length = _
      rw [ih]; simp; omega
theorem okL_en1 : ∀ (As : List Vv), okL As → okL (en1 As)
  | [], _ => okL_nil
  | a :: t, h => by
    have ih := okL_en1 t h.tail
    by_cases ha : ∃ x, a = vl x
    · obtain ⟨x, rfl⟩ := ha
      exact okL_cons h.head (okL_cons (v := vn) trivial ih)
    · rw [en1_one (fun x e => ha ⟨x, e⟩)]
      exact okL_cons h.head ih
theorem okL_enL {As : List Vv} (h : okL As) : okL (enL As nL) := by
  intro v hv
  rcases List.mem_append.mp hv with hv | hv
  · exact okL_en1 As h v hv
  · rw [(List.mem_replicate.mp hv).2]; trivial
theorem met_ofW {l : Launch} {y : MethodName} {ws ws' : List Cond} {rm : Room} {Pc : Array Value → State → Prop} {Qc : Array Value → State → Outcome → State → Prop} {mc ms : Nat} {free : Addr → Prop} {cc : ByteArray} {maxL : Nat} {ret : Option FieldType}
    (hy : plainFor y = true) (hw : ws = Cond.code y cc maxL ret :: ws')
    (body : ∀ p e s m args below meth c s₁, BodyLoose p l y (headSpec ws rm) cc maxL ret e s m args below meth c s₁ → c.maxLocals = maxL → Pc args s →
      W p l e (headSpec ws rm).room s m args below meth c s.heap [] 0 0 (MQ below Qc args s mc ms free) (entryFrame m args maxL)) : Met l y ws rm Pc Qc mc ms free := by
  refine MetFree.of_bodySF (code := cc) (maxLocals := maxL) (ret := ret) hy ?_ ?_
  · intro args s m h hn
    obtain ⟨meth, c, h1, h2, h3, h4, h5, h6, -, -⟩ := Cond.code_spec hn (atoms_spec (ws := ws) h _ (by rw [hw]; exact List.mem_cons_self))
    exact ⟨meth, c, h1, h2, h3, h4, h5, h6⟩
  · intro p e s m args below meth c s₁ B hml hP _
    have hh0 : s₁.heap = s.heap := by rw [B.state]; rfl
    obtain ⟨t, a1, o, b1, b2, b3⟩ := body p e s m args below meth c s₁ B hml hP s₁ hh0 (Stand.of_body B)
    exact ⟨t, o, a1, b1, b2, ⟨b3.1, b3.2⟩⟩
theorem ct_of {y : MethodName} {rm : Room} {As L0 : List Vv} (ho : y.cls = own) (hy : plainFor y = true) (hn : Nat.ble (en1 As).length nL = true) (h0 : enL As nL = L0) (k : Go E own cc nL ret rm 0 0 (zM E Q) 0 L0 [] M N) : Ct E y cc nL ret rm As M N Q := by
  subst h0 ho
  refine met_ofW (cc := cc) (maxL := nL) (ret := ret) hy rfl ?_
  intro p e s m args below meth c s₁ B hml hv
  obtain ⟨rfl, hB, hP, hok⟩ := hv
  have hts := atoms_spec (ws := .code y cc nL ret :: BIG) B.pre
  have hown : s.vm.findClass y.cls = some m.cls := findClass_of_methodNamed B.named
  have hlen : (lg_sl (As.map (cv E))).length ≤ nL := by rw [en1_len]; exact Nat.le_of_ble_eq_true hn
  have hl := lv_entry (As.map (cv E)) (n := nL) hlen
  rw [lg_entry_eq]
  refine k p e s m _ below meth c ⟨B.exec, B.bytes, hml, B.returns, hown, fun w hw => hts w (List.mem_cons_of_mem _ hw), B.notSynchronized, hB⟩ s.heap [] _ hP va_S.rf (okL_enL hok) okL_nil (lv_mono hl (fun q hq => ?_))
  obtain ⟨v, h1, h2, h3⟩ := lvl_mem.mp hq
  have h4 : (en1 As)[q.1]? = some v := by
    unfold enL at h1
    by_cases hq1 : q.1 < (en1 As).length
    · rw [List.getElem?_append_left hq1] at h1
      exact h1
    · rw [List.getElem?_append_right (by omega)] at h1
      have := List.mem_of_getElem? h1
      exact absurd (List.mem_replicate.mp this).2 h2
  have h5 := en1_mem (E := E) As 0 q.1 v h4 h2
  rw [Nat.zero_add, ← h3] at h5
  exact h5
/-! calls -/
def ctV : Vv → Nat
  | .inr (.inl _) => 2
  | _ => 1
def ctL (st : List Vv) : Nat := (st.map ctV).sum
theorem ctV_cat (v : Vv) : (cv E v).category = ctV v := by
  rcases v with x | x | n | u
  · rfl
  · rfl
  · show (va_rf (orf E n)).category = 1
    cases orf E n <;> rfl
  · rfl
theorem ctL_cat (st : List Vv) : ((st.map (cv E)).map fun v => v.category).sum = ctL st := by
  unfold ctL
  rw [List.map_map]
  exact congrArg List.sum (List.map_congr_left (fun v _ => ctV_cat v))
theorem Bs.blind {U : State} {g : JFrame} {mk : MethodId} {a : Array Value} (h : Bs E U) : Bs E (U.calling g mk a) :=
  ⟨va_K.moved (u := U) (U := U.calling g mk a) (Vm.Alike.refl U.vm) h.1, h.2.1, h.2.2.2.2 U (U.calling g mk a) rfl rfl h.2.2.1, h.2.2.2⟩
theorem Bs.next {s U : State} {H : Heap} {locs : List Loc} (h : Bs E s) (hS : va_S (eA E) s.heap H locs) (hU : U.heap = H) (hW : s.WarmedH U.vm) : Bs E U := by
  refine ⟨va_K.moved hW.alike h.1, by rw [hU]; exact Nat.le_trans h.2.1 hS.1, h.2.2.2.1 s U h.2.2.1 hW (fun q hq => ?_), h.2.2.2⟩
  rw [hU]
  exact hS.2.1 q (Nat.lt_of_lt_of_le hq h.2.1) (fun z => absurd (show eB E ≤ q from z) (by omega))
section GR
variable {p : Program} {e : Env} {s : State} {m : MethodId} {args : Array Value} {below : List Frame} {meth : Method} {c : Code} {H : Heap} {locs : List Loc} {ls : Array Slot} {a : Array Value}
theorem W_run {st0 : List Value} {Qc : Option Vv → Mm → Nn → Prop} (C : Cx E own cc nL ret p s m args meth c) (hS : va_S (eA E) s.heap H locs) (hL : okL L) (hst : okL st) (hl : lv_has ls nL (lvl E L))
    (hr : va_Run p (eL E) e R s m args below meth c H locs cl sl 0 0 (F0 m pc ls st0) (st.map (cv E)) (QcE E Qc a) (eA E))
    (k : ∀ (r : Option Vv) (M' : Mm) (N' : Nn), Qc r M' N' → Go E own cc nL ret R cl sl Z (pc + 3) L (r.toList ++ st) M' N') : W p (eL E) e R s m args below meth c H locs cl sl (Z below args s) (F0 m pc ls st0) := by
  intro T hT X
  obtain ⟨v, st₀, t, T', L1, h0, X', hL1, e1, e2, ⟨r, M', N', hv, hok, hq, hP', hz, hk⟩, hsteps⟩ := hr T hT X
  cases hv
  rw [h0] at hz hk
  have hst2 : okL (r.toList ++ st) := by
    intro w hw
    rcases List.mem_append.mp hw with h | h
    · exact hok w (by simpa using h)
    · exact hst w h
  have hS' : va_S (eA E) s.heap T'.heap (locs ++ L1) := by
    refine ⟨Nat.le_trans hS.1 (by rw [e1]; exact hz), fun q h1 h2 => ?_, fun q hq => ?_⟩
    · rw [e1, hk q (Nat.lt_of_lt_of_le h1 hS.1) h2]
      exact hS.2.1 q h1 h2
    · rcases List.mem_append.mp hq with h | h
      · exact hS.2.2 q h
      · exact hL1 q h
  obtain ⟨t2, a1, b1⟩ := k r M' N' hq p e s m args below meth c C T'.heap (locs ++ L1) ls (by rw [e1]; exact hP') hS' hL hst2 hl T' rfl X'
  have e3 : (r.map (cv E)).toList ++ st.map (cv E) = (r.toList ++ st).map (cv E) := by
    cases r <;> rfl
  refine ⟨t2, hsteps t2 ?_, b1⟩
  show Steps p.tables e below (T'.setTop (F0 m (pc + 3) ls ((r.map (cv E)).toList ++ st.map (cv E)))) t2
  rw [e3]
  exact a1
end GR
/-- a call's words -/
def LkV (own : String) (idx ci : Nat) (y : MethodName) (bytes : ByteArray) (maxL : Nat) (rt : Option FieldType) (n : Nat) : Prop :=
  Cond.methodLink own idx y ∈ BIG ∧ Cond.instanceMethod y ∈ BIG ∧ Cond.selects y.cls y y ∈ BIG ∧ Cond.initialized y.cls ∈ BIG ∧ Cond.code y bytes maxL rt ∈ BIG ∧ (∃ q, vwCl[ci]? = some q ∧ q.1 = y.cls) ∧ Nat.blt ci 20 = true ∧
  y.cls ≠ "java/lang/invoke/MethodHandle" ∧ y.cls ≠ "java/lang/invoke/VarHandle" ∧ (parseMethodDescriptor y.desc).map (fun d => d.parameters.length) = some n
def LkS (own : String) (idx : Nat) (y : MethodName) (bytes : ByteArray) (maxL : Nat) (rt : Option FieldType) (n : Nat) : Prop :=
  Cond.methodLink own idx y ∈ BIG ∧ Cond.static y ∈ BIG ∧ Cond.initialized y.cls ∈ BIG ∧ Cond.code y bytes maxL rt ∈ BIG ∧
  y.cls ≠ "java/lang/invoke/MethodHandle" ∧ y.cls ≠ "java/lang/invoke/VarHandle" ∧ (parseMethodDescriptor y.desc).map (fun d => d.parameters.length) = some n
theorem good_code {y : MethodName} {bytes : ByteArray} {maxL : Nat} {rt : Option FieldType} (h : Cond.code y bytes maxL rt ∈ BIG) : GoodIn BIG (.code y bytes maxL rt :: BIG) := fun w hw => (List.mem_cons.mp hw).elim (fun e => e ▸ big_good _ h) (big_good w)
theorem go_callV {y : MethodName} {bytes : ByteArray} {maxL idx ci n : Nat} {rt : Option FieldType} {rm : Room} {As : List Vv} {nm : Nm} {Qc : Option Vv → Mm → Nn → Prop} {st0 : List Vv}
    (hd : decode cc pc = .ok (.invokevirtual idx, 3)) (lk : LkV own idx ci y bytes maxL rt n) (hs : (shp nm).1 = ci) (hst0 : st0 = As.reverse ++ vr nm :: st) (hn : As.length = n) (hct : Nat.ble (ctL st) 8 = true)
    (hrm : rm.cells = 0 ∧ rm.slots = 0) (hR : rm.frames + 1 ≤ R.frames ∧ 8 + (maxL + 11) + rm.locals ≤ R.locals) (hc : Ct E y bytes maxL rt rm (vr nm :: As) M N Qc) (hcl : Nat.ble cl R.cells = true ∧ Nat.ble sl R.slots = true)
    (k : ∀ (r : Option Vv) (M' : Mm) (N' : Nn), Qc r M' N' → Go E own cc nL ret R cl sl Z (pc + 3) L (r.toList ++ st) M' N') : Go E own cc nL ret R cl sl Z pc L st0 M N := by
  intro p e s m args below meth c C H locs ls hP hS hL hst hl
  subst hst0
  obtain ⟨l1, l2, l3, l4, l5, ⟨q, l6, l7⟩, l8, l9, l10, l11⟩ := lk
  have hts := C.2.2.2.2.2.1
  have hokA : okL As := fun v hv => hst v (List.mem_append_left _ (List.mem_reverse.mpr hv))
  have hokT : okL (vr nm :: st) := fun v hv => hst v (List.mem_append_right _ hv)
  have hnm : nm ∈ nmL := okR_mem hokT.head (by rw [hs]; exact Nat.ble_eq.mpr (Nat.lt_of_lt_of_le (Nat.le_of_ble_eq_true l8 : ci < 20) (by decide)))
  have hsz : ∃ Nf, (shp nm).2 = Nf := ⟨_, rfl⟩
  obtain ⟨Nf, hsz⟩ := hsz
  have hrecv := va_recv (q := q) C.2.2.2.2.2.2.2.1 hP.1 l6 (by rw [wsl_at hnm, cel_obj hs l8 hsz])
  rw [l7] at hrecv
  have hcw : CallW R s args own y.cls idx y bytes maxL rt (.code y bytes maxL rt :: BIG) rm 0 0 n :=
    ⟨callB_of n hts (good_code l5) rfl hrm.1 hrm.2 (hts _ l4) (hts _ l1) ⟨l9, l10, l11⟩ hR, hts _ l2, hts _ l3⟩
  refine W_run (a := (Value.ref (eB E + adr nm) :: As.map (cv E)).toArray) C hS hL hokT.tail hl ?_ k
  have hPre : PreV s H y.cls (eB E + adr nm) (va_Pc ((vr nm :: As).map (cv E)) (fun U => Bs E U ∧ Hd E M N U.heap ∧ okL (vr nm :: As))) (As.map (cv E)) := by
    refine ⟨fun a U g mk hq => ⟨hq.1, Bs.blind hq.2.1, hq.2.2⟩, hrecv, fun U hU hW => ⟨?_, C.2.2.2.2.2.2.2.next hS hU hW, by rw [hU]; exact hP, okL_cons hokT.head hokA⟩⟩
    show _ = (cv E (vr nm) :: As.map (cv E)).toArray
    rw [cv_mem hnm]
  refine va_runV (Ts := BIG) (cc := cc) (nL := nL) (As := As.map (cv E)) (b := eB E + adr nm) (C := y.cls) (Qc := QcE E Qc) ⟨C.1, C.2.1, C.2.2.1, C.2.2.2.2.1, hts⟩ hc hcw hPre rfl (by rw [List.length_map]; exact hn) hl.1 ?_ ?_ hd ⟨Nat.le_of_ble_eq_true hcl.1, Nat.le_of_ble_eq_true hcl.2⟩
  · show (As.reverse ++ vr nm :: st).map (cv E) = _
    rw [List.map_append, List.map_reverse, List.map_cons, cv_mem hnm]
  · show 2 * 0 + _ ≤ 8
    rw [ctL_cat]
    have := Nat.le_of_ble_eq_true hct
    omega
theorem go_callS {y : MethodName} {bytes : ByteArray} {maxL idx n : Nat} {rt : Option FieldType} {rm : Room} {As : List Vv} {Qc : Option Vv → Mm → Nn → Prop} {st0 : List Vv}
    (hd : decode cc pc = .ok (.invokestatic idx, 3)) (lk : LkS own idx y bytes maxL rt n) (hst0 : st0 = As.reverse ++ st) (hn : As.length = n) (hct : Nat.ble (ctL st) 8 = true)
    (hrm : rm.cells = 0 ∧ rm.slots = 0) (hR : rm.frames + 1 ≤ R.frames ∧ 8 + (maxL + 11) + rm.locals ≤ R.locals) (hc : Ct E y bytes maxL rt rm As M N Qc) (hcl : Nat.ble cl R.cells = true ∧ Nat.ble sl R.slots = true)
    (k : ∀ (r : Option Vv) (M' : Mm) (N' : Nn), Qc r M' N' → Go E own cc nL ret R cl sl Z (pc + 3) L (r.toList ++ st) M' N') : Go E own cc nL ret R cl sl Z pc L st0 M N := by
  intro p e s m args below meth c C H locs ls hP hS hL hst hl
  subst hst0
  obtain ⟨l1, l2, l4, l5, l9, l10, l11⟩ := lk
  have hts := C.2.2.2.2.2.1
  have hokA : okL As := fun v hv => hst v (List.mem_append_left _ (List.mem_reverse.mpr hv))
  have hokT : okL st := fun v hv => hst v (List.mem_append_right _ hv)
  refine W_run (a := (As.map (cv E)).toArray) C hS hL hokT hl ?_ k
  refine va_runS (Ts := BIG) (cc := cc) (nL := nL) (As := As.map (cv E)) (Pc := va_Pc (As.map (cv E)) (fun U => Bs E U ∧ Hd E M N U.heap ∧ okL As)) ⟨C.1, C.2.1, C.2.2.1, C.2.2.2.2.1, hts⟩ hc ⟨callB_of n hts (good_code l5) rfl hrm.1 hrm.2 (hts _ l4) (hts _ l1) ⟨l9, l10, l11⟩ hR, hts _ l2⟩ ?_ rfl (by rw [List.length_map]; exact hn) hl.1 ?_ ?_ hd ⟨Nat.le_of_ble_eq_true hcl.1, Nat.le_of_ble_eq_true hcl.2⟩
  · exact ⟨fun a U g mk hq => ⟨hq.1, Bs.blind hq.2.1, hq.2.2⟩, fun U hU hW => ⟨rfl, C.2.2.2.2.2.2.2.next hS hU hW, by rw [hU]; exact hP, hokA⟩⟩
  · show (As.reverse ++ st).map (cv E) = _
    rw [List.map_append, List.map_reverse]
  · show 2 * 0 + _ ≤ 8
    rw [ctL_cat]
    have := Nat.le_of_ble_eq_true hct
    omega
/-- a nest mate's static method -/
def LkN (own : String) (idx : Nat) (y : MethodName) (host : String) (bytes : ByteArray) (maxL : Nat) (rt : Option FieldType) (n : Nat) : Prop :=
  Cond.static y ∈ BIG ∧ Cond.initialized y.cls ∈ BIG ∧ Cond.code y bytes maxL rt ∈ BIG ∧
  y.cls ≠ "java/lang/invoke/MethodHandle" ∧ y.cls ≠ "java/lang/invoke/VarHandle" ∧ (parseMethodDescriptor y.desc).map (fun d => d.parameters.length) = some n
theorem go_callN {y : MethodName} {host : String} {bytes : ByteArray} {maxL idx n : Nat} {rt : Option FieldType} {rm : Room} {As : List Vv} {Qc : Option Vv → Mm → Nn → Prop} {st0 : List Vv}
    (hd : decode cc pc = .ok (.invokestatic idx, 3)) (lk : LkN own idx y host bytes maxL rt n) (hNw : ∀ s, eF E s → va_Nw (.methodLinkNest own idx y host) s) (hst0 : st0 = As.reverse ++ st) (hn : As.length = n) (hct : Nat.ble (ctL st) 8 = true)
    (hrm : rm.cells = 0 ∧ rm.slots = 0) (hR : rm.frames + 1 ≤ R.frames ∧ 8 + (maxL + 11) + rm.locals ≤ R.locals) (hc : Ct E y bytes maxL rt rm As M N Qc) (hcl : Nat.ble cl R.cells = true ∧ Nat.ble sl R.slots = true)
    (k : ∀ (r : Option Vv) (M' : Mm) (N' : Nn), Qc r M' N' → Go E own cc nL ret R cl sl Z (pc + 3) L (r.toList ++ st) M' N') : Go E own cc nL ret R cl sl Z pc L st0 M N := by
  intro p e s m args below meth c C H locs ls hP hS hL hst hl
  subst hst0
  obtain ⟨l2, l4, l5, l9, l10, l11⟩ := lk
  have hts := C.2.2.2.2.2.1
  have hokA : okL As := fun v hv => hst v (List.mem_append_left _ (List.mem_reverse.mpr hv))
  have hokT : okL st := fun v hv => hst v (List.mem_append_right _ hv)
  refine W_run (a := (As.map (cv E)).toArray) C hS hL hokT hl ?_ k
  refine va_runSN (Ts := BIG) (cc := cc) (nL := nL) (host := host) (As := As.map (cv E)) (Pc := va_Pc (As.map (cv E)) (fun U => Bs E U ∧ Hd E M N U.heap ∧ okL As)) ⟨C.1, C.2.1, C.2.2.1, C.2.2.2.2.1, hts⟩ hc ⟨va_cnB n hts (good_code l5) rfl hrm.1 hrm.2 (hNw s C.2.2.2.2.2.2.2.2.2.1) (hts _ l4) ⟨l9, l10, l11⟩ hR, hts _ l2, trivial⟩ ?_ rfl (by rw [List.length_map]; exact hn) hl.1 ?_ ?_ hd ⟨Nat.le_of_ble_eq_true hcl.1, Nat.le_of_ble_eq_true hcl.2⟩
  · exact ⟨fun a U g mk hq => ⟨hq.1, Bs.blind hq.2.1, hq.2.2⟩, fun U hU hW => ⟨rfl, C.2.2.2.2.2.2.2.next hS hU hW, by rw [hU]; exact hP, hokA⟩⟩
  · show (As.reverse ++ st).map (cv E) = _
    rw [List.map_append, List.map_reverse]
  · show 2 * 0 + _ ≤ 8
    rw [ctL_cat]
    have := Nat.le_of_ble_eq_true hct
    omega
/-! answers by kind -/
def qi (P : Int → Mm → Nn → Prop) : Option Vv → Mm → Nn → Prop := fun o M N => ∃ r, o = some (vi r) ∧ R32 r ∧ P r M N
def ql (P : Int → Mm → Nn → Prop) : Option Vv → Mm → Nn → Prop := fun o M N => ∃ r, o = some (vl r) ∧ R64 r ∧ P r M N
def qr (P : Nm → Mm → Nn → Prop) : Option Vv → Mm → Nn → Prop := fun o M N => ∃ r, o = some (vr r) ∧ P r M N
def qv (P : Mm → Nn → Prop) : Option Vv → Mm → Nn → Prop := fun o M N => o = none ∧ P M N
theorem go_rg {pc : Nat} (k : Rg M N → okL L → okL st → Go E own cc nL ret R cl sl Z pc L st M N) : Go E own cc nL ret R cl sl Z pc L st M N := by
  intro p e s m args below meth c C H locs ls hP hS hL hst hl
  exact k hP.2 hL hst p e s m args below meth c C H locs ls hP hS hL hst hl
