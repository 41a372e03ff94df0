/-! the law's own doubtful: it takes the class's answer, or its throw -/
def tbD : List ExceptionTableEntry := tableOf [(0, 9, 12, 13)]
theorem xl_cl : Cond.classLink RL 13 xNS ∈ BIG := bg4 232 (by decide +kernel) rfl
theorem xl_cw : Cond.codeWith yL_doubtful cL_doubtful 4 (some .int) [(0, 9, 12, 13)] ∈ BIG := bg4 231 (by rfl) rfl
theorem xl_ml : Cond.methodLink RL 138 yL_doubtful ∈ BIG := by
  first | exact bg4 228 (by decide +kernel) rfl | exact bg4 229 (by decide +kernel) rfl | exact bg4 230 (by decide +kernel) rfl | exact bg4 227 (by decide +kernel) rfl
theorem xl_st : Cond.static yL_doubtful ∈ BIG := by
  first | exact bg4 230 (by decide +kernel) rfl | exact bg4 229 (by decide +kernel) rfl | exact bg4 228 (by decide +kernel) rfl
theorem xl_in : Cond.initialized RL ∈ BIG := bg1 0 (by decide +kernel) rfl
def zD (E : Ev) (Q : Option Vv → Mm → Nn → Prop) (mc ms : Nat) : Zt := fun below args s => MQ below (QcE E Q) args s mc ms (eA E)
section DL
variable {E : Ev} {own : String} {cc : ByteArray} {nL : Nat} {ret : Option FieldType} {R : Room} {cl sl : Nat} {Z0 : Zt} {pc : Nat} {L st : List Vv} {M : Mm} {N : Nn} {Q : Option Vv → Mm → Nn → Prop} {XC : String → State → State → Prop} {tb : List ExceptionTableEntry} {mc ms : Nat}
theorem go_iretD {x : Int} (hd : decode cc pc = .ok (.ireturn, 1)) (hc : cl ≤ mc) (hs : sl ≤ ms) (hq : Q (some (vi x)) M N) : Go E own cc nL (some .int) R cl sl (zT tb (zD E Q mc ms)) pc L [vi x] M N := by
  refine go_tb ?_
  intro p e s m args below meth c C _ H locs ls hP hS hL hst hl
  refine W.widen hc hs ?_
  exact W.iret C.1 C.2.1 C.2.2.2.1 (fun t ht hW => ⟨some (vi x), M, N, rfl, fun v hv => by cases hv; exact hst.head, hq, by rw [ht]; exact hP, hS.F ht⟩) hS.2.2 hd C.2.2.2.2.2.2.1
/-- a call that may throw, and the throw's catching by the one row of this method's table; what was caught goes into a local and is forgotten -/
theorem go_callX {y : MethodName} {bytes : ByteArray} {maxL idx ci n : Nat} {rt : Option FieldType} {rm : Room} {As : List Vv} {nm : Nm} {Qc : Option Vv → Mm → Nn → Prop} {P : Prop} {st0 : List Vv} {x : ExceptionTableEntry} {j : Fin 4} {L2 : List Vv}
    (hE : EX E) (hd : decode cc pc = .ok (.invokevirtual idx, 3)) (lk : LkV own idx ci y bytes maxL rt n) (hs : (shp nm).1 = ci) (hst0 : st0 = As.reverse ++ vr nm :: st) (hn : As.length = n) (hct : Nat.ble (ctL st) 8 = true)
    (hrm : rm.cells = mc ∧ rm.slots = ms) (hR : rm.frames + 1 ≤ R.frames ∧ 8 + (maxL + 11) + rm.locals ≤ R.locals) (hc : CtX E y bytes maxL rt rm (vr nm :: As) M N Qc (xTh E M N P) mc ms) (hcl : cl + mc ≤ R.cells ∧ sl + ms ≤ R.slots)
    (htb : tb = [x]) (hx : covers x pc = true) (hx0 : x.catchType ≠ 0) (hlk : Cond.classLink own x.catchType xNS ∈ BIG) (hda : decode cc x.handlerPc = .ok (.astore_n j, 1)) (hj : (j : Nat) < nL) (h2 : ∀ i v, L2[i]? = some v → v ≠ vn → L[i]? = some v ∧ i ≠ (j : Nat) ∧ ∀ z, v ≠ vl z) (hL2 : okL L2)
    (k : ∀ (r : Option Vv) (M' : Mm) (N' : Nn), Qc r M' N' → Go E own cc nL ret R (cl + mc) (sl + ms) (zT tb Z0) (pc + 3) L (r.toList ++ st) M' N')
    (kx : P → Go E own cc nL ret R (cl + mc) (sl + ms) (zT tb Z0) (x.handlerPc + 1) L2 [] M N) : Go E own cc nL ret R cl sl (zT tb Z0) pc L st0 M N := by
  intro p e s m args below meth c C H locs ls hP hS hL hst hl
  subst hst0
  obtain ⟨l1, l2, l3, l4, l5, ⟨q, l6, l7⟩, l8, l9, l10, l11⟩ := lk
  have hts := C.2.2.2.2.2.1
  have hF := C.2.2.2.2.2.2.2.2.2.1
  have hokA : okL As := fun v hv => hst v (List.mem_append_left _ (List.mem_reverse.mpr hv))
  have hokT : okL (vr nm :: st) := fun v hv => hst v (List.mem_append_right _ hv)
  have hnm : nm ∈ nmL := okR_mem hokT.head (by rw [hs]; exact Nat.ble_eq.mpr (Nat.lt_of_lt_of_le (Nat.le_of_ble_eq_true l8 : ci < 20) (by decide)))
  obtain ⟨Nf, hsz⟩ : ∃ Nf, (shp nm).2 = Nf := ⟨_, rfl⟩
  have hrecv := va_recv (q := q) C.2.2.2.2.2.2.2.1 hP.1 l6 (by rw [wsl_at hnm, cel_obj hs l8 hsz])
  rw [l7] at hrecv
  have hcw : CallW R s args own y.cls idx y bytes maxL rt (.code y bytes maxL rt :: BIG) rm mc ms n :=
    ⟨callB_of n hts (good_code l5) rfl hrm.1 hrm.2 (hts _ l4) (hts _ l1) ⟨l9, l10, l11⟩ hR, hts _ l2, hts _ l3⟩
  have hPre : PreV s H y.cls (eB E + adr nm) (va_Pc ((vr nm :: As).map (cv E)) (fun U => Bs E U ∧ Hd E M N U.heap ∧ okL (vr nm :: As))) (As.map (cv E)) := by
    refine ⟨fun a U g mk hq => ⟨hq.1, Bs.blind hq.2.1, hq.2.2⟩, hrecv, fun U hU hW => ⟨?_, C.2.2.2.2.2.2.2.next hS hU hW, by rw [hU]; exact hP, okL_cons hokT.head hokA⟩⟩
    show _ = (cv E (vr nm) :: As.map (cv E)).toArray
    rw [cv_mem hnm]
  have hrun := vx_runV (l := eL E) (e := e) (below := below) (meth := meth) (locs := locs) (cells := cl) (slots := sl) (Ts := BIG) (cc := cc) (nL := nL) (As := As.map (cv E)) (b := eB E + adr nm) (C := y.cls) (Qc := QcE E Qc) (rest := st.map (cv E)) (g := F0 m pc ls ((As.reverse ++ vr nm :: st).map (cv E))) ⟨C.1, C.2.1, C.2.2.1, C.2.2.2.2.1, hts⟩ hc hcw hPre rfl (by rw [List.length_map]; exact hn) hl.1 (by
    show (As.reverse ++ vr nm :: st).map (cv E) = _
    rw [List.map_append, List.map_reverse, List.map_cons, cv_mem hnm]) (by
    show 2 * 0 + _ ≤ 8
    rw [ctL_cat]
    have := Nat.le_of_ble_eq_true hct
    omega) hd hcl
  intro T hT X
  rcases hrun T hT X with ⟨v, st₀, t, T', L1, h0, X', hL1, e1, e2, ⟨r, M', N', hv, hok, hq, hP', hz, hk⟩, hsteps⟩ | ⟨a, st₀, t, T', L1, E0, ce, h0, X', hL1, e1, e2, ⟨hE0, hp, hP', hz, hk⟩, hce, hcv, hcls, hsteps⟩
  · cases hv
    rw [h0] at hz hk
    have hst2 : okL (r.toList ++ st) := by
      intro w hw
      rcases List.mem_append.mp hw with h | h
      · exact hok w (by simpa using h)
      · exact hokT.tail w h
    have hS' : va_S (eA E) s.heap T'.heap (locs ++ L1) := by
      refine ⟨Nat.le_trans hS.1 (by rw [e1]; exact hz), fun q h1 h2 => ?_, fun q hq => ?_⟩
      · rw [e1, hk q (Nat.lt_of_lt_of_le h1 hS.1) h2]
        exact hS.2.1 q h1 h2
      · rcases List.mem_append.mp hq with h | h
        · exact hS.2.2 q h
        · exact hL1 q h
    obtain ⟨t2, a1, b1⟩ := k r M' N' hq p e s m args below meth c C T'.heap (locs ++ L1) ls (by rw [e1]; exact hP') hS' hL hst2 hl T' rfl X'
    have e3 : (r.map (cv E)).toList ++ st.map (cv E) = (r.toList ++ st).map (cv E) := by
      cases r <;> rfl
    refine ⟨t2, hsteps t2 ?_, b1⟩
    show Steps p.tables e below (T'.setTop (F0 m (pc + 3) ls ((r.map (cv E)).toList ++ st.map (cv E)))) t2
    rw [e3]
    exact a1
  · subst hE0
    rw [h0] at hz hk
    have hS' : va_S (eA E) s.heap T'.heap (locs ++ L1) := by
      refine ⟨Nat.le_trans hS.1 (by rw [e1]; exact hz), fun q h1 h2 => ?_, fun q hq => ?_⟩
      · rw [e1, hk q (Nat.lt_of_lt_of_le h1 hS.1) h2]
        exact hS.2.1 q h1 h2
      · rcases List.mem_append.mp hq with h | h
        · exact hS.2.2 q h
        · exact hL1 q h
    by_cases hPt : Ptb tb s
    · have htab : c.exceptionTable.toList = [x] := by rw [← htb]; exact hPt m args below meth c X.frames X.method X.code
      have kw : vx_W p (eL E) e R s m args below meth c T'.heap (locs ++ L1) (cl + mc) (sl + ms) (zT tb Z0 below args s) (F0 m pc ls (st.map (cv E))) a := by
        refine vx_catch (own := own) (name := xNS) (E := xNS) C.2.2.2.2.1 [] x [] htab (fun z hz => nomatch hz) hx hx0 (hts _ hlk) (va_Nw.use rfl (hE.2.2.2.2 s hF _ List.mem_cons_self)) (by rw [e1]; exact hce) hcv hcls ?_
        refine lv_astore_n C.1 C.2.1 hda rfl hl hj rfl (fun ls' hl' => ?_)
        refine kx hp p e s m args below meth c C T'.heap (locs ++ L1) ls' (by rw [e1]; exact hP') hS' hL2 okL_nil (lv_mono hl' (fun z hz => ?_))
        obtain ⟨v, v1, v2, v3⟩ := lvl_mem.mp hz
        obtain ⟨w1, w2, w3⟩ := h2 z.1 v v1 v2
        refine List.mem_cons_of_mem _ (List.mem_filter.mpr ⟨lvl_mem.mpr ⟨v, w1, v2, v3⟩, ?_⟩)
        simp only [Bool.and_eq_true, Bool.not_eq_true', beq_eq_false_iff_ne, ne_eq, Bool.and_eq_false_iff]
        refine ⟨w2, Or.inr ?_⟩
        rw [v3]
        intro hcat
        obtain ⟨y9, hy9⟩ := cv_cat2.mp hcat
        exact w3 y9 hy9
      obtain ⟨t2, a1, b1⟩ := kw T' rfl X'
      exact ⟨t2, hsteps.trans a1, b1⟩
    · exact ⟨_, Steps.refl _, fun z => absurd z hPt⟩
theorem met_ofWH {l : Launch} {y : MethodName} {ws ws' : List Cond} {rm : Room} {Pc : Array Value → State → Prop} {Qc : Array Value → State → Outcome → State → Prop} {mc ms : Nat} {free : Addr → Prop} {cc : ByteArray} {maxL : Nat} {ret : Option FieldType} {hh : List (Nat × Nat × Nat × Nat)}
    (hy : plainName y.cls = true) (hw : ws = Cond.codeWith y cc maxL ret hh :: ws')
    (body : ∀ p e s m args below meth c s₁, BodyLoose p l y (headSpec ws rm) cc maxL ret e s m args below meth c s₁ → c.maxLocals = maxL → Pc args s →
      W p l e (headSpec ws rm).room s m args below meth c s.heap [] 0 0 (MQ below Qc args s mc ms free) (entryFrame m args maxL)) : Met l y ws rm Pc Qc mc ms free := by
  refine MetFree.of_bodyS (code := cc) (maxLocals := maxL) (ret := ret) hy ?_ ?_
  · intro args s m h hn
    obtain ⟨m9, meth, c, hn9, h1, h2, h3, h4, -, h5, h6, -⟩ := Cond.codeWith_spec (atoms_spec (ws := ws) h _ (by rw [hw]; exact List.mem_cons_self))
    cases hn.symm.trans hn9
    exact ⟨meth, c, h1, h2, h3, h4, h5, h6⟩
  · intro p e s m args below meth c s₁ B hml hP _
    have hh0 : s₁.heap = s.heap := by rw [B.state]; rfl
    obtain ⟨t, a1, o, b1, b2, b3⟩ := body p e s m args below meth c s₁ B hml hP s₁ hh0 (Stand.of_body B)
    exact ⟨t, o, a1, b1, b2, ⟨b3.1, b3.2⟩⟩
/-- a contract of a static method with a table -/
def CtD (E : Ev) (y : MethodName) (cc : ByteArray) (nL : Nat) (ret : Option FieldType) (hh : List (Nat × Nat × Nat × Nat)) (rm : Room) (As : List Vv) (M : Mm) (N : Nn) (Q : Option Vv → Mm → Nn → Prop) (mc ms : Nat) : Prop :=
  Met (eL E) y (.codeWith y cc nL ret hh :: BIG) rm (va_Pc (As.map (cv E)) (fun U => Bs E U ∧ Hd E M N U.heap ∧ okL As)) (QcE E Q) mc ms (eA E)
theorem ctD_of {y : MethodName} {rm : Room} {As L0 : List Vv} {hh : List (Nat × Nat × Nat × Nat)} (ho : y.cls = own) (hy : plainName y.cls = true) (hn : Nat.ble (en1 As).length nL = true) (h0 : enL As nL = L0) (k : Go E own cc nL ret rm 0 0 (zT (tableOf hh) (zD E Q mc ms)) 0 L0 [] M N) : CtD E y cc nL ret hh rm As M N Q mc ms := by
  subst h0 ho
  refine met_ofWH (cc := cc) (maxL := nL) (ret := ret) (hh := hh) hy rfl ?_
  intro p e s m args below meth c s₁ B hml hv
  obtain ⟨rfl, hB, hP, hok⟩ := hv
  have hts := atoms_spec (ws := .codeWith y cc nL ret hh :: BIG) B.pre
  have hown : s.vm.findClass y.cls = some m.cls := findClass_of_methodNamed B.named
  have hlen : (lg_sl (As.map (cv E))).length ≤ nL := by rw [en1_len]; exact Nat.le_of_ble_eq_true hn
  have hl := lv_entry (As.map (cv E)) (n := nL) hlen
  have htb : c.exceptionTable.toList = tableOf hh := vx_table (x := y) B (hts _ List.mem_cons_self)
  have hT : Ptb (tableOf hh) s := by
    intro m' a' bl' meth' c' f1 f2 f3
    have e1 := f1.symm.trans B.frames
    cases e1
    cases Option.some.inj (f2.symm.trans B.method)
    cases Option.some.inj (f3.symm.trans (Stand.of_body B).code)
    exact htb
  rw [lg_entry_eq]
  have g := k p e s m _ below meth c ⟨B.exec, B.bytes, hml, B.returns, hown, fun w hw => hts w (List.mem_cons_of_mem _ hw), B.notSynchronized, hB⟩ s.heap [] _ hP va_S.rf (okL_enL hok) okL_nil (lv_mono hl (fun q hq => ?_))
  · intro T hTh X
    obtain ⟨t, a, b⟩ := g T hTh X
    exact ⟨t, a, b hT⟩
  · obtain ⟨v, h1, h2, h3⟩ := lvl_mem.mp hq
    have h4 : (en1 As)[q.1]? = some v := by
      unfold enL at h1
      by_cases hq1 : q.1 < (en1 As).length
      · rw [List.getElem?_append_left hq1] at h1
        exact h1
      · rw [List.getElem?_append_right (by omega)] at h1
        have := List.mem_of_getElem? h1
        exact absurd (List.mem_replicate.mp this).2 h2
    have h5 := en1_mem (E := E) As 0 q.1 v h4 h2
    rw [Nat.zero_add, ← h3] at h5
    exact h5
end DL
set_option maxRecDepth 100000 in
set_option maxHeartbeats 4000000 in
theorem ct_L_doubtful {E : Ev} {M : Mm} {N : Nn} {p : Nat} {i : Int} {φ : Nat → FV} {ν : Nu} {ma : Int → Int} (hE : EX E) (hC : N (3, 0, 0) 6 = (18, p, 0)) (hc0 : 0 ≤ pgC M p 11 0) (hc : pgC M p 11 0 ≤ 15) (hF : FS M 0 φ ν ma) (hb : ∀ v, 0 ≤ v → v < pgC M p 11 0 → pgC M p 0 v = 3 → 0 ≤ ma v ∧ ma v < 64) :
    CtD E yL_doubtful cL_doubtful 4 ((some .int)) [(0, 9, 12, 13)] (rmF 7 1 6) [vr (3, 0, 0), vi i, vr (31, 0, 0)] M N (qi (fun r M1 N1 => (∃ x, duR (pgC M p) ma i (pgC M p 11 0).toNat 0 0 = (0, x) ∧ r = 0 ∧ M1 = wr M (31, 0, 0) 0 x ∧ N = N1) ∨ (duR (pgC M p) ma i (pgC M p 11 0).toNat 0 0 = (1, 0) ∧ r = 1 ∧ M = M1 ∧ N = N1))) 1 6 := by
  refine ctD_of (own := RL) (L0 := [vr (3, 0, 0), vi i, vr (31, 0, 0), vn]) rfl (by decide +kernel) rfl rfl ?_
  refine go_aload_n dL_doubtful_0 rfl rfl ?_
  refine go_iconst dL_doubtful_1 (R32_lit rfl) ?_
  refine go_aload_n dL_doubtful_2 rfl rfl ?_
  refine go_iload_n dL_doubtful_3 rfl ?_
  refine go_rg (fun _ hL0 _ => ?_)
  refine go_callX (As := [vi i]) (nm := (3, 0, 0)) (st := [vi 0, vr (31, 0, 0)]) (x := ⟨0, 9, 12, 13⟩) (j := 3) (L2 := [vr (3, 0, 0), vi i, vr (31, 0, 0), vn]) hE dL_doubtful_4 lL_7 rfl rfl rfl rfl ⟨rfl, rfl⟩ ⟨by decide, by decide⟩ (ct_X7_doubtful hE hC hc0 hc hF hb) ⟨by decide, by decide⟩ rfl rfl (by decide) xl_cl dL_doubtful_12 (by decide) ?_ hL0 (fun r M1 N1 hq => ?_) (fun h => ?_)
  · intro k v hk hv
    match k, hk with
    | 0, hk => cases hk; exact ⟨rfl, by decide, fun z h => by cases h⟩
    | 1, hk => cases hk; exact ⟨rfl, by decide, fun z h => by cases h⟩
    | 2, hk => cases hk; exact ⟨rfl, by decide, fun z h => by cases h⟩
    | 3, hk => cases hk; exact absurd rfl hv
    | k + 4, hk => cases hk
  · obtain ⟨x, rfl, hx, h, rfl, rfl⟩ := hq
    refine go_i2l dL_doubtful_7 ?_
    refine go_last (len := 1) dL_doubtful_8 rfl (by decide) (by decide) ?_
    refine go_goto (tgt := 15) dL_doubtful_9 rfl ?_
    refine go_iconst dL_doubtful_15 (R32_lit rfl) ?_
    exact go_iretD dL_doubtful_16 (by decide) (by decide) ⟨0, rfl, R32_lit rfl, Or.inl ⟨x, h, rfl, rfl, rfl⟩⟩
  · refine go_iconst dL_doubtful_13 (R32_lit rfl) ?_
    exact go_iretD dL_doubtful_14 (by decide) (by decide) ⟨1, rfl, R32_lit rfl, Or.inr ⟨h, rfl, rfl, rfl⟩⟩
