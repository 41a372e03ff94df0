/-! the throw itself, and the words that it takes -/
def nxW (own : String) (ic : Nat) : List Cond := (Bundle.throwableAtoms ++ Bundle.throwableSAtoms).filter vx_no ++ (nxC ++ nxO own ic)
section NXU
variable {p : Program} {l : Launch} {e : Env} {R : Room} {s : State} {m : MethodId} {args : Array Value} {below : List Frame} {meth : Method} {c : Code} {H : Heap} {locs : List Loc} {cells slots : Nat} {free : Addr → Prop} {ls : Array Slot} {rest : List Value} {Qc : Array Value → State → Outcome → State → Prop} {XC : String → State → State → Prop}
set_option maxHeartbeats 4000000 in
theorem nx_throw {cc : ByteArray} {pc : Nat} (hexec : p.tables.exec = Jvm.exec) (hb : c.code = cc) (hl : l.stackTraces = false) {own text : String} {ik is ic mc ms sa : Nat} {A : Nat → Prop} (hown : s.vm.findClass own = some m.cls)
    (hk : (Cond.classLink own ik xNS).before args s = true) (hini : (Cond.initialized xNS).before args s = true) (hstr : vk_R own is text sa s) (hat : ∀ w ∈ nxW own ic, w.before args s = true) (hgood : ∀ w ∈ Cond.classLink own ik xNS :: Cond.initialized xNS :: nxW own ic, vx_ot w = true)
    (hU : vx_Zq Bundle.tN "UNASSIGNED_STACK" Bundle.steD A s s.heap) (hN : vx_Zq Bundle.tN "SUPPRESSED_SENTINEL" Bundle.listD A s s.heap) (hS : va_S A s.heap H locs) (hsize : ls.size = c.maxLocals)
    (d0 : decode cc pc = .ok (.new ik, 3)) (d3 : decode cc (pc + 3) = .ok (.dup, 1)) (d4 : decode cc (pc + 4) = .ok (.ldc_w is, 3)) (d7 : decode cc (pc + 7) = .ok (.invokespecial ic, 3)) (d10 : decode cc (pc + 10) = .ok (.athrow, 1))
    (hout : ∀ x ∈ c.exceptionTable.toList, covers x (pc + 10) = false) (hRf : 5 < R.frames) (hRl : (rest.map fun v => v.category).sum + 82 ≤ R.locals) (hRc : cells + 1 ≤ R.cells) (hRs : slots + 6 ≤ R.slots) (hlocks : meth.locks = false)
    (hx : ∀ t : State, s.vm.Alike t.vm → H.size ≤ t.heap.size → (∀ q : Nat, q < H.size → t.heap[q]? = H[q]?) → XC xNS s t) (hf : ∀ z ∈ locs, free z.base) (hc : cells + 1 ≤ mc) (hs : slots + 6 ≤ ms) :
    W p l e R s m args below meth c H locs cells slots (vx_MQ below Qc XC args s mc ms free) (F0 m pc ls rest) := by
  intro T hT X
  have htr : e.platform.stackTraces = false := (show e.platform.stackTraces = l.stackTraces by rw [X.admits.platform]).trans hl
  have Y := vx_rebase X (R' := { frames := R.frames, locals := R.locals, cells := 1, slots := 6 }) (Nat.le_refl _) (Nat.le_refl _) hRc hRs
  obtain ⟨s', hA⟩ : ∃ z, z = (T.setVm s.vm).setFrames (.invoking m args :: below) := ⟨_, rfl⟩
  rw [← hA] at Y
  have hvm : s'.vm = s.vm := by rw [hA]; rfl
  have hhp : s'.heap = H := by rw [hA]; exact hT
  have hW0 : s.WarmedH s'.vm := by rw [hvm]; exact State.WarmedH.refl s
  have hat' : ∀ w ∈ nxW own ic, w.before args s' = true := fun w hw => vx_ot_at hW0 hvm.symm (hgood w (List.mem_cons_of_mem _ (List.mem_cons_of_mem _ hw))) (hat w hw)
  have hk' : (Cond.classLink own ik xNS).before args s' = true := vx_ot_at hW0 hvm.symm (hgood _ List.mem_cons_self) hk
  have hini' : (Cond.initialized xNS).before args s' = true := vx_ot_at hW0 hvm.symm (hgood _ (List.mem_cons_of_mem _ List.mem_cons_self)) hini
  have hU' : vx_Zq Bundle.tN "UNASSIGNED_STACK" Bundle.steD A s' s'.heap := by rw [hhp]; exact vx_Zq.moved hW0.alike (hU.kept hS.2.1)
  have hN' : vx_Zq Bundle.tN "SUPPRESSED_SENTINEL" Bundle.listD A s' s'.heap := by rw [hhp]; exact vx_Zq.moved hW0.alike (hN.kept hS.2.1)
  have ht : ∀ w ∈ Bundle.throwableAtoms ++ Bundle.throwableSAtoms, w.before args s' = true := vx_own (fun w hw => hat' w (List.mem_append_left _ hw)) (vx_isRefq hU'.1) (vx_isRefq hN'.1) hU'.2.word hN'.2.word
  have ho : ∀ w ∈ nxO own ic, w.before args s' = true := fun w hw => hat' w (List.mem_append_right _ (List.mem_append_right _ hw))
  have hown' : s'.vm.findClass own = some m.cls := by rw [hvm]; exact hown
  have hins : (Cond.instantiable xNS 6).before args s' = true := ho _ (by simp [nxO])
  obtain ⟨vm₁, cX, kX, hfX, hkX, -, -, X₁, st1⟩ := Y.newCold hexec (own := own) (C := xNS) (index := ik) (n := 6) hown' hk' hins hini' (g := F0 m pc ls rest) rfl (by rw [hb]; exact d0) (Nat.le_refl _) (Nat.le_refl _)
  generalize hT1 : (T.setVm vm₁).pushCell { cls := cX, slots := kX.instanceTypes.map defaultValue, vm := .none } = T1 at X₁ st1
  have hcat : (Value.ref T.heap.size).category = 1 := rfl
  have hcellA : T1.heap[T.heap.size]? = some (freshCell cX kX) := by rw [← hT1]; exact State.heap_pushCell_size _ _
  have d3' : decode c.code (pc + 3) = .ok (.dup, 1) := by rw [hb]; exact d3
  have d4' : decode c.code (pc + 4) = .ok (.ldc_w is, 3) := by rw [hb]; exact d4
  have hstr' : vk_R own is text sa s' := vk_R.warm hW0 hstr
  obtain ⟨U, hsteps, hrun, hend, hW, hsame, ce, hce, hcl', hcv⟩ := nx_ctor X₁ hexec htr (own := own) (ic := ic) hown' ht (fun w hw => hat' w (List.mem_append_right _ (List.mem_append_left _ hw))) ho (vx_isRefq hU'.1) (vx_isRefq hN'.1) (fun x hx => nomatch hx) hfX hkX hcellA (by rw [hhp, hT]; exact Nat.le_refl _) (msg := .ref sa) rfl
    (g := { method := m, pc := pc + 7, locals := ls, stack := .ref sa :: .ref T.heap.size :: .ref T.heap.size :: rest, locked := none }) rfl hsize rfl rfl (rest := rest) rfl
    (by rw [hb]; exact d7) (by rw [hb]; exact d10) hout hRf (by simp only [List.map_cons, List.sum_cons, hcat]; show 2 * 0 + _ + 81 ≤ _; omega) hlocks
  obtain ⟨f1, f2⟩ := vx_frame hsame
  rw [hhp] at f1 f2
  have hWs : s.WarmedH U.vm := State.WarmedH.trans hW0 hW
  have hcl : s.vm.findClass xNS = some ce.cls := by rw [← hvm]; exact hcl'
  have hall : s.sameButNew ({ U with vm := s.vm } : State) locs mc ms := by
    subst hA
    obtain ⟨e1, e2⟩ := hsame
    rw [State.setFrames_setFrames] at e1
    have h2 : (T.setVm s.vm).sameButNew ({ U with vm := s.vm } : State) [] (0 + 1) (0 + 6) := ⟨e1, e2⟩
    have h3 := X.same.trans h2
    rw [List.append_nil] at h3
    exact h3.mono hc hs
  refine ⟨U, ?_, .threw T.heap.size, hrun, hend, Or.inr ⟨T.heap.size, rfl, xNS, ce, locs, hx U hWs.alike f1 (fun q hq => f2 q hq (fun z hz => nomatch hz)), hce, hcv, hcl, hWs, hall, hf⟩⟩
  refine st1 _ ?_
  show Steps p.tables e below (T1.setTop { method := m, pc := pc + 3, locals := ls, stack := .ref T.heap.size :: rest, locked := none }) _
  jvm_step X₁.here [X₁.here.top, hexec, d3', Value.category]
  exact X₁.ldcStringW hexec (own := own) (text := text) (index := is) (a := sa) hown' hstr'.1 hstr'.2
    (g := { method := m, pc := pc + 4, locals := ls, stack := .ref T.heap.size :: .ref T.heap.size :: rest, locked := none }) rfl d4' _ hsteps
end NXU

def nxB : List Cond := [.castable xNS xNS, .declares (Bundle.initS xRT), .declares (Bundle.initS "java/lang/Exception"), .declares (Bundle.initS Bundle.tN)]
theorem nxW_ok {args : Array Value} {s : State} (hts : ∀ w ∈ BIG, w.before args s = true) (hB : ∀ w ∈ nxB, w.before args s = true) : ∀ w ∈ nxW RX7 293, w.before args s = true := by
  intro w hw
  rcases List.mem_append.mp hw with hw | hw
  · obtain ⟨hw, hno⟩ := List.mem_filter.mp hw
    rcases List.mem_append.mp hw with hw | hw
    · simp only [Bundle.throwableAtoms, List.mem_cons, List.not_mem_nil, or_false] at hw
      rcases hw with rfl | rfl | rfl | rfl | rfl | rfl | rfl | rfl | rfl | rfl | rfl | rfl | rfl | rfl | rfl | rfl | rfl | rfl | rfl | rfl | rfl | rfl | rfl | rfl
      · exact hts _ (bg1 16 (by first | rfl | decide +kernel) rfl)
      · exact hts _ (bg5 19 (by first | rfl | decide +kernel) rfl)
      · exact hts _ (bg5 28 (by first | rfl | decide +kernel) rfl)
      · exact hts _ (bg5 30 (by first | rfl | decide +kernel) rfl)
      · exact hts _ (bg5 33 (by first | rfl | decide +kernel) rfl)
      · exact hts _ (bg5 35 (by first | rfl | decide +kernel) rfl)
      · exact hts _ (bg5 20 (by first | rfl | decide +kernel) rfl)
      · exact hts _ (bg5 21 (by first | rfl | decide +kernel) rfl)
      · exact hts _ (bg1 26 (by first | rfl | decide +kernel) rfl)
      · exact hts _ (bg1 27 (by first | rfl | decide +kernel) rfl)
      · exact hts _ (bg5 22 (by first | rfl | decide +kernel) rfl)
      · exact hts _ (bg5 27 (by first | rfl | decide +kernel) rfl)
      · exact hts _ (bg5 31 (by first | rfl | decide +kernel) rfl)
      · exact hts _ (bg5 51 (by first | rfl | decide +kernel) rfl)
      · exact hts _ (bg5 9 (by first | rfl | decide +kernel) rfl)
      · exact hts _ (bg5 52 (by first | rfl | decide +kernel) rfl)
      · exact hts _ (bg5 11 (by first | rfl | decide +kernel) rfl)
      · exact hts _ (bg5 53 (by first | rfl | decide +kernel) rfl)
      · exact hts _ (bg5 13 (by first | rfl | decide +kernel) rfl)
      · exact hts _ (bg5 23 (by first | rfl | decide +kernel) rfl)
      · exact absurd hno (by decide +kernel)
      · exact hts _ (bg5 25 (by first | rfl | decide +kernel) rfl)
      · exact absurd hno (by decide +kernel)
      · exact hts _ (bg5 15 (by first | rfl | decide +kernel) rfl)
    · simp only [Bundle.throwableSAtoms, List.mem_cons, List.not_mem_nil, or_false] at hw
      rcases hw with rfl | rfl | rfl | rfl
      · exact hts _ (bg5 47 (by first | rfl | decide +kernel) rfl)
      · exact hts _ (bg5 48 (by first | rfl | decide +kernel) rfl)
      · exact hts _ (bg5 50 (by first | rfl | decide +kernel) rfl)
      · exact hts _ (bg5 15 (by first | rfl | decide +kernel) rfl)
  · rcases List.mem_append.mp hw with hw | hw
    · simp only [nxC, Bundle.passSAtoms, Bundle.chainSAtoms, List.mem_append, List.mem_cons, List.not_mem_nil, or_false] at hw
      rcases hw with (rfl | rfl | rfl | rfl | rfl) | (rfl | rfl | rfl | rfl | rfl) | rfl | rfl | rfl | rfl | rfl
      · exact hts _ (bg5 38 (by first | rfl | decide +kernel) rfl)
      · exact hts _ (bg5 39 (by first | rfl | decide +kernel) rfl)
      · exact hts _ (bg5 40 (by first | rfl | decide +kernel) rfl)
      · exact hts _ (bg5 41 (by first | rfl | decide +kernel) rfl)
      · exact hB _ (List.mem_of_getElem? (i := 1) rfl)
      · exact hts _ (bg5 41 (by first | rfl | decide +kernel) rfl)
      · exact hts _ (bg5 42 (by first | rfl | decide +kernel) rfl)
      · exact hts _ (bg5 43 (by first | rfl | decide +kernel) rfl)
      · exact hts _ (bg5 44 (by first | rfl | decide +kernel) rfl)
      · exact hB _ (List.mem_of_getElem? (i := 2) rfl)
      · exact hts _ (bg5 44 (by first | rfl | decide +kernel) rfl)
      · exact hts _ (bg5 45 (by first | rfl | decide +kernel) rfl)
      · exact hts _ (bg5 46 (by first | rfl | decide +kernel) rfl)
      · exact hts _ (bg5 47 (by first | rfl | decide +kernel) rfl)
      · exact hB _ (List.mem_of_getElem? (i := 3) rfl)
    · simp only [nxO, List.mem_cons, List.not_mem_nil, or_false] at hw
      rcases hw with rfl | rfl | rfl | rfl | rfl | rfl | rfl | rfl | rfl | rfl | rfl | rfl
      · exact hts _ (bg5 37 (by first | rfl | decide +kernel) rfl)
      · exact hts _ (bg4 238 (by first | rfl | decide +kernel) rfl)
      · exact hB _ (List.mem_of_getElem? (i := 0) rfl)
      · exact hts _ (bg5 6 (by first | rfl | decide +kernel) rfl)
      · exact hts _ (bg5 7 (by first | rfl | decide +kernel) rfl)
      · exact hts _ (bg5 8 (by first | rfl | decide +kernel) rfl)
      · exact hts _ (bg5 10 (by first | rfl | decide +kernel) rfl)
      · exact hts _ (bg5 12 (by first | rfl | decide +kernel) rfl)
      · exact hts _ (bg5 14 (by first | rfl | decide +kernel) rfl)
      · exact hts _ (bg5 18 (by first | rfl | decide +kernel) rfl)
      · exact hts _ (bg5 17 (by first | rfl | decide +kernel) rfl)
      · exact hts _ (bg5 16 (by first | rfl | decide +kernel) rfl)
theorem nxW_ot : ∀ w ∈ Cond.classLink RX7 289 xNS :: Cond.initialized xNS :: nxW RX7 293, vx_ot w = true := by decide +kernel
theorem xw_cl : Cond.classLink RX7 289 xNS ∈ BIG := bg4 237 (by decide +kernel) rfl
theorem xw_in : Cond.initialized xNS ∈ BIG := bg1 19 (by decide +kernel) rfl
def xTh (E : Ev) (M : Mm) (N : Nn) (P : Prop) : String → State → State → Prop := fun X st t => X = xNS ∧ P ∧ Hd E M N t.heap ∧ va_F (eA E) st t
theorem Hd_kept {E : Ev} {M : Mm} {N : Nn} {H H1 : Heap} (h : Hd E M N H) (hq : ∀ q : Nat, q < H.size → H1[q]? = H[q]?) : Hd E M N H1 := ⟨h.1.kept (fun i x hx => hq _ (vx_lt h.1 hx)), h.2⟩
/-- what else stays, for the throw -/
def EX (E : Ev) : Prop := (eL E).stackTraces = false ∧ (∀ s, eF E s → vk_R RX7 291 "no such step" (eT E 18) s) ∧ (∀ s, eF E s → vx_Zq Bundle.tN "UNASSIGNED_STACK" Bundle.steD (eA E) s s.heap) ∧ (∀ s, eF E s → vx_Zq Bundle.tN "SUPPRESSED_SENTINEL" Bundle.listD (eA E) s s.heap) ∧ ∀ s, eF E s → ∀ w ∈ nxB, va_Nw w s
theorem nxB_ot : ∀ w ∈ nxB, w.onTables = true := by decide +kernel
set_option maxRecDepth 100000 in
set_option maxHeartbeats 4000000 in
theorem th_X7_doubtful {E : Ev} {M : Mm} {N : Nn} {L : List Vv} {Q : Option Vv → Mm → Nn → Prop} {P : Prop} (hE : EX E) (hP0 : P) : Go E RX7 cX7_doubtful 4 ((some .int)) (rmF 6 1 6) 0 0 (zT [] (zX E Q (xTh E M N P) 1 6)) 57 L [] M N := by
  refine go_tb ?_
  intro p e s m args below meth c C htb H locs ls hP hS hL hst hl
  have hts := C.2.2.2.2.2.1
  have hF := C.2.2.2.2.2.2.2.2.2.1
  refine nx_throw (own := RX7) (text := "no such step") (ik := 289) (is := 291) (ic := 293) (sa := eT E 18) (A := eA E) (mc := 1) (ms := 6) C.1 C.2.1 hE.1 C.2.2.2.2.1 (hts _ xw_cl) (hts _ xw_in) (hE.2.1 s hF) (nxW_ok hts (fun w hw => va_Nw.use (nxB_ot w hw) (hE.2.2.2.2 s hF w hw))) nxW_ot (hE.2.2.1 s hF) (hE.2.2.2.1 s hF) hS (by rw [C.2.2.1]; exact hl.1) dX7_doubtful_57 dX7_doubtful_60 dX7_doubtful_61 dX7_doubtful_64 dX7_doubtful_67 (fun x hx => by rw [htb] at hx; cases hx) (by decide) (by show 0 + 82 ≤ 240; decide) (by decide) (by decide) C.2.2.2.2.2.2.1 (fun t _ hsz hq => ?_) hS.2.2 (by decide) (by decide)
  exact ⟨rfl, hP0, Hd_kept hP hq, Nat.le_trans hS.1 hsz, fun q q1 q2 => (hq q (Nat.lt_of_lt_of_le q1 hS.1)).trans (hS.2.1 q q1 q2)⟩
/-- doubtful of the class: it answers, or throws -/
def CtX (E : Ev) (y : MethodName) (cc : ByteArray) (nL : Nat) (ret : Option FieldType) (rm : Room) (As : List Vv) (M : Mm) (N : Nn) (Q : Option Vv → Mm → Nn → Prop) (XC : String → State → State → Prop) (mc ms : Nat) : Prop :=
  vx_Met (eL E) y (.code y cc nL ret :: BIG) rm (va_Pc (As.map (cv E)) (fun U => Bs E U ∧ Hd E M N U.heap ∧ okL As)) (QcE E Q) XC mc ms (eA E)
theorem ctX_of {E : Ev} {own : String} {cc : ByteArray} {nL : Nat} {ret : Option FieldType} {M : Mm} {N : Nn} {Q : Option Vv → Mm → Nn → Prop} {XC : String → State → State → Prop} {mc ms : Nat} {y : MethodName} {rm : Room} {As L0 : List Vv} (ho : y.cls = own) (hy : plainName y.cls = true) (hn : Nat.ble (en1 As).length nL = true) (h0 : enL As nL = L0) (k : Go E own cc nL ret rm 0 0 (zT [] (zX E Q XC mc ms)) 0 L0 [] M N) : CtX E y cc nL ret rm As M N Q XC mc ms := by
  subst h0 ho
  refine vx_ofW (cc := cc) (maxL := nL) (ret := ret) hy rfl ?_
  intro p e s m args below meth c s₁ B hml htb hv
  obtain ⟨rfl, hB, hP, hok⟩ := hv
  have hts := atoms_spec (ws := .code y cc nL ret :: BIG) B.pre
  have hown : s.vm.findClass y.cls = some m.cls := findClass_of_methodNamed B.named
  have hlen : (lg_sl (As.map (cv E))).length ≤ nL := by rw [en1_len]; exact Nat.le_of_ble_eq_true hn
  have hl := lv_entry (As.map (cv E)) (n := nL) hlen
  rw [lg_entry_eq]
  have hT : Ptb [] s := by
    intro m' a' bl' meth' c' f1 f2 f3
    have e1 := f1.symm.trans B.frames
    cases e1
    cases Option.some.inj (f2.symm.trans B.method)
    cases Option.some.inj (f3.symm.trans (Stand.of_body B).code)
    exact List.eq_nil_iff_forall_not_mem.mpr (fun x hx => htb x hx)
  have g := k p e s m _ below meth c ⟨B.exec, B.bytes, hml, B.returns, hown, fun w hw => hts w (List.mem_cons_of_mem _ hw), B.notSynchronized, hB⟩ s.heap [] _ hP va_S.rf (okL_enL hok) okL_nil (lv_mono hl (fun q hq => ?_))
  · intro T hTh X
    obtain ⟨t, a, b⟩ := g T hTh X
    exact ⟨t, a, b hT⟩
  · obtain ⟨v, h1, h2, h3⟩ := lvl_mem.mp hq
    have h4 : (en1 As)[q.1]? = some v := by
      unfold enL at h1
      by_cases hq1 : q.1 < (en1 As).length
      · rw [List.getElem?_append_left hq1] at h1
        exact h1
      · rw [List.getElem?_append_right (by omega)] at h1
        have := List.mem_of_getElem? h1
        exact absurd (List.mem_replicate.mp this).2 h2
    have h5 := en1_mem (E := E) As 0 q.1 v h4 h2
    rw [Nat.zero_add, ← h3] at h5
    exact h5
set_option maxRecDepth 100000 in
set_option maxHeartbeats 4000000 in
theorem ct_X7_doubtful {E : Ev} {M : Mm} {N : Nn} {p : Nat} {i : Int} {φ : Nat → FV} {ν : Nu} {ma : Int → Int} (hE : EX E) (hC : N (3, 0, 0) 6 = (18, p, 0)) (hc0 : 0 ≤ pgC M p 11 0) (hc : pgC M p 11 0 ≤ 15) (hF : FS M 0 φ ν ma) (hb : ∀ v, 0 ≤ v → v < pgC M p 11 0 → pgC M p 0 v = 3 → 0 ≤ ma v ∧ ma v < 64) :
    CtX E yX7_doubtful cX7_doubtful 4 ((some .int)) (rmF 6 1 6) [vr (3, 0, 0), vi i] M N (qi (fun r M1 N1 => duR (pgC M p) ma i (pgC M p 11 0).toNat 0 0 = (0, r) ∧ M = M1 ∧ N = N1)) (xTh E M N (duR (pgC M p) ma i (pgC M p 11 0).toNat 0 0 = (1, 0))) 1 6 := by
  refine ctX_of (own := RX7) (L0 := [vr (3, 0, 0), vi i, vn, vn]) rfl (by decide +kernel) rfl rfl ?_
  refine go_iconst dX7_doubtful_0 (R32_lit rfl) ?_
  refine go_ist2 dX7_doubtful_1 rfl rfl ?_
  refine go_iconst dX7_doubtful_2 (R32_lit rfl) ?_
  refine go_ist3 dX7_doubtful_3 rfl rfl ?_
  refine lp_X7_doubtful (X := duR (pgC M p) ma i (pgC M p 11 0).toNat 0 0) hC hc hF hb (fun r L h => ?_) (fun L h => th_X7_doubtful hE h) (pgC M p 11 0).toNat 0 0 (by omega) (by omega) (by omega) (by omega) rfl
  refine go_iretX dX7_doubtful_47 ⟨r, rfl, ?_, h, rfl, rfl⟩
  have d := duR_01 (S := pgC M p) (ma := ma) (i := i) (pgC M p 11 0).toNat 0 0
  rw [h] at d
  rcases d with d | d
  · have d1 : 0 ≤ r := d.2.1
    have d2 : r < 0 + ((pgC M p 11 0).toNat : Int) := d.2.2
    unfold R32; omega
  · cases d
