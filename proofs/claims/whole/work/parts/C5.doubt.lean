/-! doubtful: the class's method that may throw -/
def xNS : String := "java/util/NoSuchElementException"
def xNN : List String := ["java/lang/RuntimeException", "java/lang/Exception"]
/-- the table of the method that a state is about to run -/
def Ptb (tb : List ExceptionTableEntry) (s : State) : Prop := ∀ (m : MethodId) (a : Array Value) (bl : List Frame) (meth : Method) (c : Code), s.frames = .invoking m a :: bl → s.vm.method? m = some meth → meth.code = some c → c.exceptionTable.toList = tb
def zT (tb : List ExceptionTableEntry) (Z0 : Zt) : Zt := fun below args s t => Ptb tb s → Z0 below args s t
def zX (E : Ev) (Q : Option Vv → Mm → Nn → Prop) (XC : String → State → State → Prop) (mc ms : Nat) : Zt := fun below args s => vx_MQ below (QcE E Q) XC args s mc ms (eA E)
section DB
variable {E : Ev} {own : String} {cc : ByteArray} {nL : Nat} {ret : Option FieldType} {R : Room} {cl sl : Nat} {Z0 : Zt} {pc : Nat} {L st : List Vv} {M : Mm} {N : Nn} {Q : Option Vv → Mm → Nn → Prop} {XC : String → State → State → Prop} {tb : List ExceptionTableEntry} {mc ms : Nat}
theorem go_tb (k : ∀ (p : Program) (e : Env) (s : State) (m : MethodId) (args : Array Value) (below : List Frame) (meth : Method) (c : Code), Cx E own cc nL ret p s m args meth c → c.exceptionTable.toList = tb →
    ∀ (H : Heap) (locs : List Loc) (ls : Array Slot), Hd E M N H → va_S (eA E) s.heap H locs → okL L → okL st → lv_has ls nL (lvl E L) → W p (eL E) e R s m args below meth c H locs cl sl (Z0 below args s) (F0 m pc ls (st.map (cv E)))) : Go E own cc nL ret R cl sl (zT tb Z0) pc L st M N := by
  intro p e s m args below meth c C H locs ls hP hS hL hst hl T hT X
  by_cases h : Ptb tb s
  · obtain ⟨t, a, b⟩ := k p e s m args below meth c C (h m args below meth c X.frames X.method X.code) H locs ls hP hS hL hst hl T hT X
    exact ⟨t, a, fun _ => b⟩
  · exact ⟨_, Steps.refl _, fun z => absurd z h⟩
theorem go_iretX {x : Int} (hd : decode cc pc = .ok (.ireturn, 1)) (hq : Q (some (vi x)) M N) : Go E own cc nL (some .int) R 0 0 (zT tb (zX E Q XC mc ms)) pc L [vi x] M N := by
  refine go_tb ?_
  intro p e s m args below meth c C _ H locs ls hP hS hL hst hl
  refine W.widen (Nat.zero_le mc) (Nat.zero_le ms) (vx_ret ?_)
  exact W.iret C.1 C.2.1 C.2.2.2.1 (fun t ht hW => ⟨some (vi x), M, N, rfl, fun v hv => by cases hv; exact hst.head, hq, by rw [ht]; exact hP, hS.F ht⟩) hS.2.2 hd C.2.2.2.2.2.2.1
end DB
theorem sI_m (S : Pg) : ∀ (i : Nat) (v : Int), (sI S i).2.2 v = 0
  | 0, _ => rfl
  | i + 1, v => by
    show maU (sI S i).2.2 (S 10 i) 0 v = 0
    unfold maU
    split
    · rfl
    · exact sI_m S i v
theorem sK_m (S : Pg) (W : Int → Bool) : ∀ (n : Nat) (v : Int), 0 ≤ (sK S W n).2.2 v ∧ (sK S W n).2.2 v < 64
  | 0, v => by
    show 0 ≤ (sI S (S 12 0).toNat).2.2 v ∧ (sI S (S 12 0).toNat).2.2 v < 64
    rw [sI_m]; omega
  | n + 1, v => by
    have ih := sK_m S W n v
    show 0 ≤ (if S 0 n ≠ -2 ∧ W n = true then stF S (S 5) n (sK S W n) else sK S W n).2.2 v ∧ (if S 0 n ≠ -2 ∧ W n = true then stF S (S 5) n (sK S W n) else sK S W n).2.2 v < 64
    split
    · show 0 ≤ maU (sK S W n).2.2 n (stM S (sK S W n).1 n) v ∧ maU (sK S W n).2.2 n (stM S (sK S W n).1 n) v < 64
      unfold maU
      split
      · unfold stM
        split
        · exact wyS_bd _ _
        · omega
      · exact ih
    · exact ih
theorem iand_48 : ∀ n : Fin 64, (iand ((n : Nat) : Int) 48 = 0 ↔ ((n : Nat) : Int) < 16) := by decide +kernel
theorem iand_48b {x : Int} (h0 : 0 ≤ x) (h1 : x < 64) : iand x 48 = 0 ↔ x < 16 := by
  have h := iand_48 ⟨x.toNat, by omega⟩
  have e : (((⟨x.toNat, by omega⟩ : Fin 64) : Nat) : Int) = x := Int.toNat_of_nonneg h0
  rw [e] at h
  exact h
theorem duR_01 {S : Pg} {ma : Int → Int} {i : Int} : ∀ (n : Nat) (v c : Int), (duR S ma i n v c).1 = 0 ∧ v ≤ (duR S ma i n v c).2 ∧ (duR S ma i n v c).2 < v + n ∨ duR S ma i n v c = (1, 0)
  | 0, _, _ => Or.inr rfl
  | n + 1, v, c => by
    unfold duR
    split
    · split
      · exact Or.inl ⟨rfl, Int.le_refl v, by show v < v + ((n + 1 : Nat) : Int); omega⟩
      · rcases duR_01 (S := S) (ma := ma) (i := i) n (v + 1) (c + 1) with h | h
        · exact Or.inl ⟨h.1, by omega, by omega⟩
        · exact Or.inr h
    · rcases duR_01 (S := S) (ma := ma) (i := i) n (v + 1) c with h | h
      · exact Or.inl ⟨h.1, by omega, by omega⟩
      · exact Or.inr h
theorem duR_cg {S : Pg} {ma ma' : Int → Int} {i C : Int} (h : ∀ v, 0 ≤ v → v < C → S 0 v = 3 → ma v = ma' v) : ∀ (n : Nat) (v c : Int), 0 ≤ v → v + n ≤ C → duR S ma i n v c = duR S ma' i n v c
  | 0, _, _, _, _ => rfl
  | n + 1, v, c, v0, v1 => by
    unfold duR
    rw [duR_cg h n (v + 1) (c + 1) (by omega) (by omega), duR_cg h n (v + 1) c (by omega) (by omega)]
    by_cases z : S 0 v = 3
    · rw [h v v0 (by omega) z]
    · rw [if_neg (fun q => z q.1), if_neg (fun q => z q.1)]
set_option maxRecDepth 100000 in
set_option maxHeartbeats 4000000 in
theorem lp_X7_doubtful {E : Ev} {M : Mm} {N : Nn} {p : Nat} {i : Int} {φ : Nat → FV} {ν : Nu} {ma : Int → Int} {Z : Zt} {X : Int × Int} (hC : N (3, 0, 0) 6 = (18, p, 0)) (hc : pgC M p 11 0 ≤ 15) (hF : FS M 0 φ ν ma) (hb : ∀ v, 0 ≤ v → v < pgC M p 11 0 → pgC M p 0 v = 3 → 0 ≤ ma v ∧ ma v < 64)
    (hT0 : ∀ (r : Int) (L : List Vv), X = (0, r) → Go E RX7 cX7_doubtful 4 ((some .int)) (rmF 6 1 6) 0 0 Z 47 L [vi r] M N) (hT1 : ∀ L : List Vv, X = (1, 0) → Go E RX7 cX7_doubtful 4 ((some .int)) (rmF 6 1 6) 0 0 Z 57 L [] M N) :
    ∀ (n : Nat) (v c : Int), (v + n = pgC M p 11 0) → (0 ≤ v) → (0 ≤ c) → (c ≤ v) → (duR (pgC M p) ma i n v c = X) → Go E RX7 cX7_doubtful 4 ((some .int)) (rmF 6 1 6) 0 0 Z 4 [vr (3, 0, 0), vi i, vi c, vi v] [] M N := by
  intro n
  induction n using Nat.strongRecOn with
  | ind n ih =>
  intro v c hn v0 c0 c1 hE
  refine go_iload_n dX7_doubtful_4 rfl ?_
  refine go_aload_n dX7_doubtful_5 rfl rfl ?_
  refine g7_50 dX7_doubtful_6 ?_
  rw [hC]
  refine g7_96 dX7_doubtful_9 ?_
  rw [show M (18, p, 0) 11 = pgC M p 11 0 from rfl]
  refine go_icmp_ge (tgt := 57) dX7_doubtful_12 rfl (fun h12 => ?_) (fun h12 => ?_)
  · rw [show n = 0 by omega] at hE
    exact hT1 _ hE.symm
  · refine go_aload_n dX7_doubtful_15 rfl rfl ?_
    refine g7_50 dX7_doubtful_16 ?_
    rw [hC]
    refine go_iload_n dX7_doubtful_19 rfl ?_
    refine v7_175 dX7_doubtful_20 rfl ⟨rfl, rfl⟩ ⟨rfl, rfl⟩ (ct_X3_isPick hc) (fun r0 M0 N0 hr0 hq0 => ?_)
    obtain ⟨e0, rfl, rfl⟩ := hq0
    have hn1 : 0 < n := by omega
    rw [duR_s hn1] at hE
    have next : ∀ c', 0 ≤ c' → c' ≤ v + 1 → duR (pgC M p) ma i (n - 1) (v + 1) c' = X → Go E RX7 cX7_doubtful 4 ((some .int)) (rmF 6 1 6) 0 0 Z 51 [vr (3, 0, 0), vi i, vi c', vi v] [] M N := by
      intro c' c0' c1' hE'
      refine go_iinc3c dX7_doubtful_51 rfl rfl ⟨by omega, by omega⟩ ?_
      refine go_goto (tgt := 4) dX7_doubtful_54 rfl ?_
      exact ih (n - 1) (by omega) (v + 1) c' (by omega) (by omega) c0' c1' hE'
    refine go_if_eq (tgt := 51) dX7_doubtful_23 rfl (fun h23 => ?_) (fun h23 => ?_)
    · have z : ¬ pgC M p 0 v = 3 := fun z => by
        rw [e0, if_pos ⟨v0, by omega, z⟩] at h23
        exact absurd h23 (by decide)
      rw [if_neg (fun q => z q.1)] at hE
      exact next c c0 (by omega) hE
    · have z : pgC M p 0 v = 3 := by
        by_cases z : pgC M p 0 v = 3
        · exact z
        · exact absurd (by rw [e0, if_neg (fun q => z q.2.2)] : r0 = 0) h23
      have m1 := hb v v0 (by omega) z
      have m2 : M (8, 0, 0) v = ma v := hF.2.2.2.2.2.1 v v0 (by omega)
      refine go_aload_n dX7_doubtful_26 rfl rfl ?_
      refine g7_29 dX7_doubtful_27 ?_
      refine g7_224 dX7_doubtful_30 ?_
      refine go_iload_n dX7_doubtful_33 rfl ?_
      refine go_iald (len := 15) dX7_doubtful_34 rfl v0 (by omega) ?_
      rw [m2]
      refine go_bipush dX7_doubtful_35 ⟨by decide, by decide⟩ ?_
      refine go_iand dX7_doubtful_37 ?_
      refine go_if_eq (tgt := 51) dX7_doubtful_38 rfl (fun h38 => ?_) (fun h38 => ?_)
      · have q16 := (iand_48b m1.1 m1.2).mp h38
        rw [if_neg (fun q => by omega)] at hE
        exact next c c0 (by omega) hE
      · have q16 : ¬ ma v < 16 := fun q => h38 ((iand_48b m1.1 m1.2).mpr q)
        rw [if_pos ⟨z, by omega⟩] at hE
        refine go_iload_n dX7_doubtful_41 rfl ?_
        refine go_iload_n dX7_doubtful_42 rfl ?_
        refine go_icmp_ne (tgt := 48) dX7_doubtful_43 rfl (fun h43 => ?_) (fun h43 => ?_)
        · rw [if_neg h43] at hE
          refine go_iinc2c dX7_doubtful_48 rfl rfl ⟨by omega, by omega⟩ ?_
          exact next (c + 1) (by omega) (by omega) hE
        · rw [if_pos h43] at hE
          refine go_iload_n dX7_doubtful_46 rfl ?_
          exact hT0 _ _ hE.symm
