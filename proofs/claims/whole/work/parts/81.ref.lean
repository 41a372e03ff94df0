/-- the reference's tape holds the bytes without sign -/
def tpR (b : Int → Int) (M : Mm) : Prop := ∀ i, 0 ≤ i → i < 500 → M (30, 0, 4) i = b i % 256 ∧ -128 ≤ b i ∧ b i < 128
theorem tpR.k {b : Int → Int} {M M1 : Mm} (h : tpR b M) (e : M1 (30, 0, 4) = M (30, 0, 4)) : tpR b M1 := by unfold tpR; rw [e]; exact h
theorem see_c {b : Int → Int} {M : Mm} {n x r : Int} (ht : tpR b M) (x0 : 0 ≤ x) (hn : n ≤ 500) (e : r = if x < n then M (30, 0, 4) x else -1) : (x < n ∧ r = b x % 256 ∧ -128 ≤ b x ∧ b x < 128) ∨ (n ≤ x ∧ r = -1) := by
  by_cases q : x < n
  · rw [if_pos q] at e
    have := ht x x0 (by omega)
    exact Or.inl ⟨q, e.trans this.1, this.2⟩
  · rw [if_neg q] at e
    exact Or.inr ⟨by omega, e⟩
theorem ruS_in {b : Int → Int} {n lo hi ba le x m : Int} (h : x < n ∧ lo ≤ b x ∧ b x ≤ hi) : ruS b n lo hi ba le (n - x).toNat x m = ruS b n lo hi ba le (n - (x + 1)).toNat (x + 1) (w32 (w32 (m * ba) + (b x - lo + le))) := by
  rw [show (n - x).toNat = (n - (x + 1)).toNat + 1 by omega]
  show (if x < n ∧ lo ≤ b x ∧ b x ≤ hi then _ else _) = _
  rw [if_pos h]
theorem ruS_out {b : Int → Int} {n lo hi ba le x m : Int} (h : ¬ (x < n ∧ lo ≤ b x ∧ b x ≤ hi)) : ruS b n lo hi ba le (n - x).toNat x m = (x, m) := by
  cases (n - x).toNat with
  | zero => rfl
  | succ k =>
    show (if x < n ∧ lo ≤ b x ∧ b x ≤ hi then _ else _) = _
    rw [if_neg h]
theorem bkS_in {b : Int → Int} {n x : Int} (h : x < n ∧ b x = 32) : bkS b n (n - x).toNat x = bkS b n (n - (x + 1)).toNat (x + 1) := by
  rw [show (n - x).toNat = (n - (x + 1)).toNat + 1 by omega]
  show (if x < n ∧ b x = 32 then _ else _) = _
  rw [if_pos h]
theorem bkS_out {b : Int → Int} {n x : Int} (h : ¬ (x < n ∧ b x = 32)) : bkS b n (n - x).toNat x = x := by
  cases (n - x).toNat with
  | zero => rfl
  | succ k =>
    show (if x < n ∧ b x = 32 then _ else _) = _
    rw [if_neg h]
set_option maxRecDepth 100000 in
set_option maxHeartbeats 4000000 in
theorem lpL_X8_goesOn {E : Ev} {M : Mm} {N : Nn} {b : Int → Int} {X : Int × Int} {p n0 c : Int} (ht : tpR b M) (hn : n0 = M (29, 0, 0) 15) (n5 : n0 ≤ 500) (p0 : 0 ≤ p) : ∀ (n : Nat) (x m : Int) (M2 : Mm), (x + n = max n0 x) → (p ≤ x) → (x ≤ 500) → (M2 (29, 0, 0) 17 = x) → (M2 (29, 0, 0) 16 = p) → (ruS b n0 97 122 27 1 (n0 - x).toNat x m = X) → (Kr [16, 17, 18, 19] [] M M2) → Go E RX8 cX8_goesOn 2 (none) (rmH 2) 0 0 (zM E (qv (fun M1 N1 => M1 (29, 0, 0) 16 = p ∧ M1 (29, 0, 0) 17 = X.1 ∧ M1 (29, 0, 0) 18 = (if X.1 - p ≤ 6 then 2 else 1) ∧ Kr [16, 17, 18, 19] [] M M1 ∧ N = N1))) 68 [vr (29, 0, 0), vi c] [] M2 N := by
  intro n
  induction n using Nat.strongRecOn with
  | ind n ih =>
  intro x m M2 hk x0 x5 hx hp hX hf
  have s15 : M2 (29, 0, 0) 15 = n0 := by rw [hf.s 15 (by decide), hn]
  have ht2 : tpR b M2 := ht.k (hf.a 4 (by decide))
  refine go_aload_n dX8_goesOn_68 rfl rfl ?_
  refine go_aload_n dX8_goesOn_69 rfl rfl ?_
  refine g8_123 dX8_goesOn_70 ?_
  rw [hx]
  refine v8_126 dX8_goesOn_73 rfl ⟨rfl, rfl⟩ ⟨rfl, rfl⟩ (ct_X8_see (by omega) (by omega)) (fun r1 M1 N1 hr1 hq1 => ?_)
  obtain ⟨z1, rfl, rfl⟩ := hq1
  have y1 := see_c ht2 (x := x) (by omega) (by omega) z1
  refine go_i2l dX8_goesOn_76 ?_
  refine c8_136 dX8_goesOn_77 ?_
  refine c8_138 dX8_goesOn_80 ?_
  refine v8_140 dX8_goesOn_83 rfl ⟨rfl, rfl⟩ ⟨rfl, rfl⟩ ct_X8_in (fun r2 M3 N3 hr2 hq2 => ?_)
  obtain ⟨z2, rfl, rfl⟩ := hq2
  have z2 := bit_iff z2
  refine go_if_eq (tgt := 102) dX8_goesOn_86 rfl (fun h86 => ?_) (fun h86 => ?_)
  · have e1 := ruS_out (ba := 27) (le := 1) (m := m) (show ¬ (x < n0 ∧ 97 ≤ b x ∧ b x ≤ 122) by omega)
    rw [hX] at e1
    refine go_aload_n dX8_goesOn_102 rfl rfl ?_
    refine go_aload_n dX8_goesOn_103 rfl rfl ?_
    refine g8_123 dX8_goesOn_104 ?_
    rw [hx]
    refine go_aload_n dX8_goesOn_107 rfl rfl ?_
    refine g8_130 dX8_goesOn_108 ?_
    rw [hp]
    refine go_isubc dX8_goesOn_111 ⟨by omega, by omega⟩ ?_
    refine go_bipush dX8_goesOn_112 ⟨by decide, by decide⟩ ?_
    refine go_icmp_le (tgt := 121) dX8_goesOn_114 rfl (fun h114 => ?_) (fun h114 => ?_)
    · refine go_iconst dX8_goesOn_121 (R32_lit rfl) ?_
      skip
      refine p8_133 dX8_goesOn_122 ?_
      refine go_retv dX8_goesOn_125 ?_
      refine ⟨?_, ?_, ?_, hf.ws (by decide), rfl⟩
      · rw [wr_nk (by decide)]; exact hp
      · rw [wr_nk (by decide), hx, e1]
      · rw [wr_eq, e1]
        first
        | (rw [if_pos (show x - p ≤ 6 by omega)]; done)
        | (rw [if_neg (show ¬ x - p ≤ 6 by omega)]; done)
    · refine go_iconst dX8_goesOn_117 (R32_lit rfl) ?_
      refine go_goto (tgt := 122) dX8_goesOn_118 rfl ?_
      skip
      refine p8_133 dX8_goesOn_122 ?_
      refine go_retv dX8_goesOn_125 ?_
      refine ⟨?_, ?_, ?_, hf.ws (by decide), rfl⟩
      · rw [wr_nk (by decide)]; exact hp
      · rw [wr_nk (by decide), hx, e1]
      · rw [wr_eq, e1]
        first
        | (rw [if_pos (show x - p ≤ 6 by omega)]; done)
        | (rw [if_neg (show ¬ x - p ≤ 6 by omega)]; done)
  · refine go_aload_n dX8_goesOn_89 rfl rfl ?_
    first | refine go_dup_r dX8_goesOn_90 ?_ | refine go_dup_i dX8_goesOn_90 ?_
    refine g8_123 dX8_goesOn_91 ?_
    rw [hx]
    refine go_iconst dX8_goesOn_94 (R32_lit rfl) ?_
    refine go_iaddc dX8_goesOn_95 ⟨by omega, by omega⟩ ?_
    refine p8_123 dX8_goesOn_96 ?_
    refine go_goto (tgt := 68) dX8_goesOn_99 rfl ?_
    exact ih (n - 1) (by omega) (x + 1) (w32 (w32 (m * 27) + (b x - 97 + 1))) _ (by omega) (by omega) (by omega) (by rw [wr_eq]) (by rw [wr_nk (by decide)]; exact hp) (by rw [← hX]; exact (ruS_in (by omega)).symm) (hf.ws (by decide))
set_option maxRecDepth 100000 in
set_option maxHeartbeats 4000000 in
theorem lpD_X8_goesOn {E : Ev} {M : Mm} {N : Nn} {b : Int → Int} {X : Int × Int} {p n0 c : Int} (ht : tpR b M) (hn : n0 = M (29, 0, 0) 15) (n5 : n0 ≤ 500) (p0 : 0 ≤ p) : ∀ (n : Nat) (x m : Int) (M2 : Mm), (x + n = max n0 x) → (p ≤ x) → (x ≤ 500) → (M2 (29, 0, 0) 17 = x) → (M2 (29, 0, 0) 16 = p) → (ruS b n0 48 57 10 0 (n0 - x).toNat x m = X) → (0 ≤ M2 (29, 0, 0) 19 ∧ M2 (29, 0, 0) 19 ≤ 9999 ∧ (x - p ≤ 4 → M2 (29, 0, 0) 19 = m ∧ (x - p ≤ 3 → M2 (29, 0, 0) 19 ≤ 999) ∧ (x - p ≤ 2 → M2 (29, 0, 0) 19 ≤ 99) ∧ (x - p ≤ 1 → M2 (29, 0, 0) 19 ≤ 9) ∧ (x - p ≤ 0 → M2 (29, 0, 0) 19 = 0))) → (Kr [16, 17, 18, 19] [] M M2) → Go E RX8 cX8_goesOn 2 (none) (rmH 2) 0 0 (zM E (qv (fun M1 N1 => M1 (29, 0, 0) 16 = p ∧ M1 (29, 0, 0) 17 = X.1 ∧ M1 (29, 0, 0) 18 = (if X.1 - p ≤ 4 then 3 else 1) ∧ (X.1 - p ≤ 4 → M1 (29, 0, 0) 19 = X.2) ∧ Kr [16, 17, 18, 19] [] M M1 ∧ N = N1))) 145 [vr (29, 0, 0), vi c] [] M2 N := by
  intro n
  induction n using Nat.strongRecOn with
  | ind n ih =>
  intro x m M2 hk x0 x5 hx hp hX hw hf
  have s15 : M2 (29, 0, 0) 15 = n0 := by rw [hf.s 15 (by decide), hn]
  have ht2 : tpR b M2 := ht.k (hf.a 4 (by decide))
  refine go_aload_n dX8_goesOn_145 rfl rfl ?_
  refine go_aload_n dX8_goesOn_146 rfl rfl ?_
  refine g8_123 dX8_goesOn_147 ?_
  rw [hx]
  refine v8_126 dX8_goesOn_150 rfl ⟨rfl, rfl⟩ ⟨rfl, rfl⟩ (ct_X8_see (by omega) (by omega)) (fun r1 M1 N1 hr1 hq1 => ?_)
  obtain ⟨z1, rfl, rfl⟩ := hq1
  have y1 := see_c ht2 (x := x) (by omega) (by omega) z1
  refine go_i2l dX8_goesOn_153 ?_
  refine c8_144 dX8_goesOn_154 ?_
  refine c8_146 dX8_goesOn_157 ?_
  refine v8_140 dX8_goesOn_160 rfl ⟨rfl, rfl⟩ ⟨rfl, rfl⟩ ct_X8_in (fun r2 M3 N3 hr2 hq2 => ?_)
  obtain ⟨z2, rfl, rfl⟩ := hq2
  have z2 := bit_iff z2
  refine go_if_eq (tgt := 222) dX8_goesOn_163 rfl (fun h163 => ?_) (fun h163 => ?_)
  · have e1 := ruS_out (ba := 10) (le := 0) (m := m) (show ¬ (x < n0 ∧ 48 ≤ b x ∧ b x ≤ 57) by omega)
    rw [hX] at e1
    refine go_aload_n dX8_goesOn_222 rfl rfl ?_
    refine go_aload_n dX8_goesOn_223 rfl rfl ?_
    refine g8_123 dX8_goesOn_224 ?_
    rw [hx]
    refine go_aload_n dX8_goesOn_227 rfl rfl ?_
    refine g8_130 dX8_goesOn_228 ?_
    rw [hp]
    refine go_isubc dX8_goesOn_231 ⟨by omega, by omega⟩ ?_
    refine go_iconst dX8_goesOn_232 (R32_lit rfl) ?_
    refine go_icmp_le (tgt := 240) dX8_goesOn_233 rfl (fun h233 => ?_) (fun h233 => ?_)
    · refine go_iconst dX8_goesOn_240 (R32_lit rfl) ?_
      refine p8_133 dX8_goesOn_241 ?_
      refine go_retv dX8_goesOn_244 ?_
      refine ⟨?_, ?_, ?_, ?_, hf.ws (by decide), rfl⟩
      · rw [wr_nk (by decide)]; exact hp
      · rw [wr_nk (by decide), hx, e1]
      · rw [wr_eq, e1]
        first
        | (rw [if_pos (show x - p ≤ 4 by omega)]; done)
        | (rw [if_neg (show ¬ x - p ≤ 4 by omega)]; done)
      · rw [wr_nk (by decide), e1]
        intro q
        have q : x - p ≤ 4 := q
        show M2 (29, 0, 0) 19 = m
        omega
    · refine go_iconst dX8_goesOn_236 (R32_lit rfl) ?_
      refine go_goto (tgt := 241) dX8_goesOn_237 rfl ?_
      refine p8_133 dX8_goesOn_241 ?_
      refine go_retv dX8_goesOn_244 ?_
      refine ⟨?_, ?_, ?_, ?_, hf.ws (by decide), rfl⟩
      · rw [wr_nk (by decide)]; exact hp
      · rw [wr_nk (by decide), hx, e1]
      · rw [wr_eq, e1]
        first
        | (rw [if_pos (show x - p ≤ 4 by omega)]; done)
        | (rw [if_neg (show ¬ x - p ≤ 4 by omega)]; done)
      · rw [wr_nk (by decide), e1]
        intro q
        have q : x - p ≤ 4 := q
        show M2 (29, 0, 0) 19 = m
        omega
  · refine go_aload_n dX8_goesOn_166 rfl rfl ?_
    refine go_aload_n dX8_goesOn_167 rfl rfl ?_
    refine g8_123 dX8_goesOn_168 ?_
    rw [hx]
    refine go_aload_n dX8_goesOn_171 rfl rfl ?_
    refine g8_130 dX8_goesOn_172 ?_
    rw [hp]
    refine go_isubc dX8_goesOn_175 ⟨by omega, by omega⟩ ?_
    refine go_iconst dX8_goesOn_176 (R32_lit rfl) ?_
    refine go_icmp_ge (tgt := 202) dX8_goesOn_177 rfl (fun h177 => ?_) (fun h177 => ?_)
    · refine go_aload_n dX8_goesOn_202 rfl rfl ?_
      refine g8_148 dX8_goesOn_203 ?_
      refine go_nmi (fun w1 ew1 => ?_)
      have hw2 : 0 ≤ w1 ∧ w1 ≤ 9999 ∧ (x + 1 - p ≤ 4 → w1 = m * 10 + (b x - 48) ∧ (x + 1 - p ≤ 3 → w1 ≤ 999) ∧ (x + 1 - p ≤ 2 → w1 ≤ 99) ∧ (x + 1 - p ≤ 1 → w1 ≤ 9)) := by omega
      clear ew1
      refine p8_148 dX8_goesOn_206 ?_
      refine go_aload_n dX8_goesOn_209 rfl rfl ?_
      first | refine go_dup_r dX8_goesOn_210 ?_ | refine go_dup_i dX8_goesOn_210 ?_
      refine g8_123 dX8_goesOn_211 ?_
      rw [wr_nk (by decide), hx]
      refine go_iconst dX8_goesOn_214 (R32_lit rfl) ?_
      refine go_iaddc dX8_goesOn_215 ⟨by omega, by omega⟩ ?_
      refine p8_123 dX8_goesOn_216 ?_
      refine go_goto (tgt := 145) dX8_goesOn_219 rfl ?_
      exact ih (n - 1) (by omega) (x + 1) (w32 (w32 (m * 10) + (b x - 48 + 0))) _ (by omega) (by omega) (by omega) (by rw [wr_eq]) (by rw [wr_nk (by decide), wr_nk (by decide)]; exact hp) (by rw [← hX]; exact (ruS_in (by omega)).symm) (by
        rw [wr_nk (by decide), wr_eq]
        refine ⟨hw2.1, hw2.2.1, fun q => ?_⟩
        obtain ⟨q1, q2, q3, q4⟩ := hw2.2.2 q
        have em : w32 (w32 (m * 10) + (b x - 48 + 0)) = m * 10 + (b x - 48) := by
          rw [w32_id (x := m * 10) ⟨by omega, by omega⟩, w32_id ⟨by omega, by omega⟩]; omega
        rw [em]
        exact ⟨q1, q2, q3, q4, fun z => by omega⟩) ((hf.ws (by decide)).ws (by decide))
    · refine go_bipush dX8_goesOn_180 ⟨by decide, by decide⟩ ?_
      refine go_aload_n dX8_goesOn_182 rfl rfl ?_
      refine g8_148 dX8_goesOn_183 ?_
      refine go_nmi (fun w0 ew0 => ?_)
      refine go_imulc dX8_goesOn_186 ⟨by omega, by omega⟩ ?_
      refine go_aload_n dX8_goesOn_187 rfl rfl ?_
      refine go_aload_n dX8_goesOn_188 rfl rfl ?_
      refine g8_123 dX8_goesOn_189 ?_
      rw [hx]
      refine v8_126 dX8_goesOn_192 rfl ⟨rfl, rfl⟩ ⟨rfl, rfl⟩ (ct_X8_see (by omega) (by omega)) (fun r3 M4 N4 hr3 hq3 => ?_)
      obtain ⟨z3, rfl, rfl⟩ := hq3
      have y3 := see_c ht2 (x := x) (by omega) (by omega) z3
      refine go_iaddc dX8_goesOn_195 ⟨by omega, by omega⟩ ?_
      refine go_bipush dX8_goesOn_196 ⟨by decide, by decide⟩ ?_
      refine go_isubc dX8_goesOn_198 ⟨by omega, by omega⟩ ?_
      refine go_goto (tgt := 206) dX8_goesOn_199 rfl ?_
      refine go_nmi (fun w1 ew1 => ?_)
      have hw2 : 0 ≤ w1 ∧ w1 ≤ 9999 ∧ (x + 1 - p ≤ 4 → w1 = m * 10 + (b x - 48) ∧ (x + 1 - p ≤ 3 → w1 ≤ 999) ∧ (x + 1 - p ≤ 2 → w1 ≤ 99) ∧ (x + 1 - p ≤ 1 → w1 ≤ 9)) := by omega
      clear ew1
      refine p8_148 dX8_goesOn_206 ?_
      refine go_aload_n dX8_goesOn_209 rfl rfl ?_
      first | refine go_dup_r dX8_goesOn_210 ?_ | refine go_dup_i dX8_goesOn_210 ?_
      refine g8_123 dX8_goesOn_211 ?_
      rw [wr_nk (by decide), hx]
      refine go_iconst dX8_goesOn_214 (R32_lit rfl) ?_
      refine go_iaddc dX8_goesOn_215 ⟨by omega, by omega⟩ ?_
      refine p8_123 dX8_goesOn_216 ?_
      refine go_goto (tgt := 145) dX8_goesOn_219 rfl ?_
      exact ih (n - 1) (by omega) (x + 1) (w32 (w32 (m * 10) + (b x - 48 + 0))) _ (by omega) (by omega) (by omega) (by rw [wr_eq]) (by rw [wr_nk (by decide), wr_nk (by decide)]; exact hp) (by rw [← hX]; exact (ruS_in (by omega)).symm) (by
        rw [wr_nk (by decide), wr_eq]
        refine ⟨hw2.1, hw2.2.1, fun q => ?_⟩
        obtain ⟨q1, q2, q3, q4⟩ := hw2.2.2 q
        have em : w32 (w32 (m * 10) + (b x - 48 + 0)) = m * 10 + (b x - 48) := by
          rw [w32_id (x := m * 10) ⟨by omega, by omega⟩, w32_id ⟨by omega, by omega⟩]; omega
        rw [em]
        exact ⟨q1, q2, q3, q4, fun z => by omega⟩) ((hf.ws (by decide)).ws (by decide))
set_option maxRecDepth 100000 in
set_option maxHeartbeats 4000000 in
theorem go26_X8_goesOn {E : Ev} {M M2 : Mm} {N : Nn} {b : Int → Int} {p n0 : Int} (ht : tpR b M) (hn : n0 = M (29, 0, 0) 15) (n5 : n0 ≤ 500) (p0 : 0 ≤ p) (p5 : p ≤ 500) (hx : M2 (29, 0, 0) 17 = p) (hf : Kr [16, 17, 18, 19] [] M M2) : Go E RX8 cX8_goesOn 2 (none) (rmH 2) 0 0 (zM E (qv (fun M1 N1 => M1 (29, 0, 0) 16 = p ∧ M1 (29, 0, 0) 17 = (tkS b n0 p).2.1 ∧ M1 (29, 0, 0) 18 = (tkS b n0 p).1 ∧ ((tkS b n0 p).1 = 3 → M1 (29, 0, 0) 19 = (tkS b n0 p).2.2) ∧ Kr [16, 17, 18, 19] [] M M1 ∧ N = N1))) 26 [vr (29, 0, 0), vn] [] M2 N := by
  refine go_aload_n dX8_goesOn_26 rfl rfl ?_
  refine go_aload_n dX8_goesOn_27 rfl rfl ?_
  refine g8_123 dX8_goesOn_28 ?_
  rw [hx]
  refine p8_130 dX8_goesOn_31 ?_
  refine go_nmM (fun M3 eM3 => ?_)
  have f3 : Kr [16, 17, 18, 19] [] M M3 := by rw [eM3]; exact hf.ws (by decide)
  have a16 : M3 (29, 0, 0) 16 = p := by rw [eM3, wr_eq]
  have a17 : M3 (29, 0, 0) 17 = p := by rw [eM3, wr_nk (by decide)]; exact hx
  have s15 : M3 (29, 0, 0) 15 = n0 := by rw [f3.s 15 (by decide), hn]
  have ht2 : tpR b M3 := ht.k (f3.a 4 (by decide))
  clear eM3
  refine go_aload_n dX8_goesOn_34 rfl rfl ?_
  refine go_aload_n dX8_goesOn_35 rfl rfl ?_
  refine g8_123 dX8_goesOn_36 ?_
  rw [a17]
  refine v8_126 dX8_goesOn_39 rfl ⟨rfl, rfl⟩ ⟨rfl, rfl⟩ (ct_X8_see (by omega) (by omega)) (fun r1 M1 N1 hr1 hq1 => ?_)
  obtain ⟨z1, rfl, rfl⟩ := hq1
  have y1 := see_c ht2 (x := p) (by omega) (by omega) z1
  refine go_ist1 dX8_goesOn_42 rfl rfl ?_
  refine go_iload_n dX8_goesOn_43 rfl ?_
  refine go_iconst dX8_goesOn_44 (R32_lit rfl) ?_
  refine go_icmp_ne (tgt := 54) dX8_goesOn_45 rfl (fun h45 => ?_) (fun h45 => ?_)
  · refine go_iload_n dX8_goesOn_54 rfl ?_
    refine go_i2l dX8_goesOn_55 ?_
    refine c8_136 dX8_goesOn_56 ?_
    refine c8_138 dX8_goesOn_59 ?_
    refine v8_140 dX8_goesOn_62 rfl ⟨rfl, rfl⟩ ⟨rfl, rfl⟩ ct_X8_in (fun r2 M4 N4 hr2 hq2 => ?_)
    obtain ⟨z2, rfl, rfl⟩ := hq2
    have z2 := bit_iff z2
    refine go_if_eq (tgt := 126) dX8_goesOn_65 rfl (fun h65 => ?_) (fun h65 => ?_)
    · refine go_iload_n dX8_goesOn_126 rfl ?_
      refine go_i2l dX8_goesOn_127 ?_
      refine c8_144 dX8_goesOn_128 ?_
      refine c8_146 dX8_goesOn_131 ?_
      refine v8_140 dX8_goesOn_134 rfl ⟨rfl, rfl⟩ ⟨rfl, rfl⟩ ct_X8_in (fun r3 M5 N5 hr3 hq3 => ?_)
      obtain ⟨z3, rfl, rfl⟩ := hq3
      have z3 := bit_iff z3
      refine go_if_eq (tgt := 245) dX8_goesOn_137 rfl (fun h137 => ?_) (fun h137 => ?_)
      · have tk : tkS b n0 p = (if sgl (b p) then b p else 1, p + 1, 0) := by unfold tkS; rw [if_neg (by omega), if_neg (by omega), if_neg (by omega)]
        refine go_aload_n dX8_goesOn_245 rfl rfl ?_
        first | refine go_dup_r dX8_goesOn_246 ?_ | refine go_dup_i dX8_goesOn_246 ?_
        refine g8_123 dX8_goesOn_247 ?_
        rw [a17]
        refine go_iconst dX8_goesOn_250 (R32_lit rfl) ?_
        refine go_iaddc dX8_goesOn_251 ⟨by omega, by omega⟩ ?_
        refine p8_123 dX8_goesOn_252 ?_
        refine go_aload_n dX8_goesOn_255 rfl rfl ?_
        refine go_iload_n dX8_goesOn_256 rfl ?_
        refine go_bipush dX8_goesOn_257 ⟨by decide, by decide⟩ ?_
        refine go_icmp_eq (tgt := 292) dX8_goesOn_259 rfl (fun h259 => ?_) (fun h259 => ?_)
        · refine go_iload_n dX8_goesOn_292 rfl ?_
          refine go_goto (tgt := 297) dX8_goesOn_293 rfl ?_
          refine p8_133 dX8_goesOn_297 ?_
          refine go_retv dX8_goesOn_300 ?_
          refine ⟨?_, ?_, ?_, ?_, (f3.ws (by decide)).ws (by decide), rfl⟩
          · rw [wr_nk (by decide), wr_nk (by decide)]; exact a16
          · rw [wr_nk (by decide), wr_eq, tk]
          · rw [wr_eq, tk]
            first
            | (rw [if_pos (show sgl (b p) by unfold sgl; omega)]; omega)
            | (rw [if_neg (show ¬ sgl (b p) by unfold sgl; omega)]; done)
          · rw [tk]
            intro q
            exfalso
            have q : (if sgl (b p) then b p else 1) = 3 := q
            by_cases q2 : sgl (b p)
            · rw [if_pos q2] at q; unfold sgl at q2; omega
            · rw [if_neg q2] at q; omega
        · refine go_iload_n dX8_goesOn_262 rfl ?_
          refine go_bipush dX8_goesOn_263 ⟨by decide, by decide⟩ ?_
          refine go_icmp_eq (tgt := 292) dX8_goesOn_265 rfl (fun h265 => ?_) (fun h265 => ?_)
          · refine go_iload_n dX8_goesOn_292 rfl ?_
            refine go_goto (tgt := 297) dX8_goesOn_293 rfl ?_
            refine p8_133 dX8_goesOn_297 ?_
            refine go_retv dX8_goesOn_300 ?_
            refine ⟨?_, ?_, ?_, ?_, (f3.ws (by decide)).ws (by decide), rfl⟩
            · rw [wr_nk (by decide), wr_nk (by decide)]; exact a16
            · rw [wr_nk (by decide), wr_eq, tk]
            · rw [wr_eq, tk]
              first
              | (rw [if_pos (show sgl (b p) by unfold sgl; omega)]; omega)
              | (rw [if_neg (show ¬ sgl (b p) by unfold sgl; omega)]; done)
            · rw [tk]
              intro q
              exfalso
              have q : (if sgl (b p) then b p else 1) = 3 := q
              by_cases q2 : sgl (b p)
              · rw [if_pos q2] at q; unfold sgl at q2; omega
              · rw [if_neg q2] at q; omega
          · refine go_iload_n dX8_goesOn_268 rfl ?_
            refine go_bipush dX8_goesOn_269 ⟨by decide, by decide⟩ ?_
            refine go_icmp_eq (tgt := 292) dX8_goesOn_271 rfl (fun h271 => ?_) (fun h271 => ?_)
            · refine go_iload_n dX8_goesOn_292 rfl ?_
              refine go_goto (tgt := 297) dX8_goesOn_293 rfl ?_
              refine p8_133 dX8_goesOn_297 ?_
              refine go_retv dX8_goesOn_300 ?_
              refine ⟨?_, ?_, ?_, ?_, (f3.ws (by decide)).ws (by decide), rfl⟩
              · rw [wr_nk (by decide), wr_nk (by decide)]; exact a16
              · rw [wr_nk (by decide), wr_eq, tk]
              · rw [wr_eq, tk]
                first
                | (rw [if_pos (show sgl (b p) by unfold sgl; omega)]; omega)
                | (rw [if_neg (show ¬ sgl (b p) by unfold sgl; omega)]; done)
              · rw [tk]
                intro q
                exfalso
                have q : (if sgl (b p) then b p else 1) = 3 := q
                by_cases q2 : sgl (b p)
                · rw [if_pos q2] at q; unfold sgl at q2; omega
                · rw [if_neg q2] at q; omega
            · refine go_iload_n dX8_goesOn_274 rfl ?_
              refine go_bipush dX8_goesOn_275 ⟨by decide, by decide⟩ ?_
              refine go_icmp_eq (tgt := 292) dX8_goesOn_277 rfl (fun h277 => ?_) (fun h277 => ?_)
              · refine go_iload_n dX8_goesOn_292 rfl ?_
                refine go_goto (tgt := 297) dX8_goesOn_293 rfl ?_
                refine p8_133 dX8_goesOn_297 ?_
                refine go_retv dX8_goesOn_300 ?_
                refine ⟨?_, ?_, ?_, ?_, (f3.ws (by decide)).ws (by decide), rfl⟩
                · rw [wr_nk (by decide), wr_nk (by decide)]; exact a16
                · rw [wr_nk (by decide), wr_eq, tk]
                · rw [wr_eq, tk]
                  first
                  | (rw [if_pos (show sgl (b p) by unfold sgl; omega)]; omega)
                  | (rw [if_neg (show ¬ sgl (b p) by unfold sgl; omega)]; done)
                · rw [tk]
                  intro q
                  exfalso
                  have q : (if sgl (b p) then b p else 1) = 3 := q
                  by_cases q2 : sgl (b p)
                  · rw [if_pos q2] at q; unfold sgl at q2; omega
                  · rw [if_neg q2] at q; omega
              · refine go_iload_n dX8_goesOn_280 rfl ?_
                refine go_bipush dX8_goesOn_281 ⟨by decide, by decide⟩ ?_
                refine go_icmp_eq (tgt := 292) dX8_goesOn_283 rfl (fun h283 => ?_) (fun h283 => ?_)
                · refine go_iload_n dX8_goesOn_292 rfl ?_
                  refine go_goto (tgt := 297) dX8_goesOn_293 rfl ?_
                  refine p8_133 dX8_goesOn_297 ?_
                  refine go_retv dX8_goesOn_300 ?_
                  refine ⟨?_, ?_, ?_, ?_, (f3.ws (by decide)).ws (by decide), rfl⟩
                  · rw [wr_nk (by decide), wr_nk (by decide)]; exact a16
                  · rw [wr_nk (by decide), wr_eq, tk]
                  · rw [wr_eq, tk]
                    first
                    | (rw [if_pos (show sgl (b p) by unfold sgl; omega)]; omega)
                    | (rw [if_neg (show ¬ sgl (b p) by unfold sgl; omega)]; done)
                  · rw [tk]
                    intro q
                    exfalso
                    have q : (if sgl (b p) then b p else 1) = 3 := q
                    by_cases q2 : sgl (b p)
                    · rw [if_pos q2] at q; unfold sgl at q2; omega
                    · rw [if_neg q2] at q; omega
                · refine go_iload_n dX8_goesOn_286 rfl ?_
                  refine go_bipush dX8_goesOn_287 ⟨by decide, by decide⟩ ?_
                  refine go_icmp_ne (tgt := 296) dX8_goesOn_289 rfl (fun h289 => ?_) (fun h289 => ?_)
                  · refine go_iconst dX8_goesOn_296 (R32_lit rfl) ?_
                    refine p8_133 dX8_goesOn_297 ?_
                    refine go_retv dX8_goesOn_300 ?_
                    refine ⟨?_, ?_, ?_, ?_, (f3.ws (by decide)).ws (by decide), rfl⟩
                    · rw [wr_nk (by decide), wr_nk (by decide)]; exact a16
                    · rw [wr_nk (by decide), wr_eq, tk]
                    · rw [wr_eq, tk]
                      first
                      | (rw [if_pos (show sgl (b p) by unfold sgl; omega)]; omega)
                      | (rw [if_neg (show ¬ sgl (b p) by unfold sgl; omega)]; done)
                    · rw [tk]
                      intro q
                      exfalso
                      have q : (if sgl (b p) then b p else 1) = 3 := q
                      by_cases q2 : sgl (b p)
                      · rw [if_pos q2] at q; unfold sgl at q2; omega
                      · rw [if_neg q2] at q; omega
                  · refine go_iload_n dX8_goesOn_292 rfl ?_
                    refine go_goto (tgt := 297) dX8_goesOn_293 rfl ?_
                    refine p8_133 dX8_goesOn_297 ?_
                    refine go_retv dX8_goesOn_300 ?_
                    refine ⟨?_, ?_, ?_, ?_, (f3.ws (by decide)).ws (by decide), rfl⟩
                    · rw [wr_nk (by decide), wr_nk (by decide)]; exact a16
                    · rw [wr_nk (by decide), wr_eq, tk]
                    · rw [wr_eq, tk]
                      first
                      | (rw [if_pos (show sgl (b p) by unfold sgl; omega)]; omega)
                      | (rw [if_neg (show ¬ sgl (b p) by unfold sgl; omega)]; done)
                    · rw [tk]
                      intro q
                      exfalso
                      have q : (if sgl (b p) then b p else 1) = 3 := q
                      by_cases q2 : sgl (b p)
                      · rw [if_pos q2] at q; unfold sgl at q2; omega
                      · rw [if_neg q2] at q; omega
      · have tk : tkS b n0 p = (if (ruS b n0 48 57 10 0 (n0 - p).toNat p 0).1 - p ≤ 4 then 3 else 1, ruS b n0 48 57 10 0 (n0 - p).toNat p 0) := by unfold tkS; rw [if_neg (by omega), if_neg (by omega), if_pos (by omega)]
        refine go_aload_n dX8_goesOn_140 rfl rfl ?_
        refine go_iconst dX8_goesOn_141 (R32_lit rfl) ?_
        refine p8_148 dX8_goesOn_142 ?_
        refine go_mono (fun o M6 N6 => ?_) (lpD_X8_goesOn ht hn n5 p0 (n0 - p).toNat p 0 _ (by omega) (by omega) (by omega) (by rw [wr_nk (by decide)]; exact a17) (by rw [wr_nk (by decide)]; exact a16) rfl (by rw [wr_eq]; omega) (f3.ws (by decide)))
        rintro ⟨rfl, g1, g2, g3, g5, g4, rfl⟩
        refine ⟨rfl, g1, by rw [tk]; exact g2, by rw [tk]; exact g3, ?_, g4, rfl⟩
        rw [tk]
        intro q
        refine g5 ?_
        by_cases q2 : (ruS b n0 48 57 10 0 (n0 - p).toNat p 0).1 - p ≤ 4
        · exact q2
        · exfalso
          have q : (if (ruS b n0 48 57 10 0 (n0 - p).toNat p 0).1 - p ≤ 4 then (3 : Int) else 1) = 3 := q
          rw [if_neg q2] at q
          omega
    · have tk : tkS b n0 p = (if (ruS b n0 97 122 27 1 (n0 - p).toNat p 0).1 - p ≤ 6 then 2 else 1, ruS b n0 97 122 27 1 (n0 - p).toNat p 0) := by unfold tkS; rw [if_neg (by omega), if_pos (by omega)]
      refine go_mono (fun o M6 N6 => ?_) (lpL_X8_goesOn ht hn n5 p0 (n0 - p).toNat p 0 M3 (by omega) (by omega) (by omega) a17 a16 rfl f3)
      rintro ⟨rfl, g1, g2, g3, g4, rfl⟩
      refine ⟨rfl, g1, by rw [tk]; exact g2, by rw [tk]; exact g3, ?_, g4, rfl⟩
      rw [tk]
      intro q
      exfalso
      revert q
      show (if _ then (2 : Int) else 1) = 3 → False
      split <;> intro q <;> omega
  · have tk : tkS b n0 p = (0, p, 0) := by unfold tkS; rw [if_pos (by omega)]
    refine go_aload_n dX8_goesOn_48 rfl rfl ?_
    refine go_iconst dX8_goesOn_49 (R32_lit rfl) ?_
    refine p8_133 dX8_goesOn_50 ?_
    refine go_retv dX8_goesOn_53 ?_
    refine ⟨?_, ?_, ?_, ?_, f3.ws (by decide), rfl⟩
    · rw [wr_nk (by decide)]; exact a16
    · rw [wr_nk (by decide), tk]; exact a17
    · rw [wr_eq, tk]
    · rw [tk]; intro q; exact absurd (show (0 : Int) = 3 from q) (by decide)
set_option maxRecDepth 100000 in
set_option maxHeartbeats 4000000 in
theorem lpB_X8_goesOn {E : Ev} {M : Mm} {N : Nn} {b : Int → Int} {p n0 : Int} (ht : tpR b M) (hn : n0 = M (29, 0, 0) 15) (n5 : n0 ≤ 500) : ∀ (n : Nat) (x : Int) (M2 : Mm), (x + n = max n0 x) → (0 ≤ x) → (x ≤ 500) → (M2 (29, 0, 0) 17 = x) → (bkS b n0 (n0 - x).toNat x = p) → (Kr [16, 17, 18, 19] [] M M2) → Go E RX8 cX8_goesOn 2 (none) (rmH 2) 0 0 (zM E (qv (fun M1 N1 => M1 (29, 0, 0) 16 = p ∧ M1 (29, 0, 0) 17 = (tkS b n0 p).2.1 ∧ M1 (29, 0, 0) 18 = (tkS b n0 p).1 ∧ ((tkS b n0 p).1 = 3 → M1 (29, 0, 0) 19 = (tkS b n0 p).2.2) ∧ Kr [16, 17, 18, 19] [] M M1 ∧ N = N1))) 0 [vr (29, 0, 0), vn] [] M2 N := by
  intro n
  induction n using Nat.strongRecOn with
  | ind n ih =>
  intro x M2 hk x0 x5 hx hP hf
  have s15 : M2 (29, 0, 0) 15 = n0 := by rw [hf.s 15 (by decide), hn]
  have ht2 : tpR b M2 := ht.k (hf.a 4 (by decide))
  refine go_aload_n dX8_goesOn_0 rfl rfl ?_
  refine go_aload_n dX8_goesOn_1 rfl rfl ?_
  refine g8_123 dX8_goesOn_2 ?_
  rw [hx]
  refine v8_126 dX8_goesOn_5 rfl ⟨rfl, rfl⟩ ⟨rfl, rfl⟩ (ct_X8_see (by omega) (by omega)) (fun r1 M1 N1 hr1 hq1 => ?_)
  obtain ⟨z1, rfl, rfl⟩ := hq1
  have y1 := see_c ht2 (x := x) (by omega) (by omega) z1
  refine go_bipush dX8_goesOn_8 ⟨by decide, by decide⟩ ?_
  refine go_icmp_ne (tgt := 26) dX8_goesOn_10 rfl (fun h10 => ?_) (fun h10 => ?_)
  · have e1 := bkS_out (show ¬ (x < n0 ∧ b x = 32) by omega)
    rw [hP] at e1
    subst e1
    exact go26_X8_goesOn ht hn n5 x0 x5 hx hf
  · refine go_aload_n dX8_goesOn_13 rfl rfl ?_
    first | refine go_dup_r dX8_goesOn_14 ?_ | refine go_dup_i dX8_goesOn_14 ?_
    refine g8_123 dX8_goesOn_15 ?_
    rw [hx]
    refine go_iconst dX8_goesOn_18 (R32_lit rfl) ?_
    refine go_iaddc dX8_goesOn_19 ⟨by omega, by omega⟩ ?_
    refine p8_123 dX8_goesOn_20 ?_
    refine go_goto (tgt := 0) dX8_goesOn_23 rfl ?_
    exact ih (n - 1) (by omega) (x + 1) _ (by omega) (by omega) (by omega) (by rw [wr_eq]) (by rw [← hP]; exact (bkS_in (by omega)).symm) (hf.ws (by decide))
set_option maxRecDepth 100000 in
set_option maxHeartbeats 4000000 in
theorem ct_X8_goesOn {E : Ev} {M : Mm} {N : Nn} {b : Int → Int} (ht : tpR b M) (n5 : M (29, 0, 0) 15 ≤ 500) (x0 : 0 ≤ M (29, 0, 0) 17) (x5 : M (29, 0, 0) 17 ≤ 500) : Ct E yX8_goesOn cX8_goesOn 2 (none) (rmH 2) [vr (29, 0, 0)] M N (qv (fun M1 N1 => M1 (29, 0, 0) 16 = (bkS b (M (29, 0, 0) 15) (M (29, 0, 0) 15 - M (29, 0, 0) 17).toNat (M (29, 0, 0) 17)) ∧ M1 (29, 0, 0) 17 = (tkS b (M (29, 0, 0) 15) (bkS b (M (29, 0, 0) 15) (M (29, 0, 0) 15 - M (29, 0, 0) 17).toNat (M (29, 0, 0) 17))).2.1 ∧ M1 (29, 0, 0) 18 = (tkS b (M (29, 0, 0) 15) (bkS b (M (29, 0, 0) 15) (M (29, 0, 0) 15 - M (29, 0, 0) 17).toNat (M (29, 0, 0) 17))).1 ∧ ((tkS b (M (29, 0, 0) 15) (bkS b (M (29, 0, 0) 15) (M (29, 0, 0) 15 - M (29, 0, 0) 17).toNat (M (29, 0, 0) 17))).1 = 3 → M1 (29, 0, 0) 19 = (tkS b (M (29, 0, 0) 15) (bkS b (M (29, 0, 0) 15) (M (29, 0, 0) 15 - M (29, 0, 0) 17).toNat (M (29, 0, 0) 17))).2.2) ∧ Kr [16, 17, 18, 19] [] M M1 ∧ N = N1)) := by
  refine ct_of (own := RX8) (L0 := [vr (29, 0, 0), vn]) rfl (by decide +kernel) rfl rfl ?_
  exact lpB_X8_goesOn ht rfl n5 (max (M (29, 0, 0) 15) (M (29, 0, 0) 17) - M (29, 0, 0) 17).toNat (M (29, 0, 0) 17) M (by omega) x0 x5 rfl rfl Kr.rf
