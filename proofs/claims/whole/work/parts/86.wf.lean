theorem opF_cw {S S' : Pg} {t t' : Int → Int} {v i : Int} (h8 : S' 8 i = S 8 i) (h9 : S' 9 i = S 9 i) (ht : ∀ u, 0 ≤ u → u < v → t' u = t u) (w : WFo S v i) : opF S' t' i = opF S t i := by
  unfold opF
  rw [h8, h9]
  by_cases q : 0 ≤ S 8 i
  · rw [if_pos q, if_pos q]; exact ht _ q (w.1 q)
  · rw [if_neg q, if_neg q]
theorem opW_cw {S S' : Pg} {t t' : Int → Int} {v i : Int} (h8 : S' 8 i = S 8 i) (h9 : S' 9 i = S 9 i) (ht : ∀ u, 0 ≤ u → u < v → t' u = t u) (w : WFo S v i) : opW S' t' i = opW S t i := by
  unfold opW
  rw [h8, h9]
  by_cases q : 0 ≤ S 8 i
  · rw [if_pos q, if_pos q]; exact ht _ q (w.1 q)
  · rw [if_neg q, if_neg q]
theorem ndF_cw {S S' : Pg} {v : Int} (h8 : ∀ k : Int, 0 ≤ k → k < 4 → S' 8 (4 * v + k) = S 8 (4 * v + k)) (ht : ∀ u, 0 ≤ u → u < v → S' 7 u = S 7 u) : ∀ k : Nat, k ≤ 4 → (∀ j : Int, 0 ≤ j → j < k → WFo S v (4 * v + j)) → ndF S' v k = ndF S v k
  | 0, _, _ => rfl
  | k + 1, hk, w => by
    unfold ndF
    rw [ndF_cw h8 ht k (by omega) (fun j j0 j1 => w j j0 (by omega)), h8 k (by omega) (by omega)]
    by_cases q : 0 ≤ S 8 (4 * v + k)
    · rw [if_pos q, if_pos q, ht _ q ((w k (by omega) (by omega)).1 q)]
    · rw [if_neg q, if_neg q]
/-- what follows of a variable, by its own rows and those ahead -/
theorem st_cw {S S' : Pg} {v : Int} (h0 : S' 0 v = S 0 v) (h2 : S' 2 v = S 2 v) (h3 : S' 3 v = S 3 v) (h4 : S' 4 v = S 4 v) (h8 : ∀ k : Int, 0 ≤ k → k < 4 → S' 8 (4 * v + k) = S 8 (4 * v + k) ∧ S' 9 (4 * v + k) = S 9 (4 * v + k)) (h5 : ∀ u, 0 ≤ u → u < v → S' 5 u = S 5 u ∧ S' 6 u = S 6 u ∧ S' 7 u = S 7 u) (w : WFr S v) : fiS S' v = fiS S v ∧ wtS S' v = wtS S v ∧ ndS S' v = ndS S v := by
  have eo : opn S' v = opn S v := by unfold opn; rw [h0]
  unfold fiS wtS ndS
  rw [h0, h2, h3, h4, eo]
  by_cases q : S 0 v = -2
  · simp only [if_pos q, and_self]
  · simp only [if_neg q]
    have ww := (w.2 q).2.2.2.2
    have o2 := opn_ge S v
    have o4 := opn_le S v
    have ff : ∀ k : Int, 0 ≤ k → k < opn S v → opF S' (S' 5) (4 * v + k) = opF S (S 5) (4 * v + k) ∧ opW S' (S' 6) (4 * v + k) = opW S (S 6) (4 * v + k) := fun k k0 k1 => ⟨opF_cw (h8 k k0 (by omega)).1 (h8 k k0 (by omega)).2 (fun u u0 u1 => (h5 u u0 u1).1) (ww k k0 k1), opW_cw (h8 k k0 (by omega)).1 (h8 k k0 (by omega)).2 (fun u u0 u1 => (h5 u u0 u1).2.1) (ww k k0 k1)⟩
    have f0 := ff 0 (by omega) (by omega)
    have f1 := ff 1 (by omega) (by omega)
    rw [Int.add_zero] at f0
    have nd := ndF_cw (fun k k0 k1 => (h8 k k0 k1).1) (fun u u0 u1 => (h5 u u0 u1).2.2) (opn S v).toNat (by omega) (fun j j0 j1 => ww j j0 (by omega))
    rw [nd]
    unfold rfS rwS
    rw [h0, f0.1, f0.2, f1.1, f1.2]
    by_cases q3 : S 0 v = 3
    · have o3 := opn_3 q3
      have f2 := ff 2 (by omega) (by omega)
      have f3 := ff 3 (by omega) (by omega)
      simp only [if_pos q3, f2.1, f2.2, f3.1, f3.2, and_self]
    · simp only [if_neg q3, and_self]
theorem stS_st {S : Pg} {v : Int} (w : WFr S v) (v0 : 0 ≤ v) : fiS (stS S v) v = fiS S v ∧ wtS (stS S v) v = wtS S v ∧ ndS (stS S v) v = ndS S v := by
  refine st_cw ?_ ?_ ?_ ?_ ?_ ?_ w
  · rw [stS_raw (by decide) (by decide) (by decide)]
  · rw [stS_raw (by decide) (by decide) (by decide)]
  · rw [stS_raw (by decide) (by decide) (by decide)]
  · rw [stS_raw (by decide) (by decide) (by decide)]
  · intro k _ _
    rw [stS_raw (by decide) (by decide) (by decide), stS_raw (by decide) (by decide) (by decide)]
    exact ⟨rfl, rfl⟩
  · intro u u0 u1
    rw [stS_ne (by omega), stS_ne (by omega), stS_ne (by omega)]
    exact ⟨rfl, rfl, rfl⟩
theorem WFr_st {S : Pg} {v w : Int} (h : WFr S w) : WFr (stS S v) w := by
  have e0 : stS S v 0 = S 0 := stS_raw (by decide) (by decide) (by decide)
  have e2 : stS S v 2 = S 2 := stS_raw (by decide) (by decide) (by decide)
  have e3 : stS S v 3 = S 3 := stS_raw (by decide) (by decide) (by decide)
  have e4 : stS S v 4 = S 4 := stS_raw (by decide) (by decide) (by decide)
  have e8 : stS S v 8 = S 8 := stS_raw (by decide) (by decide) (by decide)
  have e9 : stS S v 9 = S 9 := stS_raw (by decide) (by decide) (by decide)
  unfold WFr opn WFo
  rw [e0, e2, e3, e4, e8, e9]
  exact h
theorem WFs_st {S : Pg} {v : Int} (h : WFr S v) (v0 : 0 ≤ v) (hw : wtS S v ≤ 1000000) : WFs (stS S v) v := by
  obtain ⟨a, b, c⟩ := stS_st h v0
  unfold WFs
  rw [a, b, c, stS_5, stS_6, stS_7]
  exact ⟨rfl, rfl, rfl, hw⟩
theorem Cg_st {S : Pg} {c : Int} : Cg c S (stS S c) := by
  refine ⟨fun v v0 v1 => ?_, fun i _ _ => ?_⟩
  · rw [stS_ne (by omega), stS_ne (by omega), stS_ne (by omega), stS_ne (by omega), stS_ne (by omega), stS_ne (by omega), stS_ne (by omega)]
    exact ⟨rfl, rfl, rfl, rfl, rfl, rfl, rfl⟩
  · rw [stS_raw (by decide) (by decide) (by decide), stS_raw (by decide) (by decide) (by decide)]
    exact ⟨rfl, rfl⟩
theorem Cg.tr {c : Int} {S S1 S2 : Pg} (h : Cg c S S1) (g : Cg c S1 S2) : Cg c S S2 := by
  refine ⟨fun v v0 v1 => ?_, fun i i0 i1 => ?_⟩
  · obtain ⟨a0, a2, a3, a4, a5, a6, a7⟩ := h.1 v v0 v1
    obtain ⟨b0, b2, b3, b4, b5, b6, b7⟩ := g.1 v v0 v1
    exact ⟨b0.trans a0, b2.trans a2, b3.trans a3, b4.trans a4, b5.trans a5, b6.trans a6, b7.trans a7⟩
  · exact ⟨(g.2 i i0 i1).1.trans (h.2 i i0 i1).1, (g.2 i i0 i1).2.trans (h.2 i i0 i1).2⟩
theorem tiS_v {S : Pg} {nm a c v : Int} {f : Nat} (h : v ≠ S 11 0) (h10 : f ≠ 10) (h11 : f ≠ 11) (h12 : f ≠ 12) : tiS S nm a c f v = S f v := by
  unfold tiS psk pst
  simp only [if_neg h11, if_neg h12, h10, h, and_false, if_false, false_and]
theorem tsS_v {S : Pg} {nm a c v : Int} {f : Nat} (h : v ≠ S 11 0) (h11 : f ≠ 11) : tsS S nm a c f v = S f v := by
  unfold tsS psk pst
  simp only [if_neg h11, h, and_false, if_false]
theorem Cg_ti {S : Pg} {nm a x : Int} : Cg (S 11 0) S (tiS S nm a x) := by
  refine ⟨fun v v0 v1 => ?_, fun i _ _ => ?_⟩
  · have hv : v ≠ S 11 0 := by omega
    exact ⟨tiS_v hv (by decide) (by decide) (by decide), tiS_v hv (by decide) (by decide) (by decide), tiS_v hv (by decide) (by decide) (by decide), tiS_v hv (by decide) (by decide) (by decide), tiS_v hv (by decide) (by decide) (by decide), tiS_v hv (by decide) (by decide) (by decide), tiS_v hv (by decide) (by decide) (by decide)⟩
  · rw [tiS_lo (by decide) (by decide) (by decide) (by decide) (by decide) (by decide) (by decide) (by decide), tiS_lo (by decide) (by decide) (by decide) (by decide) (by decide) (by decide) (by decide) (by decide)]
    exact ⟨rfl, rfl⟩
theorem Cg_ts {S : Pg} {nm a x : Int} : Cg (S 11 0) S (tsS S nm a x) := by
  refine ⟨fun v v0 v1 => ?_, fun i _ _ => ?_⟩
  · have hv : v ≠ S 11 0 := by omega
    exact ⟨tsS_v hv (by decide), tsS_v hv (by decide), tsS_v hv (by decide), tsS_v hv (by decide), tsS_v hv (by decide), tsS_v hv (by decide), tsS_v hv (by decide)⟩
  · rw [tsS_lo (by decide) (by decide) (by decide) (by decide) (by decide) (by decide), tsS_lo (by decide) (by decide) (by decide) (by decide) (by decide) (by decide)]
    exact ⟨rfl, rfl⟩
theorem stS_raw0 {S : Pg} {v i : Int} {f : Nat} (h5 : f ≠ 5) (h6 : f ≠ 6) (h7 : f ≠ 7) : stS S v f i = S f i := by rw [stS_raw h5 h6 h7]
theorem tiS_10 {S : Pg} {nm a c i : Int} : tiS S nm a c 10 i = if i = S 12 0 then S 11 0 else S 10 i := by
  unfold tiS psk pst
  simp
theorem tiS_4 {S : Pg} {nm a c : Int} : tiS S nm a c 4 (S 11 0) = 0 := by unfold tiS psk pst; simp
theorem tiS_1 {S : Pg} {nm a c : Int} : tiS S nm a c 1 (S 11 0) = nm := by unfold tiS psk pst; simp
theorem tsS_1 {S : Pg} {nm a c : Int} : tsS S nm a c 1 (S 11 0) = nm := by unfold tsS psk pst; simp
theorem WF_in {S : Pg} {nm a x : Int} (h : WF S) (hc : S 11 0 < 15) (hi : S 12 0 < 3) (a0 : -1000 ≤ a) (ax : a ≤ x) (x1 : x ≤ 1000) : WF (stS (tiS S nm a x) (S 11 0)) := by
  have wr : WFr (tiS S nm a x) (S 11 0) := ⟨fun _ => by rw [tiS_2, tiS_3]; exact ⟨a0, ax, x1⟩, fun q => absurd tiS_0 q⟩
  refine h.told hc (Cg_ti.tr Cg_st) (by rw [stS_raw0 (by decide) (by decide) (by decide), tiS_11]) (WFr_st wr) (WFs_st wr h.1 ?_) (Or.inr ⟨?_, ?_, hi, fun i => ?_⟩)
  · unfold wtS; rw [if_pos tiS_0, tiS_2, tiS_3]; omega
  · rw [stS_raw0 (by decide) (by decide) (by decide), tiS_0]
  · rw [stS_raw0 (by decide) (by decide) (by decide), tiS_12]
  · rw [stS_raw0 (by decide) (by decide) (by decide), tiS_10]
theorem WF_ts {S : Pg} {nm c g : Int} (h : WF S) (hc : S 11 0 < 15) (hi : S 11 0 - S 12 0 < 12) (c0 : 0 ≤ c) (c1 : c ≤ 3) (g0 : 0 ≤ g) (g1 : g ≤ 8) (ho : ∀ k, 0 ≤ k → k < (if c = 3 then 4 else 2) → WFo S (S 11 0) (4 * S 11 0 + k)) : WFr (tsS S nm c g) (S 11 0) ∧ (wtS (tsS S nm c g) (S 11 0) ≤ 1000000 → WF (stS (tsS S nm c g) (S 11 0))) := by
  have wr : WFr (tsS S nm c g) (S 11 0) := by
    refine ⟨fun q => ?_, fun _ => ?_⟩
    · rw [tsS_0] at q; omega
    · rw [tsS_0, tsS_4]
      refine ⟨c0, c1, g0, g1, fun k k0 k1 => ?_⟩
      unfold opn at k1
      rw [tsS_0] at k1
      have := ho k k0 k1
      unfold WFo at *
      rw [tsS_lo (f := 8) (by decide) (by decide) (by decide) (by decide) (by decide) (by decide), tsS_lo (f := 9) (by decide) (by decide) (by decide) (by decide) (by decide) (by decide)]
      exact this
  refine ⟨wr, fun hw => ?_⟩
  refine h.told hc (Cg_ts.tr Cg_st) (by rw [stS_raw0 (by decide) (by decide) (by decide), tsS_11]) (WFr_st wr) (WFs_st wr h.1 hw) (Or.inl ⟨?_, ?_, ?_, hi⟩)
  · rw [stS_raw0 (by decide) (by decide) (by decide), tsS_0]; omega
  · rw [stS_raw0 (by decide) (by decide) (by decide), tsS_12]
  · rw [stS_raw (by decide) (by decide) (by decide), tsS_lo (by decide) (by decide) (by decide) (by decide) (by decide) (by decide)]
/-- all settled, one behind another -/
theorem WFr_sA {S : Pg} {v : Int} (h : WFr S v) : ∀ k : Nat, WFr (stA S k) v
  | 0 => h
  | k + 1 => WFr_st (WFr_sA h k)
theorem WFs_sA {S : Pg} {c : Int} (hr : ∀ v, 0 ≤ v → v < c → WFr S v) : ∀ k : Nat, (k : Int) ≤ c → (∀ v : Int, 0 ≤ v → v < k → wtT S v ≤ 1000000) → ∀ v : Int, 0 ≤ v → v < k → WFs (stA S k) v
  | 0, _, _, v, v0, v1 => absurd v1 (by omega)
  | k + 1, hk, hw, v, v0, v1 => by
    show WFs (stS (stA S k) k) v
    by_cases q : v = k
    · rw [q]
      refine WFs_st (WFr_sA (hr k (by omega) (by omega)) k) (by omega) ?_
      have := hw k (by omega) (by omega)
      unfold wtT at this
      rw [Int.toNat_natCast] at this
      exact this
    · have ih := WFs_sA hr k (by omega) (fun u u0 u1 => hw u u0 (by omega)) v v0 (by omega)
      exact ih.cg Cg_st v0 (by omega) (WFr_sA (hr v v0 (by omega)) k)
theorem WF_sA {S : Pg} (h1 : 0 ≤ S 11 0 ∧ S 11 0 ≤ 15 ∧ 0 ≤ S 12 0 ∧ S 12 0 ≤ 3 ∧ cnS S (S 11 0).toNat = S 11 0 - S 12 0 ∧ S 11 0 - S 12 0 ≤ 12) (hr : ∀ v, 0 ≤ v → v < S 11 0 → WFr S v) (hi : WFi S) (hw : okW S) : WF (stA S (S 11 0).toNat) := by
  have e0 : stA S (S 11 0).toNat 0 = S 0 := stA_raw (by decide) (by decide) (by decide) _
  have e10 : stA S (S 11 0).toNat 10 = S 10 := stA_raw (by decide) (by decide) (by decide) _
  have e11 : stA S (S 11 0).toNat 11 = S 11 := stA_raw (by decide) (by decide) (by decide) _
  have e12 : stA S (S 11 0).toNat 12 = S 12 := stA_raw (by decide) (by decide) (by decide) _
  unfold WF WFi
  rw [e0, e10, e11, e12]
  refine ⟨h1.1, h1.2.1, h1.2.2.1, h1.2.2.2.1, ?_, h1.2.2.2.2.2, fun v v0 v1 => ⟨WFr_sA (hr v v0 v1) _, WFs_sA hr _ (by omega) (fun u u0 u1 => hw u u0 (by omega)) v v0 (by omega)⟩, hi⟩
  rw [← h1.2.2.2.2.1]
  exact cnS_cg (c := S 11 0) (fun v _ _ => by rw [e0]) _ (by omega)
