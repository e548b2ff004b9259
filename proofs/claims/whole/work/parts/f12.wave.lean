/-! ===== MACHINE: what both have read of it ===== -/
def mz (σ1 σ2 : am_H) (a wc : Nat) (ws : Nat → Nat → Int) (nm : Nat → List Int) (kc : Nat) (kw kt : Nat → Int) (sl zr : Int) : Prop :=
  (wc ≤ 6 ∧ σ1.1 3 a 1 = Int32.ofInt (wc : Int) ∧ σ2.1 1320 0 2 = Int32.ofInt (wc : Int)) ∧
  (∀ i, i < wc → wv σ1 σ2 (6 * a + i) i (ws i) ∧ (∀ d ∈ nm i, 1 ≤ d ∧ d ≤ 26) ∧ (nm i).length ≤ 8 ∧ σ1.2.1 10 (6 * a + i) 0 = Int64.ofInt (ev 27 (nm i)) ∧ σ2.2.1 1326 0 i = Int64.ofInt (ev 32 (nm i))) ∧
  pr_kinds σ1 σ2 2 a kc kw kt ∧
  (σ1.1 3 a 5 = Int32.ofInt sl ∧ (-1 ≤ sl ∧ sl ≤ 99) ∧ σ2.1 1322 0 2 = Int32.ofInt (max sl 0) ∧ σ2.1 12 0 27 = Int32.ofInt (if sl = -1 then 0 else 1)) ∧
  (σ1.1 3 a 6 = Int32.ofInt zr ∧ (-1 ≤ zr ∧ zr ≤ 99) ∧ σ2.1 1323 0 2 = Int32.ofInt (max zr 0) ∧ σ2.1 12 0 28 = Int32.ofInt (if zr = -1 then 0 else 1))
theorem mz.z {σ1 σ2 τ1 τ2 : am_H} {a wc : Nat} {ws : Nat → Nat → Int} {nm : Nat → List Int} {kc : Nat} {kw kt : Nat → Int} {sl zr : Int} {Z1 Z2 : Nat → Nat → Nat → Bool} (m : mz σ1 σ2 a wc ws nm kc kw kt sl zr) (q1 : qz Z1 σ1 τ1) (q2 : qz Z2 σ2 τ2) (h1 : ∀ k j, k = 3 ∨ k = 402 ∨ k = 403 → Z1 k a j = false) (h2 : ∀ k i j, k = 10 ∨ k = 1106 → i < wc → Z1 k (6 * a + i) j = false) (h3 : ∀ k j, k = 1320 ∨ k = 1321 ∨ k = 1322 ∨ k = 1323 ∨ k = 1325 → Z2 k 0 j = false) (h4 : Z2 12 0 27 = false ∧ Z2 12 0 28 = false) (h5 : ∀ i k, i < wc → k < 9 → Z2 1324 0 (54 * 2 + 9 * i + k) = false) (h6 : ∀ i, i < wc → Z2 1326 0 i = false) : mz τ1 τ2 a wc ws nm kc kw kt sl zr := by
  obtain ⟨⟨a1, a2, a3⟩, b, ⟨c1, c2, c3, c4⟩, ⟨d1, d2, d3, d4⟩, ⟨e1, e2, e3, e4⟩⟩ := m
  refine ⟨⟨a1, ((q1 3 a 1 (h1 _ _ (by omega))).1).trans a2, ((q2 1320 0 2 (h3 _ _ (by omega))).1).trans a3⟩, fun i hi => ?_, ⟨c1, ((q1 3 a 4 (h1 _ _ (by omega))).1).trans c2, ((q2 1321 0 2 (h3 _ _ (by omega))).1).trans c3, fun k hk => ?_⟩, ⟨((q1 3 a 5 (h1 _ _ (by omega))).1).trans d1, d2, ((q2 1322 0 2 (h3 _ _ (by omega))).1).trans d3, ((q2 12 0 27 h4.1).1).trans d4⟩, ⟨((q1 3 a 6 (h1 _ _ (by omega))).1).trans e1, e2, ((q2 1323 0 2 (h3 _ _ (by omega))).1).trans e3, ((q2 12 0 28 h4.2).1).trans e4⟩⟩
  · obtain ⟨⟨w1, w2, w3, w4⟩, n1, n2, n3, n4⟩ := b i hi
    have I10 : τ1.1 10 (6 * a + i) = σ1.1 10 (6 * a + i) := funext fun j => (q1 10 (6 * a + i) j (h2 _ _ _ (by omega) hi)).1
    have L10 : τ1.2.1 10 (6 * a + i) = σ1.2.1 10 (6 * a + i) := funext fun j => (q1 10 (6 * a + i) j (h2 _ _ _ (by omega) hi)).2.1
    have I11 : τ1.1 1106 (6 * a + i) = σ1.1 1106 (6 * a + i) := funext fun j => (q1 1106 (6 * a + i) j (h2 _ _ _ (by omega) hi)).1
    refine ⟨⟨?_, fun k hk => ?_, w3, w4⟩, n1, n2, ?_, ((q2 1326 0 i (h6 i hi)).2.1).trans n4⟩
    · unfold pw_C at w1 ⊢
      rw [I10, L10, I11]
      exact w1
    · rw [(q2 1324 0 (54 * 2 + 9 * i + k) (h5 i k hi hk)).1]
      exact w2 k hk
    · rw [L10]
      exact n3
  · obtain ⟨k1, k2, k3, k4, k5, k6⟩ := c4 k hk
    exact ⟨k1, k2, ((q1 402 a k (h1 _ _ (by omega))).1).trans k3, ((q1 403 a k (h1 _ _ (by omega))).1).trans k4, ((q2 1325 0 (20 * 2 + 2 * k) (h3 _ _ (by omega))).1).trans k5, ((q2 1325 0 (20 * 2 + 2 * k + 1) (h3 _ _ (by omega))).1).trans k6⟩
theorem q_tlC {k j : Nat} (h : k ≠ 5) : qf_in tlC k j = false := by
  unfold qf_in tlC
  simp
  omega
theorem q_tlM {k j : Nat} (h : k ≠ 12) : qf_in tlM k j = false := by
  unfold qf_in tlM
  simp
  omega
/-- the WAVE that is read just now is none of those that were -/
theorem mz.x {σ1 σ2 τ1 τ2 : am_H} {a wc : Nat} {ws : Nat → Nat → Int} {nm : Nat → List Int} {kc : Nat} {kw kt : Nat → Int} {sl zr : Int} (m : mz σ1 σ2 a wc ws nm kc kw kt sl zr) (q1 : qz (zX (6 * a + wc)) σ1 τ1) (q2 : qz (zY wc) σ2 τ2) : mz τ1 τ2 a wc ws nm kc kw kt sl zr := by
  refine m.z q1 q2 (fun k j hk => ?_) (fun k i j hk hi => ?_) (fun k j hk => ?_) ⟨rfl, rfl⟩ (fun i k hi hk => ?_) (fun i hi => ?_)
  · unfold zX zW
    rw [q_tlC (by omega)]
    rcases hk with rfl | rfl | rfl <;> rfl
  · unfold zX zW
    rw [q_tlC (by omega), show (6 * a + i == 6 * a + wc) = false from beq_eq_false_iff_ne.mpr (by omega)]
    simp
  · unfold zY zV
    rw [q_tlM (by omega)]
    rcases hk with rfl | rfl | rfl | rfl | rfl <;> rfl
  · unfold zY zV
    rw [q_tlM (by omega), decide_eq_false (by omega)]
    rfl
  · unfold zY zV
    rw [q_tlM (by omega), show (i == wc) = false from beq_eq_false_iff_ne.mpr (by omega)]
    rfl
/-- all cells that the text of a MACHINE may change -/
def zC (a : Nat) (k i j : Nat) : Bool := qf_in tlC k j || ((k == 3 || k == 402 || k == 403) && i == a) || ((k == 10 || k == 1106) && decide (6 * a ≤ i ∧ i < 6 * a + 6))
def zM (k _i j : Nat) : Bool := qf_in tlM k j || (k == 12 && (j == 27 || j == 28)) || k == 1326 || ((k == 1320 || k == 1321 || k == 1322 || k == 1323) && j == 2) || (k == 1324 && decide (108 ≤ j)) || (k == 1325 && decide (40 ≤ j))
theorem zC_x {a c k i j : Nat} (hc : c < 6) (h : zX (6 * a + c) k i j = true) : zC a k i j = true := by
  unfold zX zW at h
  unfold zC
  simp only [Bool.or_eq_true, Bool.and_eq_true, beq_iff_eq, decide_eq_true_eq] at h ⊢
  rcases h with (h | ⟨⟨h1, -⟩ | h1, h2⟩) | ⟨h1, h2⟩
  · exact Or.inl (Or.inl h)
  · exact Or.inr (by omega)
  · exact Or.inr (by omega)
  · exact Or.inr (by omega)
theorem zM_y {c k i j : Nat} (hc : c < 6) (h : zY c k i j = true) : zM k i j = true := by
  unfold zY zV at h
  unfold zM
  simp only [Bool.or_eq_true, Bool.and_eq_true, beq_iff_eq, decide_eq_true_eq] at h ⊢
  rcases h with (h | ⟨h1, h2⟩) | ⟨h1, h2⟩
  · exact Or.inl (Or.inl (Or.inl (Or.inl (Or.inl h))))
  · exact Or.inl (Or.inr (by omega))
  · exact Or.inl (Or.inl (Or.inl (Or.inr h1)))
theorem zC_t {a k i j : Nat} (h : qf_in tlC k j = true) : zC a k i j = true := by
  unfold zC
  rw [h]
  rfl
theorem zM_t {k i j : Nat} (h : qf_in tlM k j = true) : zM k i j = true := by
  unfold zM
  rw [h]
  rfl
theorem zC_m {a j : Nat} : zC a 3 a j = true ∧ zC a 402 a j = true ∧ zC a 403 a j = true := by
  unfold zC
  simp
theorem bd_66 {σ : am_H} {k : Int} {p : Nat} (h : bd σ k p) : f_X12_readWave_66 σ = some σ := by
  obtain ⟨h1, h2, h3⟩ := h
  simp (disch := omega) only [f_X12_readWave_66, h2, Option.bind_some, qi, ql, qI_lt, qI_le, qI_eq, qI_L, qI_ix, qL_lt, qL_eq, q_nat, q_cs, ← Int32.ofInt_add, ← Int32.ofInt_sub, ← Int32.ofInt_mul, ← Int32.ofInt_neg, ← Int64.ofInt_add, ← Int64.ofInt_sub, ← Int64.ofInt_mul, ← Int64.ofInt_neg, pL_I, q_mx, q_mn, q_ab, q_abL, q_mnL, q_nn0, q_nn1, q_rr, q_b1, q_b0, q_T, q_F, q_iT, q_iF, q_d, q_in, q_wi, q_hC, q_hM, pT_i, pU_i, pS_i, pS_j, pS_0, Sum.elim_inl, Sum.elim_inr, if_pos, if_neg]
theorem bd_38 {σ : am_H} {k : Int} {p : Nat} (h : bd σ k p) : f_X12_readWave_38 σ = some σ := by
  have e := bd_66 h
  obtain ⟨h1, h2, h3⟩ := h
  simp (disch := omega) only [f_X12_readWave_38, h2, e, Option.bind_some, qi, ql, qI_lt, qI_le, qI_eq, qI_L, qI_ix, qL_lt, qL_eq, q_nat, q_cs, ← Int32.ofInt_add, ← Int32.ofInt_sub, ← Int32.ofInt_mul, ← Int32.ofInt_neg, ← Int64.ofInt_add, ← Int64.ofInt_sub, ← Int64.ofInt_mul, ← Int64.ofInt_neg, pL_I, q_mx, q_mn, q_ab, q_abL, q_mnL, q_nn0, q_nn1, q_rr, q_b1, q_b0, q_T, q_F, q_iT, q_iF, q_d, q_in, q_wi, q_hC, q_hM, pT_i, pU_i, pS_i, pS_j, pS_0, Sum.elim_inl, Sum.elim_inr, if_pos, if_neg]
theorem bd_15 {σ : am_H} {k : Int} {p : Nat} (h : bd σ k p) : f_X12_readWave_15 σ = some σ := by
  have e := bd_38 h
  obtain ⟨h1, h2, h3⟩ := h
  simp (disch := omega) only [f_X12_readWave_15, h2, e, Option.bind_some, qi, ql, qI_lt, qI_le, qI_eq, qI_L, qI_ix, qL_lt, qL_eq, q_nat, q_cs, ← Int32.ofInt_add, ← Int32.ofInt_sub, ← Int32.ofInt_mul, ← Int32.ofInt_neg, ← Int64.ofInt_add, ← Int64.ofInt_sub, ← Int64.ofInt_mul, ← Int64.ofInt_neg, pL_I, q_mx, q_mn, q_ab, q_abL, q_mnL, q_nn0, q_nn1, q_rr, q_b1, q_b0, q_T, q_F, q_iT, q_iF, q_d, q_in, q_wi, q_hC, q_hM, pT_i, pU_i, pS_i, pS_j, pS_0, Sum.elim_inl, Sum.elim_inr, if_pos, if_neg]
theorem mw_wave {σ1 σ2 : am_H} {n : Nat} {b : Nat → Int} {s p e a wc : Nat} {ws : Nat → Nat → Int} {nm : Nat → List Int} {kc : Nat} {kw kt : Nat → Int} {sl zr : Int} (h : tk σ1 σ2 n b s p e) (s1 : s = 1) (g : gd σ2) (m : mz σ1 σ2 a wc ws nm kc kw kt sl zr) : (∃ (τ1 τ2 : am_H) (s' p' e' : Nat) (ws' : Nat → Nat → Int) (nm' : Nat → List Int), f_X3_readsWave a σ1 = some (true, τ1) ∧ f_X12_readWave σ2 = some τ2 ∧ tk τ1 τ2 n b s' p' e' ∧ gd τ2 ∧ p < p' ∧ mz τ1 τ2 a (wc + 1) ws' nm' kc kw kt sl zr ∧ qz (zC a) σ1 τ1 ∧ qz zM σ2 τ2) ∨ (∃ τ1 τ2 : am_H, f_X3_readsWave a σ1 = some (false, τ1) ∧ f_X12_readWave σ2 = some τ2 ∧ oN (zC a) zM σ1 σ2 τ1 τ2) := by
  have z2 : (2 : Int).toNat = 2 := rfl
  obtain ⟨ρ1, ρ2, s2, p1, e1, a1, a2, a3, a4, a5, a6⟩ := tk_next h (Or.inl s1)
  have pe := (h.2.2.2.2.2.2.1 (Or.inl s1)).1
  have gρ : gd ρ2 := ((a6 12 0 12 rfl).1).trans g
  have gρ' : ρ2.1 12 0 12 = Int32.ofInt 0 := gρ
  have Q1 : qf tlC σ1 ρ1 := a5.mo (by decide)
  have Q2 : qf tlM σ2 ρ2 := a6.mo (by decide)
  have mρ := m.x (Q1.z (fun _ _ _ z => zX_t (zW_t z))) (Q2.z (fun _ _ _ z => zY_t (zV_t z)))
  have X1 : qz (zC a) σ1 ρ1 := Q1.z (fun _ _ _ => zC_t)
  have X2 : qz zM σ2 ρ2 := Q2.z (fun _ _ _ => zM_t)
  have m15 := a3.2.2.2.1.2.1
  obtain ⟨⟨w6, wa, wb⟩, hb, -⟩ := id mρ
  obtain ⟨x, x1, x2, x3⟩ := tk_name a3
  cases x with
  | false =>
    right
    have r1 := tk_refuse a3 2
    have r2 := tk_wrong a3 gρ
    have kb : 1 ≤ (if s2 = 4 then 1 else 2 : Int) ∧ (if s2 = 4 then 1 else 2 : Int) ≤ 6 := by split <;> omega
    generalize (if s2 = 4 then 1 else 2 : Int) = k at r1 r2 kb
    have B : bd (FM ρ2 k p1) k p1 := FM_b kb
    have b15 := bd_15 B
    refine ⟨FC ρ1 k p1, FM ρ2 k p1, ?_, ?_, ⟨k, p1, FC_f, B⟩, X1.tr (FC_q.z (fun _ _ _ => zC_t)), X2.tr (FM_q.z (fun _ _ _ => zM_t))⟩
    · simp (disch := omega) only [f_X3_readsWave, a1, x1, r1, Option.bind_some, qi, ql, qI_lt, qI_le, qI_eq, qI_L, qI_ix, qL_lt, qL_eq, q_nat, q_cs, ← Int32.ofInt_add, ← Int32.ofInt_sub, ← Int32.ofInt_mul, ← Int32.ofInt_neg, ← Int64.ofInt_add, ← Int64.ofInt_sub, ← Int64.ofInt_mul, ← Int64.ofInt_neg, pL_I, q_mx, q_mn, q_ab, q_abL, q_mnL, q_nn0, q_nn1, q_rr, q_b1, q_b0, q_T, q_F, q_iT, q_iF, q_d, q_in, q_wi, q_hC, q_hM, pT_i, pU_i, pS_i, pS_j, pS_0, Sum.elim_inl, Sum.elim_inr, if_pos, if_neg]
    · simp (disch := omega) only [f_X12_readWave, a2, x2, r2, b15, Option.bind_some, qi, ql, qI_lt, qI_le, qI_eq, qI_L, qI_ix, qL_lt, qL_eq, q_nat, q_cs, ← Int32.ofInt_add, ← Int32.ofInt_sub, ← Int32.ofInt_mul, ← Int32.ofInt_neg, ← Int64.ofInt_add, ← Int64.ofInt_sub, ← Int64.ofInt_mul, ← Int64.ofInt_neg, pL_I, q_mx, q_mn, q_ab, q_abL, q_mnL, q_nn0, q_nn1, q_rr, q_b1, q_b0, q_T, q_F, q_iT, q_iF, q_d, q_in, q_wi, q_hC, q_hM, pT_i, pU_i, pS_i, pS_j, pS_0, Sum.elim_inl, Sum.elim_inr, if_pos, if_neg]
  | true =>
  obtain ⟨s21, e8⟩ := x3 rfl
  have cd := tk_code a3 s21 e8
  have hl := a3.2.2.2.2.2.2.2.1 s21
  have pe1 := a3.2.2.2.2.2.2.1 (Or.inl s21)
  have L1 := lr_d (b := b) (p := p1) (e1 - p1) (fun j j1 j2 => hl j j1 (by omega))
  have L2 : (lr b p1 (e1 - p1)).length ≤ 8 := by rw [lr_n]; exact e8
  have h19 : ρ2.2.1 12 0 19 = Int64.ofInt (ev 32 (lr b p1 (e1 - p1))) := by
    rw [((a3.2.2.2.1).2.2.2.2 s21).2, wd_ev _ e8]
  obtain ⟨y, y1, y2⟩ := tk_named w6 wa wb (fun i hi => (hb i hi).2) L1 L2 h19
  cases y with
  | true =>
    right
    have r1 := tk_refuse a3 3
    rw [if_neg (by omega)] at r1
    have r2 : f_X12_fail (Int32.ofInt 3) (Int32.ofInt (p1 : Int)) ρ2 = some (FM ρ2 3 p1) := gd_fail gρ _ _
    have B : bd (FM ρ2 3 p1) 3 p1 := FM_b (by omega)
    have b38 := bd_38 B
    refine ⟨FC ρ1 3 p1, FM ρ2 3 p1, ?_, ?_, ⟨3, p1, FC_f, B⟩, X1.tr (FC_q.z (fun _ _ _ => zC_t)), X2.tr (FM_q.z (fun _ _ _ => zM_t))⟩
    · simp (disch := omega) only [f_X3_readsWave, a1, x1, cd, y1, r1, Option.bind_some, qi, ql, qI_lt, qI_le, qI_eq, qI_L, qI_ix, qL_lt, qL_eq, q_nat, q_cs, ← Int32.ofInt_add, ← Int32.ofInt_sub, ← Int32.ofInt_mul, ← Int32.ofInt_neg, ← Int64.ofInt_add, ← Int64.ofInt_sub, ← Int64.ofInt_mul, ← Int64.ofInt_neg, pL_I, q_mx, q_mn, q_ab, q_abL, q_mnL, q_nn0, q_nn1, q_rr, q_b1, q_b0, q_T, q_F, q_iT, q_iF, q_d, q_in, q_wi, q_hC, q_hM, pT_i, pU_i, pS_i, pS_j, pS_0, Sum.elim_inl, Sum.elim_inr, if_pos, if_neg]
    · simp (disch := omega) only [f_X12_readWave, f_X12_readWave_15, a2, x2, gρ', y2, m15, r2, b38, Option.bind_some, qi, ql, qI_lt, qI_le, qI_eq, qI_L, qI_ix, qL_lt, qL_eq, q_nat, q_cs, ← Int32.ofInt_add, ← Int32.ofInt_sub, ← Int32.ofInt_mul, ← Int32.ofInt_neg, ← Int64.ofInt_add, ← Int64.ofInt_sub, ← Int64.ofInt_mul, ← Int64.ofInt_neg, pL_I, q_mx, q_mn, q_ab, q_abL, q_mnL, q_nn0, q_nn1, q_rr, q_b1, q_b0, q_T, q_F, q_iT, q_iF, q_d, q_in, q_wi, q_hC, q_hM, pT_i, pU_i, pS_i, pS_j, pS_0, Sum.elim_inl, Sum.elim_inr, if_pos, if_neg]
  | false =>
  by_cases c6 : wc = 6
  · right
    have r1 := tk_refuse a3 6
    rw [if_neg (by omega)] at r1
    have r2 : f_X12_fail (Int32.ofInt 6) (Int32.ofInt (p1 : Int)) ρ2 = some (FM ρ2 6 p1) := gd_fail gρ _ _
    have B : bd (FM ρ2 6 p1) 6 p1 := FM_b (by omega)
    have b66 := bd_66 B
    refine ⟨FC ρ1 6 p1, FM ρ2 6 p1, ?_, ?_, ⟨6, p1, FC_f, B⟩, X1.tr (FC_q.z (fun _ _ _ => zC_t)), X2.tr (FM_q.z (fun _ _ _ => zM_t))⟩
    · simp (disch := omega) only [f_X3_readsWave, a1, x1, cd, y1, wa, r1, Option.bind_some, qi, ql, qI_lt, qI_le, qI_eq, qI_L, qI_ix, qL_lt, qL_eq, q_nat, q_cs, ← Int32.ofInt_add, ← Int32.ofInt_sub, ← Int32.ofInt_mul, ← Int32.ofInt_neg, ← Int64.ofInt_add, ← Int64.ofInt_sub, ← Int64.ofInt_mul, ← Int64.ofInt_neg, pL_I, q_mx, q_mn, q_ab, q_abL, q_mnL, q_nn0, q_nn1, q_rr, q_b1, q_b0, q_T, q_F, q_iT, q_iF, q_d, q_in, q_wi, q_hC, q_hM, pT_i, pU_i, pS_i, pS_j, pS_0, Sum.elim_inl, Sum.elim_inr, if_pos, if_neg]
    · simp (disch := omega) only [f_X12_readWave, f_X12_readWave_15, f_X12_readWave_38, a2, x2, gρ', y2, z2, wb, m15, r2, b66, Option.bind_some, qi, ql, qI_lt, qI_le, qI_eq, qI_L, qI_ix, qL_lt, qL_eq, q_nat, q_cs, ← Int32.ofInt_add, ← Int32.ofInt_sub, ← Int32.ofInt_mul, ← Int32.ofInt_neg, ← Int64.ofInt_add, ← Int64.ofInt_sub, ← Int64.ofInt_mul, ← Int64.ofInt_neg, pL_I, q_mx, q_mn, q_ab, q_abL, q_mnL, q_nn0, q_nn1, q_rr, q_b1, q_b0, q_T, q_F, q_iT, q_iF, q_d, q_in, q_wi, q_hC, q_hM, pT_i, pU_i, pS_i, pS_j, pS_0, Sum.elim_inl, Sum.elim_inr, if_pos, if_neg]
  have hc : wc < 6 := by omega
  have ref : f_X12_readWave σ2 = f_X12_readWave_66 ρ2 := by
    simp (disch := omega) only [f_X12_readWave, f_X12_readWave_15, f_X12_readWave_38, a2, x2, gρ', y2, z2, wb, Option.bind_some, qi, ql, qI_lt, qI_le, qI_eq, qI_L, qI_ix, qL_lt, qL_eq, q_nat, q_cs, ← Int32.ofInt_add, ← Int32.ofInt_sub, ← Int32.ofInt_mul, ← Int32.ofInt_neg, ← Int64.ofInt_add, ← Int64.ofInt_sub, ← Int64.ofInt_mul, ← Int64.ofInt_neg, pL_I, q_mx, q_mn, q_ab, q_abL, q_mnL, q_nn0, q_nn1, q_rr, q_b1, q_b0, q_T, q_F, q_iT, q_iF, q_d, q_in, q_wi, q_hC, q_hM, pT_i, pU_i, pS_i, pS_j, pS_0, Sum.elim_inl, Sum.elim_inr, if_pos, if_neg]
  subst s21
  rcases mw_body (R := 6 * a + wc) (nm := Int64.ofInt (ev 27 (lr b p1 (e1 - p1)))) hc a3 gρ wb with ⟨π, κ, κ', τ1, τ2, s', p', e', w', b1, bq, b2, b3, b4, b5, b6, b7, b8, b9, b10, b11, b12, b13⟩ | ⟨π, κ, τ1, τ2, b1, bq, b2, b3, b4, b5, b12, b13⟩
  · left
    have mτ := mρ.x b12 b13
    obtain ⟨⟨u6, ua, ub⟩, uw, uk, us, uz⟩ := mτ
    have pa : π.1 3 a 1 = Int32.ofInt (wc : Int) := ((bq 3 a 1 rfl).1).trans wa
    have QC : qf [(3, 1)] τ1 (am_wI τ1 3 a 1 (Int32.ofInt ((wc : Int) + 1))) := qf.rf.wI rfl
    have QM : qf [(1320, 2)] τ2 (am_wI τ2 1320 0 2 (Int32.ofInt ((wc : Int) + 1))) := qf.rf.wI rfl
    refine ⟨am_wI τ1 3 a 1 (Int32.ofInt ((wc : Int) + 1)), am_wI τ2 1320 0 2 (Int32.ofInt ((wc : Int) + 1)), s', p', e', fun i => if i = wc then w' else ws i, fun i => if i = wc then lr b p1 (e1 - p1) else nm i, ?_, ?_, b6.q QC (by decide +kernel) QM (by decide +kernel), b7, by omega, ?_, (X1.tr (b12.mo (fun _ _ _ => zC_x hc))).wI zC_m.1, (X2.tr (b13.mo (fun _ _ _ => zM_y hc))).wI rfl⟩
    · have wlt : (wc : Int) < 6 := by omega
      simp (disch := omega) only [f_X3_readsWave, a1, x1, cd, y1, wa, b1, pa, b2, b3, b4, ua, Option.bind_some, qi, ql, qI_lt, qI_le, qI_eq, qI_L, qI_ix, qL_lt, qL_eq, q_nat, q_cs, ← Int32.ofInt_add, ← Int32.ofInt_sub, ← Int32.ofInt_mul, ← Int32.ofInt_neg, ← Int64.ofInt_add, ← Int64.ofInt_sub, ← Int64.ofInt_mul, ← Int64.ofInt_neg, pL_I, q_mx, q_mn, q_ab, q_abL, q_mnL, q_nn0, q_nn1, q_rr, q_b1, q_b0, q_T, q_F, q_iT, q_iF, q_d, q_in, q_wi, q_hC, q_hM, pT_i, pU_i, pS_i, pS_j, pS_0, Sum.elim_inl, Sum.elim_inr, if_pos, if_neg]
    · rw [ref, b5, ub, ← Int32.ofInt_add]
    · refine ⟨⟨by omega, by simp [am_wI, am_u3], rfl⟩, fun i hi => ?_, ⟨uk.1, ((QC 3 a 4 rfl).1).trans uk.2.1, uk.2.2.1, uk.2.2.2⟩, ⟨((QC 3 a 5 rfl).1).trans us.1, us.2.1, us.2.2.1, us.2.2.2⟩, ⟨((QC 3 a 6 rfl).1).trans uz.1, uz.2.1, uz.2.2.1, uz.2.2.2⟩⟩
      by_cases ei : i = wc
      · subst ei
        simp only [if_pos]
        exact ⟨b9, L1, L2, b10, b11.trans h19⟩
      · simp only [if_neg ei]
        exact uw i (by omega)
  · right
    refine ⟨τ1, τ2, ?_, ref.trans b4, b5, X1.tr (b12.mo (fun _ _ _ => zC_x hc)), X2.tr (b13.mo (fun _ _ _ => zM_y hc))⟩
    have pa : π.1 3 a 1 = Int32.ofInt (wc : Int) := ((bq 3 a 1 rfl).1).trans wa
    rcases b3 with b3 | ⟨κ', b3, b3'⟩
    · simp (disch := omega) only [f_X3_readsWave, a1, x1, cd, y1, wa, b1, pa, b2, b3, Option.bind_some, qi, ql, qI_lt, qI_le, qI_eq, qI_L, qI_ix, qL_lt, qL_eq, q_nat, q_cs, ← Int32.ofInt_add, ← Int32.ofInt_sub, ← Int32.ofInt_mul, ← Int32.ofInt_neg, ← Int64.ofInt_add, ← Int64.ofInt_sub, ← Int64.ofInt_mul, ← Int64.ofInt_neg, pL_I, q_mx, q_mn, q_ab, q_abL, q_mnL, q_nn0, q_nn1, q_rr, q_b1, q_b0, q_T, q_F, q_iT, q_iF, q_d, q_in, q_wi, q_hC, q_hM, pT_i, pU_i, pS_i, pS_j, pS_0, Sum.elim_inl, Sum.elim_inr, if_pos, if_neg]
    · simp (disch := omega) only [f_X3_readsWave, a1, x1, cd, y1, wa, b1, pa, b2, b3, b3', Option.bind_some, qi, ql, qI_lt, qI_le, qI_eq, qI_L, qI_ix, qL_lt, qL_eq, q_nat, q_cs, ← Int32.ofInt_add, ← Int32.ofInt_sub, ← Int32.ofInt_mul, ← Int32.ofInt_neg, ← Int64.ofInt_add, ← Int64.ofInt_sub, ← Int64.ofInt_mul, ← Int64.ofInt_neg, pL_I, q_mx, q_mn, q_ab, q_abL, q_mnL, q_nn0, q_nn1, q_rr, q_b1, q_b0, q_T, q_F, q_iT, q_iF, q_d, q_in, q_wi, q_hC, q_hM, pT_i, pU_i, pS_i, pS_j, pS_0, Sum.elim_inl, Sum.elim_inr, if_pos, if_neg]
