/-! ===== MACHINE: SLACK and ZERO ===== -/
theorem bd_57 {σ : am_H} {k : Int} {p : Nat} (h : bd σ k p) (v : Bool) : f_X12_readRest_57 v σ = some σ := by
  obtain ⟨h1, h2, h3⟩ := h
  simp (disch := omega) only [f_X12_readRest_57, h2, Option.bind_some, qi, ql, qI_lt, qI_le, qI_eq, qI_L, qI_ix, qL_lt, qL_eq, q_nat, q_cs, ← Int32.ofInt_add, ← Int32.ofInt_sub, ← Int32.ofInt_mul, ← Int32.ofInt_neg, ← Int64.ofInt_add, ← Int64.ofInt_sub, ← Int64.ofInt_mul, ← Int64.ofInt_neg, pL_I, q_mx, q_mn, q_ab, q_abL, q_mnL, q_nn0, q_nn1, q_rr, q_b1, q_b0, q_T, q_F, q_iT, q_iF, q_d, q_in, q_wi, q_hC, q_hM, pT_i, pU_i, pS_i, pS_j, pS_0, Sum.elim_inl, Sum.elim_inr, if_pos, if_neg]
theorem mr_slack {σ1 σ2 : am_H} {n : Nat} {b : Nat → Int} {s p e a wc : Nat} {ws : Nat → Nat → Int} {nm : Nat → List Int} {kc : Nat} {kw kt : Nat → Int} {sl zr : Int} (h : tk σ1 σ2 n b s p e) (s1 : s = 1) (g : gd σ2) (m : mz σ1 σ2 a wc ws nm kc kw kt sl zr) : (∃ (τ1 τ2 : am_H) (s' p' e' : Nat) (v : Int), f_X3_readsSlack a σ1 = some (true, τ1) ∧ f_X12_readRest_20 true σ2 = some τ2 ∧ tk τ1 τ2 n b s' p' e' ∧ gd τ2 ∧ p < p' ∧ mz τ1 τ2 a wc ws nm kc kw kt v zr ∧ qz (zC a) σ1 τ1 ∧ qz zM σ2 τ2) ∨ (∃ τ1 τ2 : am_H, f_X3_readsSlack a σ1 = some (false, τ1) ∧ f_X12_readRest_20 true σ2 = some τ2 ∧ oN (zC a) zM σ1 σ2 τ1 τ2) := by
  have z2 : (2 : Int).toNat = 2 := rfl
  have g' : σ2.1 12 0 12 = Int32.ofInt 0 := g
  have m15 := h.2.2.2.1.2.1
  obtain ⟨q1, q2, q3, q4⟩ := m.2.2.2.1
  by_cases c1 : sl = -1
  rotate_left
  · right
    rw [if_neg c1] at q4
    have r1 := tk_refuse h 5
    rw [if_neg (by omega)] at r1
    have r2 : f_X12_fail (Int32.ofInt 5) (Int32.ofInt (p : Int)) σ2 = some (FM σ2 5 p) := gd_fail g _ _
    have B : bd (FM σ2 5 p) 5 p := FM_b (by omega)
    have b57 := fun v => bd_57 B v
    refine ⟨FC σ1 5 p, FM σ2 5 p, ?_, ?_, ⟨5, p, FC_f, B⟩, FC_q.z (fun _ _ _ => zC_t), FM_q.z (fun _ _ _ => zM_t)⟩
    · simp (disch := omega) only [f_X3_readsSlack, q1, r1, Option.bind_some, qi, ql, qI_lt, qI_le, qI_eq, qI_L, qI_ix, qL_lt, qL_eq, q_nat, q_cs, ← Int32.ofInt_add, ← Int32.ofInt_sub, ← Int32.ofInt_mul, ← Int32.ofInt_neg, ← Int64.ofInt_add, ← Int64.ofInt_sub, ← Int64.ofInt_mul, ← Int64.ofInt_neg, pL_I, q_mx, q_mn, q_ab, q_abL, q_mnL, q_nn0, q_nn1, q_rr, q_b1, q_b0, q_T, q_F, q_iT, q_iF, q_d, q_in, q_wi, q_hC, q_hM, pT_i, pU_i, pS_i, pS_j, pS_0, Sum.elim_inl, Sum.elim_inr, if_pos, if_neg]
    · simp (disch := omega) only [f_X12_readRest_20, f_X12_readRest_48, g', q4, m15, r2, b57, Option.bind_some, qi, ql, qI_lt, qI_le, qI_eq, qI_L, qI_ix, qL_lt, qL_eq, q_nat, q_cs, ← Int32.ofInt_add, ← Int32.ofInt_sub, ← Int32.ofInt_mul, ← Int32.ofInt_neg, ← Int64.ofInt_add, ← Int64.ofInt_sub, ← Int64.ofInt_mul, ← Int64.ofInt_neg, pL_I, q_mx, q_mn, q_ab, q_abL, q_mnL, q_nn0, q_nn1, q_rr, q_b1, q_b0, q_T, q_F, q_iT, q_iF, q_d, q_in, q_wi, q_hC, q_hM, pT_i, pU_i, pS_i, pS_j, pS_0, Sum.elim_inl, Sum.elim_inr, if_pos, if_neg]
  rw [if_pos c1] at q4
  obtain ⟨ρ1, ρ2, s2, p1, e1, a1, a2, a3, a4, a5, a6⟩ := tk_next h (Or.inl s1)
  have pe := (h.2.2.2.2.2.2.1 (Or.inl s1)).1
  have gρ : gd ρ2 := ((a6 12 0 12 rfl).1).trans g
  have Q1 : qf tlC σ1 ρ1 := a5.mo (by decide)
  have Q2 : qf tlM σ2 ρ2 := a6.mo (by decide)
  have X1 : qz (zC a) σ1 ρ1 := Q1.z (fun _ _ _ => zC_t)
  have X2 : qz zM σ2 ρ2 := Q2.z (fun _ _ _ => zM_t)
  have ref : f_X12_readRest_20 true σ2 = (f_X12_count (Int32.ofInt 0) (Int32.ofInt 99) ρ2).bind fun p3 => if (p3.2.1 12 0 14) = Int32.ofInt 3 then f_X12_readRest_91 true p3.1 true p3.2 else f_X12_readRest_91 true p3.1 false p3.2 := by
    simp (disch := omega) only [f_X12_readRest_20, f_X12_readRest_57, g', q4, a2, Option.bind_some, qi, ql, qI_lt, qI_le, qI_eq, qI_L, qI_ix, qL_lt, qL_eq, q_nat, q_cs, ← Int32.ofInt_add, ← Int32.ofInt_sub, ← Int32.ofInt_mul, ← Int32.ofInt_neg, ← Int64.ofInt_add, ← Int64.ofInt_sub, ← Int64.ofInt_mul, ← Int64.ofInt_neg, pL_I, q_mx, q_mn, q_ab, q_abL, q_mnL, q_nn0, q_nn1, q_rr, q_b1, q_b0, q_T, q_F, q_iT, q_iF, q_d, q_in, q_wi, q_hC, q_hM, pT_i, pU_i, pS_i, pS_j, pS_0, Sum.elim_inl, Sum.elim_inr, if_pos, if_neg]
  rw [ref]
  -- the reference notes it, also where it has failed
  have fin : ∀ (χ : am_H) (k : Int) (q : Nat) (x v : Int32) (y : Bool), bd χ k q → f_X12_readRest_91 true v y χ = some (am_wI (am_wI χ 12 0 27 (Int32.ofInt 1)) 1322 0 2 v) := by
    intro χ k q x v y B
    have M := bd_must B y
    simp (disch := omega) only [f_X12_readRest_91, M, z2, Option.bind_some, qi, ql, qI_lt, qI_le, qI_eq, qI_L, qI_ix, qL_lt, qL_eq, q_nat, q_cs, ← Int32.ofInt_add, ← Int32.ofInt_sub, ← Int32.ofInt_mul, ← Int32.ofInt_neg, ← Int64.ofInt_add, ← Int64.ofInt_sub, ← Int64.ofInt_mul, ← Int64.ofInt_neg, pL_I, q_mx, q_mn, q_ab, q_abL, q_mnL, q_nn0, q_nn1, q_rr, q_b1, q_b0, q_T, q_F, q_iT, q_iF, q_d, q_in, q_wi, q_hC, q_hM, pT_i, pU_i, pS_i, pS_j, pS_0, Sum.elim_inl, Sum.elim_inr, if_pos, if_neg]
  have zf : zM 12 0 27 = true ∧ zM 1322 0 2 = true := ⟨rfl, rfl⟩
  rcases tk_num2 a3 gρ (lo := 0) (hi := 99) (by omega) (by omega) with ⟨v, sv, vb, k6, n1, n2, n3⟩ | ⟨q, qb, n1, n2, n3⟩
  rotate_left
  · right
    have B : bd (FM ρ2 q p1) q p1 := FM_b qb
    refine ⟨FC ρ1 q p1, am_wI (am_wI (FM ρ2 q p1) 12 0 27 (Int32.ofInt 1)) 1322 0 2 (Int32.ofInt 0), ?_, ?_, ⟨q, p1, FC_f, ⟨qb, rfl, rfl⟩⟩, X1.tr (FC_q.z (fun _ _ _ => zC_t)), ((X2.tr (FM_q.z (fun _ _ _ => zM_t))).wI zf.1).wI zf.2⟩
    · simp (disch := omega) only [f_X3_readsSlack, q1, a1, n1, Option.bind_some, qi, ql, qI_lt, qI_le, qI_eq, qI_L, qI_ix, qL_lt, qL_eq, q_nat, q_cs, ← Int32.ofInt_add, ← Int32.ofInt_sub, ← Int32.ofInt_mul, ← Int32.ofInt_neg, ← Int64.ofInt_add, ← Int64.ofInt_sub, ← Int64.ofInt_mul, ← Int64.ofInt_neg, pL_I, q_mx, q_mn, q_ab, q_abL, q_mnL, q_nn0, q_nn1, q_rr, q_b1, q_b0, q_T, q_F, q_iT, q_iF, q_d, q_in, q_wi, q_hC, q_hM, pT_i, pU_i, pS_i, pS_j, pS_0, Sum.elim_inl, Sum.elim_inr, if_pos, if_neg]
    · rw [n3, Option.bind_some, fin _ q p1 0 _ true B, fin _ q p1 0 _ false B]
      split <;> rfl
  obtain ⟨φ0, hφ0⟩ : ∃ φ0 : am_H, φ0 = am_wI ρ1 3 a 5 (Int32.ofInt v) := ⟨_, rfl⟩
  have Q0 : qf [(3, 5)] ρ1 φ0 := by rw [hφ0]; exact qf.rf.wI rfl
  have Z0 : qz (zC a) ρ1 φ0 := by rw [hφ0]; exact qz.rf.wI zC_m.1
  obtain ⟨τ1, τ2, s3, p3, e3, x1, x2, x3, x4, x5, x6, x7, x8⟩ := n3 φ0 (a3.q Q0 (by decide +kernel) (qf.rf (l := [])) (by decide +kernel))
  rw [x2, Option.bind_some]
  have Y1 : qz (zC a) σ1 τ1 := (X1.tr Z0).tr (x7.z (fun _ _ _ => zC_t))
  have Y2 : qz zM σ2 τ2 := X2.tr (x8.z (fun _ _ _ => zM_t))
  have m14 := x4.2.2.2.1.1
  have s3b := x4.2.2.2.2.2.1
  have cls : f_X3_readsSlack a σ1 = (f_X5_takesSign τ1).bind fun p7 => some (p7.1, p7.2) := by
    simp (disch := omega) only [f_X3_readsSlack, q1, a1, n1, k6, Option.bind_some, qi, ql, qI_lt, qI_le, qI_eq, qI_L, qI_ix, qL_lt, qL_eq, q_nat, q_cs, ← Int32.ofInt_add, ← Int32.ofInt_sub, ← Int32.ofInt_mul, ← Int32.ofInt_neg, ← Int64.ofInt_add, ← Int64.ofInt_sub, ← Int64.ofInt_mul, ← Int64.ofInt_neg, pL_I, q_mx, q_mn, q_ab, q_abL, q_mnL, q_nn0, q_nn1, q_rr, q_b1, q_b0, q_T, q_F, q_iT, q_iF, q_d, q_in, q_wi, q_hC, q_hM, pT_i, pU_i, pS_i, pS_j, pS_0, Sum.elim_inl, Sum.elim_inr, if_pos, if_neg]
    rw [← hφ0, x1]
    rfl
  rw [cls]
  rcases tk_sign x4 x5 with ⟨c3, ψ1, ψ2, s9, p9, e9, d1, d2, d3, d4, d5, d6, d7⟩ | ⟨c3, q, qb, d1, d2⟩
  rotate_left
  · right
    refine ⟨FC τ1 q p3, am_wI (am_wI (FM τ2 q p3) 12 0 27 (Int32.ofInt 1)) 1322 0 2 (Int32.ofInt v), ?_, ?_, ⟨q, p3, FC_f, ⟨qb, rfl, rfl⟩⟩, Y1.tr (FC_q.z (fun _ _ _ => zC_t)), ((Y2.tr (FM_q.z (fun _ _ _ => zM_t))).wI zf.1).wI zf.2⟩
    · simp (disch := omega) only [d1, Option.bind_some, qi, ql, qI_lt, qI_le, qI_eq, qI_L, qI_ix, qL_lt, qL_eq, q_nat, q_cs, ← Int32.ofInt_add, ← Int32.ofInt_sub, ← Int32.ofInt_mul, ← Int32.ofInt_neg, ← Int64.ofInt_add, ← Int64.ofInt_sub, ← Int64.ofInt_mul, ← Int64.ofInt_neg, pL_I, q_mx, q_mn, q_ab, q_abL, q_mnL, q_nn0, q_nn1, q_rr, q_b1, q_b0, q_T, q_F, q_iT, q_iF, q_d, q_in, q_wi, q_hC, q_hM, pT_i, pU_i, pS_i, pS_j, pS_0, Sum.elim_inl, Sum.elim_inr, if_pos, if_neg]
    · simp (disch := omega) only [f_X12_readRest_91, m14, d2, z2, Option.bind_some, qi, ql, qI_lt, qI_le, qI_eq, qI_L, qI_ix, qL_lt, qL_eq, q_nat, q_cs, ← Int32.ofInt_add, ← Int32.ofInt_sub, ← Int32.ofInt_mul, ← Int32.ofInt_neg, ← Int64.ofInt_add, ← Int64.ofInt_sub, ← Int64.ofInt_mul, ← Int64.ofInt_neg, pL_I, q_mx, q_mn, q_ab, q_abL, q_mnL, q_nn0, q_nn1, q_rr, q_b1, q_b0, q_T, q_F, q_iT, q_iF, q_d, q_in, q_wi, q_hC, q_hM, pT_i, pU_i, pS_i, pS_j, pS_0, Sum.elim_inl, Sum.elim_inr, if_pos, if_neg]
  left
  have QM : qf [(12, 27), (1322, 2)] ψ2 (am_wI (am_wI ψ2 12 0 27 (Int32.ofInt 1)) 1322 0 2 (Int32.ofInt v)) := (qf.rf.wI rfl).wI rfl
  have mψ : mz ρ1 ψ2 a wc ws nm kc kw kt sl zr := ((m.t Q1 Q2).t qf.rf x8).t qf.rf d7
  obtain ⟨⟨o1, o2, o3⟩, o4, ⟨o5, o6, o7, o8⟩, o9, o10⟩ := mψ
  have R10 : ∀ i j, ψ1.1 10 i j = ρ1.1 10 i j ∧ ψ1.2.1 10 i j = ρ1.2.1 10 i j ∧ ψ1.1 1106 i j = ρ1.1 1106 i j := fun i j => ⟨((d6 10 i j rfl).1).trans (((x7 10 i j rfl).1).trans (Q0 10 i j rfl).1), ((d6 10 i j rfl).2.1).trans (((x7 10 i j rfl).2.1).trans (Q0 10 i j rfl).2.1), ((d6 1106 i j rfl).1).trans (((x7 1106 i j rfl).1).trans (Q0 1106 i j rfl).1)⟩
  have R3 : ∀ j, j ≠ 5 → ψ1.1 3 a j = ρ1.1 3 a j := fun j hj => by
    rw [(d6 3 a j (q_tlC (by omega))).1, (x7 3 a j (q_tlC (by omega))).1, hφ0, am_wI_r, if_neg (by omega)]
  have R3s : ψ1.1 3 a 5 = Int32.ofInt v := by
    rw [(d6 3 a 5 rfl).1, (x7 3 a 5 rfl).1, hφ0, am_wI_r, if_pos ⟨rfl, rfl, rfl⟩]
  have R402 : ∀ j, ψ1.1 402 a j = ρ1.1 402 a j ∧ ψ1.1 403 a j = ρ1.1 403 a j := fun j => ⟨((d6 402 a j rfl).1).trans (((x7 402 a j rfl).1).trans (Q0 402 a j rfl).1), ((d6 403 a j rfl).1).trans (((x7 403 a j rfl).1).trans (Q0 403 a j rfl).1)⟩
  refine ⟨ψ1, am_wI (am_wI ψ2 12 0 27 (Int32.ofInt 1)) 1322 0 2 (Int32.ofInt v), s9, p9, e9, v, ?_, ?_, d3.q (qf.rf (l := [])) (by decide +kernel) QM (by decide +kernel), d4, by omega, ?_, Y1.tr (d6.z (fun _ _ _ => zC_t)), ((Y2.tr (d7.z (fun _ _ _ => zM_t))).wI zf.1).wI zf.2⟩
  · simp (disch := omega) only [d1, Option.bind_some, qi, ql, qI_lt, qI_le, qI_eq, qI_L, qI_ix, qL_lt, qL_eq, q_nat, q_cs, ← Int32.ofInt_add, ← Int32.ofInt_sub, ← Int32.ofInt_mul, ← Int32.ofInt_neg, ← Int64.ofInt_add, ← Int64.ofInt_sub, ← Int64.ofInt_mul, ← Int64.ofInt_neg, pL_I, q_mx, q_mn, q_ab, q_abL, q_mnL, q_nn0, q_nn1, q_rr, q_b1, q_b0, q_T, q_F, q_iT, q_iF, q_d, q_in, q_wi, q_hC, q_hM, pT_i, pU_i, pS_i, pS_j, pS_0, Sum.elim_inl, Sum.elim_inr, if_pos, if_neg]
  · simp (disch := omega) only [f_X12_readRest_91, m14, d2, z2, Option.bind_some, qi, ql, qI_lt, qI_le, qI_eq, qI_L, qI_ix, qL_lt, qL_eq, q_nat, q_cs, ← Int32.ofInt_add, ← Int32.ofInt_sub, ← Int32.ofInt_mul, ← Int32.ofInt_neg, ← Int64.ofInt_add, ← Int64.ofInt_sub, ← Int64.ofInt_mul, ← Int64.ofInt_neg, pL_I, q_mx, q_mn, q_ab, q_abL, q_mnL, q_nn0, q_nn1, q_rr, q_b1, q_b0, q_T, q_F, q_iT, q_iF, q_d, q_in, q_wi, q_hC, q_hM, pT_i, pU_i, pS_i, pS_j, pS_0, Sum.elim_inl, Sum.elim_inr, if_pos, if_neg]
  · refine ⟨⟨o1, (R3 1 (by omega)).trans o2, o3⟩, fun i hi => ?_, ⟨o5, (R3 4 (by omega)).trans o6, o7, fun k hk => ?_⟩, ⟨R3s, by omega, by rw [show max v 0 = v by omega]; rfl, by rw [if_neg (by omega)]; rfl⟩, ⟨(R3 6 (by omega)).trans o10.1, o10.2.1, o10.2.2.1, o10.2.2.2⟩⟩
    · obtain ⟨⟨w1, w2, w3, w4⟩, y1, y2, y3, y4⟩ := o4 i hi
      refine ⟨⟨?_, w2, w3, w4⟩, y1, y2, ((R10 _ _).2.1).trans y3, y4⟩
      unfold pw_C at w1 ⊢
      rw [show ψ1.1 10 (6 * a + i) = ρ1.1 10 (6 * a + i) from funext fun j => (R10 _ j).1, show ψ1.2.1 10 (6 * a + i) = ρ1.2.1 10 (6 * a + i) from funext fun j => (R10 _ j).2.1, show ψ1.1 1106 (6 * a + i) = ρ1.1 1106 (6 * a + i) from funext fun j => (R10 _ j).2.2]
      exact w1
    · rw [(R402 k).1, (R402 k).2]
      exact o8 k hk
theorem mr_zero {σ1 σ2 : am_H} {n : Nat} {b : Nat → Int} {s p e a wc : Nat} {ws : Nat → Nat → Int} {nm : Nat → List Int} {kc : Nat} {kw kt : Nat → Int} {sl zr : Int} (h : tk σ1 σ2 n b s p e) (s1 : s = 1) (g : gd σ2) (m : mz σ1 σ2 a wc ws nm kc kw kt sl zr) : (∃ (τ1 τ2 : am_H) (s' p' e' : Nat) (v : Int), f_X3_readsZero a σ1 = some (true, τ1) ∧ f_X12_readRest_20 false σ2 = some τ2 ∧ tk τ1 τ2 n b s' p' e' ∧ gd τ2 ∧ p < p' ∧ mz τ1 τ2 a wc ws nm kc kw kt sl v ∧ qz (zC a) σ1 τ1 ∧ qz zM σ2 τ2) ∨ (∃ τ1 τ2 : am_H, f_X3_readsZero a σ1 = some (false, τ1) ∧ f_X12_readRest_20 false σ2 = some τ2 ∧ oN (zC a) zM σ1 σ2 τ1 τ2) := by
  have z2 : (2 : Int).toNat = 2 := rfl
  have g' : σ2.1 12 0 12 = Int32.ofInt 0 := g
  have m15 := h.2.2.2.1.2.1
  obtain ⟨q1, q2, q3, q4⟩ := m.2.2.2.2
  by_cases c1 : zr = -1
  rotate_left
  · right
    rw [if_neg c1] at q4
    have r1 := tk_refuse h 5
    rw [if_neg (by omega)] at r1
    have r2 : f_X12_fail (Int32.ofInt 5) (Int32.ofInt (p : Int)) σ2 = some (FM σ2 5 p) := gd_fail g _ _
    have B : bd (FM σ2 5 p) 5 p := FM_b (by omega)
    have b57 := fun v => bd_57 B v
    refine ⟨FC σ1 5 p, FM σ2 5 p, ?_, ?_, ⟨5, p, FC_f, B⟩, FC_q.z (fun _ _ _ => zC_t), FM_q.z (fun _ _ _ => zM_t)⟩
    · simp (disch := omega) only [f_X3_readsZero, q1, r1, Option.bind_some, qi, ql, qI_lt, qI_le, qI_eq, qI_L, qI_ix, qL_lt, qL_eq, q_nat, q_cs, ← Int32.ofInt_add, ← Int32.ofInt_sub, ← Int32.ofInt_mul, ← Int32.ofInt_neg, ← Int64.ofInt_add, ← Int64.ofInt_sub, ← Int64.ofInt_mul, ← Int64.ofInt_neg, pL_I, q_mx, q_mn, q_ab, q_abL, q_mnL, q_nn0, q_nn1, q_rr, q_b1, q_b0, q_T, q_F, q_iT, q_iF, q_d, q_in, q_wi, q_hC, q_hM, pT_i, pU_i, pS_i, pS_j, pS_0, Sum.elim_inl, Sum.elim_inr, if_pos, if_neg]
    · simp (disch := omega) only [f_X12_readRest_20, f_X12_readRest_48, g', q4, m15, r2, b57, Option.bind_some, qi, ql, qI_lt, qI_le, qI_eq, qI_L, qI_ix, qL_lt, qL_eq, q_nat, q_cs, ← Int32.ofInt_add, ← Int32.ofInt_sub, ← Int32.ofInt_mul, ← Int32.ofInt_neg, ← Int64.ofInt_add, ← Int64.ofInt_sub, ← Int64.ofInt_mul, ← Int64.ofInt_neg, pL_I, q_mx, q_mn, q_ab, q_abL, q_mnL, q_nn0, q_nn1, q_rr, q_b1, q_b0, q_T, q_F, q_iT, q_iF, q_d, q_in, q_wi, q_hC, q_hM, pT_i, pU_i, pS_i, pS_j, pS_0, Sum.elim_inl, Sum.elim_inr, if_pos, if_neg]
  rw [if_pos c1] at q4
  obtain ⟨ρ1, ρ2, s2, p1, e1, a1, a2, a3, a4, a5, a6⟩ := tk_next h (Or.inl s1)
  have pe := (h.2.2.2.2.2.2.1 (Or.inl s1)).1
  have gρ : gd ρ2 := ((a6 12 0 12 rfl).1).trans g
  have Q1 : qf tlC σ1 ρ1 := a5.mo (by decide)
  have Q2 : qf tlM σ2 ρ2 := a6.mo (by decide)
  have X1 : qz (zC a) σ1 ρ1 := Q1.z (fun _ _ _ => zC_t)
  have X2 : qz zM σ2 ρ2 := Q2.z (fun _ _ _ => zM_t)
  have ref : f_X12_readRest_20 false σ2 = (f_X12_count (Int32.ofInt 0) (Int32.ofInt 99) ρ2).bind fun p3 => if (p3.2.1 12 0 14) = Int32.ofInt 3 then f_X12_readRest_91 false p3.1 true p3.2 else f_X12_readRest_91 false p3.1 false p3.2 := by
    simp (disch := omega) only [f_X12_readRest_20, f_X12_readRest_57, g', q4, a2, Option.bind_some, qi, ql, qI_lt, qI_le, qI_eq, qI_L, qI_ix, qL_lt, qL_eq, q_nat, q_cs, ← Int32.ofInt_add, ← Int32.ofInt_sub, ← Int32.ofInt_mul, ← Int32.ofInt_neg, ← Int64.ofInt_add, ← Int64.ofInt_sub, ← Int64.ofInt_mul, ← Int64.ofInt_neg, pL_I, q_mx, q_mn, q_ab, q_abL, q_mnL, q_nn0, q_nn1, q_rr, q_b1, q_b0, q_T, q_F, q_iT, q_iF, q_d, q_in, q_wi, q_hC, q_hM, pT_i, pU_i, pS_i, pS_j, pS_0, Sum.elim_inl, Sum.elim_inr, if_pos, if_neg]
  rw [ref]
  -- the reference notes it, also where it has failed
  have fin : ∀ (χ : am_H) (k : Int) (q : Nat) (x v : Int32) (y : Bool), bd χ k q → f_X12_readRest_91 false v y χ = some (am_wI (am_wI χ 12 0 28 (Int32.ofInt 1)) 1323 0 2 v) := by
    intro χ k q x v y B
    have M := bd_must B y
    simp (disch := omega) only [f_X12_readRest_91, M, z2, Option.bind_some, qi, ql, qI_lt, qI_le, qI_eq, qI_L, qI_ix, qL_lt, qL_eq, q_nat, q_cs, ← Int32.ofInt_add, ← Int32.ofInt_sub, ← Int32.ofInt_mul, ← Int32.ofInt_neg, ← Int64.ofInt_add, ← Int64.ofInt_sub, ← Int64.ofInt_mul, ← Int64.ofInt_neg, pL_I, q_mx, q_mn, q_ab, q_abL, q_mnL, q_nn0, q_nn1, q_rr, q_b1, q_b0, q_T, q_F, q_iT, q_iF, q_d, q_in, q_wi, q_hC, q_hM, pT_i, pU_i, pS_i, pS_j, pS_0, Sum.elim_inl, Sum.elim_inr, if_pos, if_neg]
  have zf : zM 12 0 28 = true ∧ zM 1323 0 2 = true := ⟨rfl, rfl⟩
  rcases tk_num2 a3 gρ (lo := 0) (hi := 99) (by omega) (by omega) with ⟨v, sv, vb, k6, n1, n2, n3⟩ | ⟨q, qb, n1, n2, n3⟩
  rotate_left
  · right
    have B : bd (FM ρ2 q p1) q p1 := FM_b qb
    refine ⟨FC ρ1 q p1, am_wI (am_wI (FM ρ2 q p1) 12 0 28 (Int32.ofInt 1)) 1323 0 2 (Int32.ofInt 0), ?_, ?_, ⟨q, p1, FC_f, ⟨qb, rfl, rfl⟩⟩, X1.tr (FC_q.z (fun _ _ _ => zC_t)), ((X2.tr (FM_q.z (fun _ _ _ => zM_t))).wI zf.1).wI zf.2⟩
    · simp (disch := omega) only [f_X3_readsZero, q1, a1, n1, Option.bind_some, qi, ql, qI_lt, qI_le, qI_eq, qI_L, qI_ix, qL_lt, qL_eq, q_nat, q_cs, ← Int32.ofInt_add, ← Int32.ofInt_sub, ← Int32.ofInt_mul, ← Int32.ofInt_neg, ← Int64.ofInt_add, ← Int64.ofInt_sub, ← Int64.ofInt_mul, ← Int64.ofInt_neg, pL_I, q_mx, q_mn, q_ab, q_abL, q_mnL, q_nn0, q_nn1, q_rr, q_b1, q_b0, q_T, q_F, q_iT, q_iF, q_d, q_in, q_wi, q_hC, q_hM, pT_i, pU_i, pS_i, pS_j, pS_0, Sum.elim_inl, Sum.elim_inr, if_pos, if_neg]
    · rw [n3, Option.bind_some, fin _ q p1 0 _ true B, fin _ q p1 0 _ false B]
      split <;> rfl
  obtain ⟨φ0, hφ0⟩ : ∃ φ0 : am_H, φ0 = am_wI ρ1 3 a 6 (Int32.ofInt v) := ⟨_, rfl⟩
  have Q0 : qf [(3, 6)] ρ1 φ0 := by rw [hφ0]; exact qf.rf.wI rfl
  have Z0 : qz (zC a) ρ1 φ0 := by rw [hφ0]; exact qz.rf.wI zC_m.1
  obtain ⟨τ1, τ2, s3, p3, e3, x1, x2, x3, x4, x5, x6, x7, x8⟩ := n3 φ0 (a3.q Q0 (by decide +kernel) (qf.rf (l := [])) (by decide +kernel))
  rw [x2, Option.bind_some]
  have Y1 : qz (zC a) σ1 τ1 := (X1.tr Z0).tr (x7.z (fun _ _ _ => zC_t))
  have Y2 : qz zM σ2 τ2 := X2.tr (x8.z (fun _ _ _ => zM_t))
  have m14 := x4.2.2.2.1.1
  have s3b := x4.2.2.2.2.2.1
  have cls : f_X3_readsZero a σ1 = (f_X5_takesSign τ1).bind fun p7 => some (p7.1, p7.2) := by
    simp (disch := omega) only [f_X3_readsZero, q1, a1, n1, k6, Option.bind_some, qi, ql, qI_lt, qI_le, qI_eq, qI_L, qI_ix, qL_lt, qL_eq, q_nat, q_cs, ← Int32.ofInt_add, ← Int32.ofInt_sub, ← Int32.ofInt_mul, ← Int32.ofInt_neg, ← Int64.ofInt_add, ← Int64.ofInt_sub, ← Int64.ofInt_mul, ← Int64.ofInt_neg, pL_I, q_mx, q_mn, q_ab, q_abL, q_mnL, q_nn0, q_nn1, q_rr, q_b1, q_b0, q_T, q_F, q_iT, q_iF, q_d, q_in, q_wi, q_hC, q_hM, pT_i, pU_i, pS_i, pS_j, pS_0, Sum.elim_inl, Sum.elim_inr, if_pos, if_neg]
    rw [← hφ0, x1]
    rfl
  rw [cls]
  rcases tk_sign x4 x5 with ⟨c3, ψ1, ψ2, s9, p9, e9, d1, d2, d3, d4, d5, d6, d7⟩ | ⟨c3, q, qb, d1, d2⟩
  rotate_left
  · right
    refine ⟨FC τ1 q p3, am_wI (am_wI (FM τ2 q p3) 12 0 28 (Int32.ofInt 1)) 1323 0 2 (Int32.ofInt v), ?_, ?_, ⟨q, p3, FC_f, ⟨qb, rfl, rfl⟩⟩, Y1.tr (FC_q.z (fun _ _ _ => zC_t)), ((Y2.tr (FM_q.z (fun _ _ _ => zM_t))).wI zf.1).wI zf.2⟩
    · simp (disch := omega) only [d1, Option.bind_some, qi, ql, qI_lt, qI_le, qI_eq, qI_L, qI_ix, qL_lt, qL_eq, q_nat, q_cs, ← Int32.ofInt_add, ← Int32.ofInt_sub, ← Int32.ofInt_mul, ← Int32.ofInt_neg, ← Int64.ofInt_add, ← Int64.ofInt_sub, ← Int64.ofInt_mul, ← Int64.ofInt_neg, pL_I, q_mx, q_mn, q_ab, q_abL, q_mnL, q_nn0, q_nn1, q_rr, q_b1, q_b0, q_T, q_F, q_iT, q_iF, q_d, q_in, q_wi, q_hC, q_hM, pT_i, pU_i, pS_i, pS_j, pS_0, Sum.elim_inl, Sum.elim_inr, if_pos, if_neg]
    · simp (disch := omega) only [f_X12_readRest_91, m14, d2, z2, Option.bind_some, qi, ql, qI_lt, qI_le, qI_eq, qI_L, qI_ix, qL_lt, qL_eq, q_nat, q_cs, ← Int32.ofInt_add, ← Int32.ofInt_sub, ← Int32.ofInt_mul, ← Int32.ofInt_neg, ← Int64.ofInt_add, ← Int64.ofInt_sub, ← Int64.ofInt_mul, ← Int64.ofInt_neg, pL_I, q_mx, q_mn, q_ab, q_abL, q_mnL, q_nn0, q_nn1, q_rr, q_b1, q_b0, q_T, q_F, q_iT, q_iF, q_d, q_in, q_wi, q_hC, q_hM, pT_i, pU_i, pS_i, pS_j, pS_0, Sum.elim_inl, Sum.elim_inr, if_pos, if_neg]
  left
  have QM : qf [(12, 28), (1323, 2)] ψ2 (am_wI (am_wI ψ2 12 0 28 (Int32.ofInt 1)) 1323 0 2 (Int32.ofInt v)) := (qf.rf.wI rfl).wI rfl
  have mψ : mz ρ1 ψ2 a wc ws nm kc kw kt sl zr := ((m.t Q1 Q2).t qf.rf x8).t qf.rf d7
  obtain ⟨⟨o1, o2, o3⟩, o4, ⟨o5, o6, o7, o8⟩, o9, o10⟩ := mψ
  have R10 : ∀ i j, ψ1.1 10 i j = ρ1.1 10 i j ∧ ψ1.2.1 10 i j = ρ1.2.1 10 i j ∧ ψ1.1 1106 i j = ρ1.1 1106 i j := fun i j => ⟨((d6 10 i j rfl).1).trans (((x7 10 i j rfl).1).trans (Q0 10 i j rfl).1), ((d6 10 i j rfl).2.1).trans (((x7 10 i j rfl).2.1).trans (Q0 10 i j rfl).2.1), ((d6 1106 i j rfl).1).trans (((x7 1106 i j rfl).1).trans (Q0 1106 i j rfl).1)⟩
  have R3 : ∀ j, j ≠ 6 → ψ1.1 3 a j = ρ1.1 3 a j := fun j hj => by
    rw [(d6 3 a j (q_tlC (by omega))).1, (x7 3 a j (q_tlC (by omega))).1, hφ0, am_wI_r, if_neg (by omega)]
  have R3s : ψ1.1 3 a 6 = Int32.ofInt v := by
    rw [(d6 3 a 6 rfl).1, (x7 3 a 6 rfl).1, hφ0, am_wI_r, if_pos ⟨rfl, rfl, rfl⟩]
  have R402 : ∀ j, ψ1.1 402 a j = ρ1.1 402 a j ∧ ψ1.1 403 a j = ρ1.1 403 a j := fun j => ⟨((d6 402 a j rfl).1).trans (((x7 402 a j rfl).1).trans (Q0 402 a j rfl).1), ((d6 403 a j rfl).1).trans (((x7 403 a j rfl).1).trans (Q0 403 a j rfl).1)⟩
  refine ⟨ψ1, am_wI (am_wI ψ2 12 0 28 (Int32.ofInt 1)) 1323 0 2 (Int32.ofInt v), s9, p9, e9, v, ?_, ?_, d3.q (qf.rf (l := [])) (by decide +kernel) QM (by decide +kernel), d4, by omega, ?_, Y1.tr (d6.z (fun _ _ _ => zC_t)), ((Y2.tr (d7.z (fun _ _ _ => zM_t))).wI zf.1).wI zf.2⟩
  · simp (disch := omega) only [d1, Option.bind_some, qi, ql, qI_lt, qI_le, qI_eq, qI_L, qI_ix, qL_lt, qL_eq, q_nat, q_cs, ← Int32.ofInt_add, ← Int32.ofInt_sub, ← Int32.ofInt_mul, ← Int32.ofInt_neg, ← Int64.ofInt_add, ← Int64.ofInt_sub, ← Int64.ofInt_mul, ← Int64.ofInt_neg, pL_I, q_mx, q_mn, q_ab, q_abL, q_mnL, q_nn0, q_nn1, q_rr, q_b1, q_b0, q_T, q_F, q_iT, q_iF, q_d, q_in, q_wi, q_hC, q_hM, pT_i, pU_i, pS_i, pS_j, pS_0, Sum.elim_inl, Sum.elim_inr, if_pos, if_neg]
  · simp (disch := omega) only [f_X12_readRest_91, m14, d2, z2, Option.bind_some, qi, ql, qI_lt, qI_le, qI_eq, qI_L, qI_ix, qL_lt, qL_eq, q_nat, q_cs, ← Int32.ofInt_add, ← Int32.ofInt_sub, ← Int32.ofInt_mul, ← Int32.ofInt_neg, ← Int64.ofInt_add, ← Int64.ofInt_sub, ← Int64.ofInt_mul, ← Int64.ofInt_neg, pL_I, q_mx, q_mn, q_ab, q_abL, q_mnL, q_nn0, q_nn1, q_rr, q_b1, q_b0, q_T, q_F, q_iT, q_iF, q_d, q_in, q_wi, q_hC, q_hM, pT_i, pU_i, pS_i, pS_j, pS_0, Sum.elim_inl, Sum.elim_inr, if_pos, if_neg]
  · refine ⟨⟨o1, (R3 1 (by omega)).trans o2, o3⟩, fun i hi => ?_, ⟨o5, (R3 4 (by omega)).trans o6, o7, fun k hk => ?_⟩, ⟨(R3 5 (by omega)).trans o9.1, o9.2.1, o9.2.2.1, o9.2.2.2⟩, ⟨R3s, by omega, by rw [show max v 0 = v by omega]; rfl, by rw [if_neg (by omega)]; rfl⟩⟩
    · obtain ⟨⟨w1, w2, w3, w4⟩, y1, y2, y3, y4⟩ := o4 i hi
      refine ⟨⟨?_, w2, w3, w4⟩, y1, y2, ((R10 _ _).2.1).trans y3, y4⟩
      unfold pw_C at w1 ⊢
      rw [show ψ1.1 10 (6 * a + i) = ρ1.1 10 (6 * a + i) from funext fun j => (R10 _ j).1, show ψ1.2.1 10 (6 * a + i) = ρ1.2.1 10 (6 * a + i) from funext fun j => (R10 _ j).2.1, show ψ1.1 1106 (6 * a + i) = ρ1.1 1106 (6 * a + i) from funext fun j => (R10 _ j).2.2]
      exact w1
    · rw [(R402 k).1, (R402 k).2]
      exact o8 k hk
/-! ===== MACHINE: one part of the text ===== -/
theorem mp_part {σ1 σ2 : am_H} {n : Nat} {b : Nat → Int} {s p e a wc : Nat} {ws : Nat → Nat → Int} {nm : Nat → List Int} {kc : Nat} {kw kt : Nat → Int} {sl zr : Int} {v1 : Int32} (h : tk σ1 σ2 n b s p e) (s0 : s ≠ 0) (g : gd σ2) (m : mz σ1 σ2 a wc ws nm kc kw kt sl zr) : (∃ (τ1 τ2 : am_H) (s' p' e' : Nat) (wc' : Nat) (ws' : Nat → Nat → Int) (nm' : Nat → List Int) (kc' : Nat) (kw' kt' : Nat → Int) (sl' zr' : Int), f_X3_readsPart a σ1 = some (true, τ1) ∧ f_X12_machine_103 v1 σ2 = some (.inl τ2) ∧ tk τ1 τ2 n b s' p' e' ∧ gd τ2 ∧ p < p' ∧ mz τ1 τ2 a wc' ws' nm' kc' kw' kt' sl' zr' ∧ qz (zC a) σ1 τ1 ∧ qz zM σ2 τ2) ∨ (∃ τ1 τ2 : am_H, f_X3_readsPart a σ1 = some (false, τ1) ∧ f_X12_machine_103 v1 σ2 = some (.inl τ2) ∧ oN (zC a) zM σ1 σ2 τ1 τ2) := by
  have g' : σ2.1 12 0 12 = Int32.ofInt 0 := g
  have m14 := h.2.2.2.1.1
  have s4 := h.2.2.2.2.2.1
  have W0 := (tk_word h (by omega : 0 < 22)).1
  have W6 := (tk_word h (by omega : 6 < 22)).1
  have W8 := (tk_word h (by omega : 8 < 22)).1
  have W9 := (tk_word h (by omega : 9 < 22)).1
  obtain ⟨R0, -, -, R6, -, R8, R9, -⟩ := tk_ref h
  have o0 := wq_1 (b := b) (s := s) (p := p) (e := e) (r := 0)
  have o6 := wq_1 (b := b) (s := s) (p := p) (e := e) (r := 6)
  have o8 := wq_1 (b := b) (s := s) (p := p) (e := e) (r := 8)
  have o9 := wq_1 (b := b) (s := s) (p := p) (e := e) (r := 9)
  generalize wq b s p e 0 = w0 at W0 R0 o0
  generalize wq b s p e 6 = w6 at W6 R6 o6
  generalize wq b s p e 8 = w8 at W8 R8 o8
  generalize wq b s p e 9 = w9 at W9 R9 o9
  cases w0 with
  | true =>
    rcases mw_wave h (o0 rfl) g m with ⟨τ1, τ2, s', p', e', ws', nm', a1, a2, a3, a4, a5, a6, a7, a8⟩ | ⟨τ1, τ2, a1, a2, a3⟩
    · refine Or.inl ⟨τ1, τ2, s', p', e', _, _, _, _, _, _, _, _, ?_, ?_, a3, a4, a5, a6, a7, a8⟩
      · simp (disch := omega) only [f_X3_readsPart, W0, a1, Option.bind_some, qi, ql, qI_lt, qI_le, qI_eq, qI_L, qI_ix, qL_lt, qL_eq, q_nat, q_cs, ← Int32.ofInt_add, ← Int32.ofInt_sub, ← Int32.ofInt_mul, ← Int32.ofInt_neg, ← Int64.ofInt_add, ← Int64.ofInt_sub, ← Int64.ofInt_mul, ← Int64.ofInt_neg, pL_I, q_mx, q_mn, q_ab, q_abL, q_mnL, q_nn0, q_nn1, q_rr, q_b1, q_b0, q_T, q_F, q_iT, q_iF, q_d, q_in, q_wi, q_hC, q_hM, pT_i, pU_i, pS_i, pS_j, pS_0, Sum.elim_inl, Sum.elim_inr, if_pos, if_neg]
      · simp (disch := omega) only [f_X12_machine_103, g', m14, R0, a2, Option.bind_some, qi, ql, qI_lt, qI_le, qI_eq, qI_L, qI_ix, qL_lt, qL_eq, q_nat, q_cs, ← Int32.ofInt_add, ← Int32.ofInt_sub, ← Int32.ofInt_mul, ← Int32.ofInt_neg, ← Int64.ofInt_add, ← Int64.ofInt_sub, ← Int64.ofInt_mul, ← Int64.ofInt_neg, pL_I, q_mx, q_mn, q_ab, q_abL, q_mnL, q_nn0, q_nn1, q_rr, q_b1, q_b0, q_T, q_F, q_iT, q_iF, q_d, q_in, q_wi, q_hC, q_hM, pT_i, pU_i, pS_i, pS_j, pS_0, Sum.elim_inl, Sum.elim_inr, if_pos, if_neg]
    · refine Or.inr ⟨τ1, τ2, ?_, ?_, a3⟩
      · simp (disch := omega) only [f_X3_readsPart, W0, a1, Option.bind_some, qi, ql, qI_lt, qI_le, qI_eq, qI_L, qI_ix, qL_lt, qL_eq, q_nat, q_cs, ← Int32.ofInt_add, ← Int32.ofInt_sub, ← Int32.ofInt_mul, ← Int32.ofInt_neg, ← Int64.ofInt_add, ← Int64.ofInt_sub, ← Int64.ofInt_mul, ← Int64.ofInt_neg, pL_I, q_mx, q_mn, q_ab, q_abL, q_mnL, q_nn0, q_nn1, q_rr, q_b1, q_b0, q_T, q_F, q_iT, q_iF, q_d, q_in, q_wi, q_hC, q_hM, pT_i, pU_i, pS_i, pS_j, pS_0, Sum.elim_inl, Sum.elim_inr, if_pos, if_neg]
      · simp (disch := omega) only [f_X12_machine_103, g', m14, R0, a2, Option.bind_some, qi, ql, qI_lt, qI_le, qI_eq, qI_L, qI_ix, qL_lt, qL_eq, q_nat, q_cs, ← Int32.ofInt_add, ← Int32.ofInt_sub, ← Int32.ofInt_mul, ← Int32.ofInt_neg, ← Int64.ofInt_add, ← Int64.ofInt_sub, ← Int64.ofInt_mul, ← Int64.ofInt_neg, pL_I, q_mx, q_mn, q_ab, q_abL, q_mnL, q_nn0, q_nn1, q_rr, q_b1, q_b0, q_T, q_F, q_iT, q_iF, q_d, q_in, q_wi, q_hC, q_hM, pT_i, pU_i, pS_i, pS_j, pS_0, Sum.elim_inl, Sum.elim_inr, if_pos, if_neg]
  | false =>
  cases w6 with
  | true =>
    rcases mb_box h (o6 rfl) g m with ⟨τ1, τ2, s', p', e', kw', kt', a1, a2, a3, a4, a5, a6, a7, a8⟩ | ⟨τ1, τ2, a1, a2, a3⟩
    · refine Or.inl ⟨τ1, τ2, s', p', e', _, _, _, _, _, _, _, _, ?_, ?_, a3, a4, a5, a6, a7, a8⟩
      · simp (disch := omega) only [f_X3_readsPart, W0, W6, a1, Option.bind_some, qi, ql, qI_lt, qI_le, qI_eq, qI_L, qI_ix, qL_lt, qL_eq, q_nat, q_cs, ← Int32.ofInt_add, ← Int32.ofInt_sub, ← Int32.ofInt_mul, ← Int32.ofInt_neg, ← Int64.ofInt_add, ← Int64.ofInt_sub, ← Int64.ofInt_mul, ← Int64.ofInt_neg, pL_I, q_mx, q_mn, q_ab, q_abL, q_mnL, q_nn0, q_nn1, q_rr, q_b1, q_b0, q_T, q_F, q_iT, q_iF, q_d, q_in, q_wi, q_hC, q_hM, pT_i, pU_i, pS_i, pS_j, pS_0, Sum.elim_inl, Sum.elim_inr, if_pos, if_neg]
      · simp (disch := omega) only [f_X12_machine_103, g', m14, R0, R6, a2, Option.bind_some, qi, ql, qI_lt, qI_le, qI_eq, qI_L, qI_ix, qL_lt, qL_eq, q_nat, q_cs, ← Int32.ofInt_add, ← Int32.ofInt_sub, ← Int32.ofInt_mul, ← Int32.ofInt_neg, ← Int64.ofInt_add, ← Int64.ofInt_sub, ← Int64.ofInt_mul, ← Int64.ofInt_neg, pL_I, q_mx, q_mn, q_ab, q_abL, q_mnL, q_nn0, q_nn1, q_rr, q_b1, q_b0, q_T, q_F, q_iT, q_iF, q_d, q_in, q_wi, q_hC, q_hM, pT_i, pU_i, pS_i, pS_j, pS_0, Sum.elim_inl, Sum.elim_inr, if_pos, if_neg]
    · refine Or.inr ⟨τ1, τ2, ?_, ?_, a3⟩
      · simp (disch := omega) only [f_X3_readsPart, W0, W6, a1, Option.bind_some, qi, ql, qI_lt, qI_le, qI_eq, qI_L, qI_ix, qL_lt, qL_eq, q_nat, q_cs, ← Int32.ofInt_add, ← Int32.ofInt_sub, ← Int32.ofInt_mul, ← Int32.ofInt_neg, ← Int64.ofInt_add, ← Int64.ofInt_sub, ← Int64.ofInt_mul, ← Int64.ofInt_neg, pL_I, q_mx, q_mn, q_ab, q_abL, q_mnL, q_nn0, q_nn1, q_rr, q_b1, q_b0, q_T, q_F, q_iT, q_iF, q_d, q_in, q_wi, q_hC, q_hM, pT_i, pU_i, pS_i, pS_j, pS_0, Sum.elim_inl, Sum.elim_inr, if_pos, if_neg]
      · simp (disch := omega) only [f_X12_machine_103, g', m14, R0, R6, a2, Option.bind_some, qi, ql, qI_lt, qI_le, qI_eq, qI_L, qI_ix, qL_lt, qL_eq, q_nat, q_cs, ← Int32.ofInt_add, ← Int32.ofInt_sub, ← Int32.ofInt_mul, ← Int32.ofInt_neg, ← Int64.ofInt_add, ← Int64.ofInt_sub, ← Int64.ofInt_mul, ← Int64.ofInt_neg, pL_I, q_mx, q_mn, q_ab, q_abL, q_mnL, q_nn0, q_nn1, q_rr, q_b1, q_b0, q_T, q_F, q_iT, q_iF, q_d, q_in, q_wi, q_hC, q_hM, pT_i, pU_i, pS_i, pS_j, pS_0, Sum.elim_inl, Sum.elim_inr, if_pos, if_neg]
  | false =>
  cases w8 with
  | true =>
    rcases mr_slack h (o8 rfl) g m with ⟨τ1, τ2, s', p', e', v, a1, a2, a3, a4, a5, a6, a7, a8⟩ | ⟨τ1, τ2, a1, a2, a3⟩
    · refine Or.inl ⟨τ1, τ2, s', p', e', _, _, _, _, _, _, _, _, ?_, ?_, a3, a4, a5, a6, a7, a8⟩
      · simp (disch := omega) only [f_X3_readsPart, W0, W6, W8, a1, Option.bind_some, qi, ql, qI_lt, qI_le, qI_eq, qI_L, qI_ix, qL_lt, qL_eq, q_nat, q_cs, ← Int32.ofInt_add, ← Int32.ofInt_sub, ← Int32.ofInt_mul, ← Int32.ofInt_neg, ← Int64.ofInt_add, ← Int64.ofInt_sub, ← Int64.ofInt_mul, ← Int64.ofInt_neg, pL_I, q_mx, q_mn, q_ab, q_abL, q_mnL, q_nn0, q_nn1, q_rr, q_b1, q_b0, q_T, q_F, q_iT, q_iF, q_d, q_in, q_wi, q_hC, q_hM, pT_i, pU_i, pS_i, pS_j, pS_0, Sum.elim_inl, Sum.elim_inr, if_pos, if_neg]
      · simp (disch := omega) only [f_X12_machine_103, f_X12_readRest, g', m14, R0, R6, R8, a2, Option.bind_some, qi, ql, qI_lt, qI_le, qI_eq, qI_L, qI_ix, qL_lt, qL_eq, q_nat, q_cs, ← Int32.ofInt_add, ← Int32.ofInt_sub, ← Int32.ofInt_mul, ← Int32.ofInt_neg, ← Int64.ofInt_add, ← Int64.ofInt_sub, ← Int64.ofInt_mul, ← Int64.ofInt_neg, pL_I, q_mx, q_mn, q_ab, q_abL, q_mnL, q_nn0, q_nn1, q_rr, q_b1, q_b0, q_T, q_F, q_iT, q_iF, q_d, q_in, q_wi, q_hC, q_hM, pT_i, pU_i, pS_i, pS_j, pS_0, Sum.elim_inl, Sum.elim_inr, if_pos, if_neg]
    · refine Or.inr ⟨τ1, τ2, ?_, ?_, a3⟩
      · simp (disch := omega) only [f_X3_readsPart, W0, W6, W8, a1, Option.bind_some, qi, ql, qI_lt, qI_le, qI_eq, qI_L, qI_ix, qL_lt, qL_eq, q_nat, q_cs, ← Int32.ofInt_add, ← Int32.ofInt_sub, ← Int32.ofInt_mul, ← Int32.ofInt_neg, ← Int64.ofInt_add, ← Int64.ofInt_sub, ← Int64.ofInt_mul, ← Int64.ofInt_neg, pL_I, q_mx, q_mn, q_ab, q_abL, q_mnL, q_nn0, q_nn1, q_rr, q_b1, q_b0, q_T, q_F, q_iT, q_iF, q_d, q_in, q_wi, q_hC, q_hM, pT_i, pU_i, pS_i, pS_j, pS_0, Sum.elim_inl, Sum.elim_inr, if_pos, if_neg]
      · simp (disch := omega) only [f_X12_machine_103, f_X12_readRest, g', m14, R0, R6, R8, a2, Option.bind_some, qi, ql, qI_lt, qI_le, qI_eq, qI_L, qI_ix, qL_lt, qL_eq, q_nat, q_cs, ← Int32.ofInt_add, ← Int32.ofInt_sub, ← Int32.ofInt_mul, ← Int32.ofInt_neg, ← Int64.ofInt_add, ← Int64.ofInt_sub, ← Int64.ofInt_mul, ← Int64.ofInt_neg, pL_I, q_mx, q_mn, q_ab, q_abL, q_mnL, q_nn0, q_nn1, q_rr, q_b1, q_b0, q_T, q_F, q_iT, q_iF, q_d, q_in, q_wi, q_hC, q_hM, pT_i, pU_i, pS_i, pS_j, pS_0, Sum.elim_inl, Sum.elim_inr, if_pos, if_neg]
  | false =>
  cases w9 with
  | true =>
    rcases mr_zero h (o9 rfl) g m with ⟨τ1, τ2, s', p', e', v, a1, a2, a3, a4, a5, a6, a7, a8⟩ | ⟨τ1, τ2, a1, a2, a3⟩
    · refine Or.inl ⟨τ1, τ2, s', p', e', _, _, _, _, _, _, _, _, ?_, ?_, a3, a4, a5, a6, a7, a8⟩
      · simp (disch := omega) only [f_X3_readsPart, W0, W6, W8, W9, a1, Option.bind_some, qi, ql, qI_lt, qI_le, qI_eq, qI_L, qI_ix, qL_lt, qL_eq, q_nat, q_cs, ← Int32.ofInt_add, ← Int32.ofInt_sub, ← Int32.ofInt_mul, ← Int32.ofInt_neg, ← Int64.ofInt_add, ← Int64.ofInt_sub, ← Int64.ofInt_mul, ← Int64.ofInt_neg, pL_I, q_mx, q_mn, q_ab, q_abL, q_mnL, q_nn0, q_nn1, q_rr, q_b1, q_b0, q_T, q_F, q_iT, q_iF, q_d, q_in, q_wi, q_hC, q_hM, pT_i, pU_i, pS_i, pS_j, pS_0, Sum.elim_inl, Sum.elim_inr, if_pos, if_neg]
      · simp (disch := omega) only [f_X12_machine_103, f_X12_readRest, g', m14, R0, R6, R8, R9, a2, Option.bind_some, qi, ql, qI_lt, qI_le, qI_eq, qI_L, qI_ix, qL_lt, qL_eq, q_nat, q_cs, ← Int32.ofInt_add, ← Int32.ofInt_sub, ← Int32.ofInt_mul, ← Int32.ofInt_neg, ← Int64.ofInt_add, ← Int64.ofInt_sub, ← Int64.ofInt_mul, ← Int64.ofInt_neg, pL_I, q_mx, q_mn, q_ab, q_abL, q_mnL, q_nn0, q_nn1, q_rr, q_b1, q_b0, q_T, q_F, q_iT, q_iF, q_d, q_in, q_wi, q_hC, q_hM, pT_i, pU_i, pS_i, pS_j, pS_0, Sum.elim_inl, Sum.elim_inr, if_pos, if_neg]
    · refine Or.inr ⟨τ1, τ2, ?_, ?_, a3⟩
      · simp (disch := omega) only [f_X3_readsPart, W0, W6, W8, W9, a1, Option.bind_some, qi, ql, qI_lt, qI_le, qI_eq, qI_L, qI_ix, qL_lt, qL_eq, q_nat, q_cs, ← Int32.ofInt_add, ← Int32.ofInt_sub, ← Int32.ofInt_mul, ← Int32.ofInt_neg, ← Int64.ofInt_add, ← Int64.ofInt_sub, ← Int64.ofInt_mul, ← Int64.ofInt_neg, pL_I, q_mx, q_mn, q_ab, q_abL, q_mnL, q_nn0, q_nn1, q_rr, q_b1, q_b0, q_T, q_F, q_iT, q_iF, q_d, q_in, q_wi, q_hC, q_hM, pT_i, pU_i, pS_i, pS_j, pS_0, Sum.elim_inl, Sum.elim_inr, if_pos, if_neg]
      · simp (disch := omega) only [f_X12_machine_103, f_X12_readRest, g', m14, R0, R6, R8, R9, a2, Option.bind_some, qi, ql, qI_lt, qI_le, qI_eq, qI_L, qI_ix, qL_lt, qL_eq, q_nat, q_cs, ← Int32.ofInt_add, ← Int32.ofInt_sub, ← Int32.ofInt_mul, ← Int32.ofInt_neg, ← Int64.ofInt_add, ← Int64.ofInt_sub, ← Int64.ofInt_mul, ← Int64.ofInt_neg, pL_I, q_mx, q_mn, q_ab, q_abL, q_mnL, q_nn0, q_nn1, q_rr, q_b1, q_b0, q_T, q_F, q_iT, q_iF, q_d, q_in, q_wi, q_hC, q_hM, pT_i, pU_i, pS_i, pS_j, pS_0, Sum.elim_inl, Sum.elim_inr, if_pos, if_neg]
  | false =>
  right
  have r1 := tk_refuse h 2
  have r2 := tk_wrong h g
  have kb : 1 ≤ (if s = 4 then 1 else 2 : Int) ∧ (if s = 4 then 1 else 2 : Int) ≤ 6 := by split <;> omega
  generalize (if s = 4 then 1 else 2 : Int) = k at r1 r2 kb
  have B : bd (FM σ2 k p) k p := FM_b kb
  have b57 := fun v => bd_57 B v
  have b12 := B.2.1
  refine ⟨FC σ1 k p, FM σ2 k p, ?_, ?_, ⟨k, p, FC_f, B⟩, FC_q.z (fun _ _ _ => zC_t), FM_q.z (fun _ _ _ => zM_t)⟩
  · simp (disch := omega) only [f_X3_readsPart, W0, W6, W8, W9, r1, Option.bind_some, qi, ql, qI_lt, qI_le, qI_eq, qI_L, qI_ix, qL_lt, qL_eq, q_nat, q_cs, ← Int32.ofInt_add, ← Int32.ofInt_sub, ← Int32.ofInt_mul, ← Int32.ofInt_neg, ← Int64.ofInt_add, ← Int64.ofInt_sub, ← Int64.ofInt_mul, ← Int64.ofInt_neg, pL_I, q_mx, q_mn, q_ab, q_abL, q_mnL, q_nn0, q_nn1, q_rr, q_b1, q_b0, q_T, q_F, q_iT, q_iF, q_d, q_in, q_wi, q_hC, q_hM, pT_i, pU_i, pS_i, pS_j, pS_0, Sum.elim_inl, Sum.elim_inr, if_pos, if_neg]
  · simp (disch := omega) only [f_X12_machine_103, f_X12_readRest, f_X12_readRest_20, g', m14, R0, R6, R8, R9, r2, b12, b57, Option.bind_some, qi, ql, qI_lt, qI_le, qI_eq, qI_L, qI_ix, qL_lt, qL_eq, q_nat, q_cs, ← Int32.ofInt_add, ← Int32.ofInt_sub, ← Int32.ofInt_mul, ← Int32.ofInt_neg, ← Int64.ofInt_add, ← Int64.ofInt_sub, ← Int64.ofInt_mul, ← Int64.ofInt_neg, pL_I, q_mx, q_mn, q_ab, q_abL, q_mnL, q_nn0, q_nn1, q_rr, q_b1, q_b0, q_T, q_F, q_iT, q_iF, q_d, q_in, q_wi, q_hC, q_hM, pT_i, pU_i, pS_i, pS_j, pS_0, Sum.elim_inl, Sum.elim_inr, if_pos, if_neg]
