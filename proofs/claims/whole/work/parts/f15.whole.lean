/-! ===== MACHINE: the whole text ===== -/
noncomputable def mcC (a : Nat) (j : Int32) (σ : am_H) : Option (Bool × am_H) := (am_loop (fun s : Int32 × am_H => f_X3_readFrom_22 a s.1 s.2) (j, σ)).bind fun w5 => Sum.elim (fun t5_0 => some (true, t5_0)) (fun u5_0 => Sum.elim (fun t5_1 => some (false, t5_1)) (fun u5_1 => (f_X5_refuse 2 u5_1).bind fun p6 => some (p6.1, p6.2)) u5_0) w5
theorem mp_all {n : Nat} {b : Nat → Int} {a : Nat} {v1 : Int32} : ∀ (f : Nat) (σ1 σ2 : am_H) (s p e : Nat) (wc : Nat) (ws : Nat → Nat → Int) (nm : Nat → List Int) (kc : Nat) (kw kt : Nat → Int) (sl zr : Int) (j : Nat), n < p + f → tk σ1 σ2 n b s p e → gd σ2 → mz σ1 σ2 a wc ws nm kc kw kt sl zr → j ≤ p → (∃ (τ1 τ2 : am_H) (wc' : Nat) (ws' : Nat → Nat → Int) (nm' : Nat → List Int) (kc' : Nat) (kw' kt' : Nat → Int) (sl' zr' : Int), mcC a (Int32.ofInt (j : Int)) σ1 = some (true, τ1) ∧ am_loop (fun s : am_H => f_X12_machine_103 v1 s) σ2 = some τ2 ∧ gd τ2 ∧ gF τ1 ∧ mz τ1 τ2 a wc' ws' nm' kc' kw' kt' sl' zr' ∧ qz (zC a) σ1 τ1 ∧ qz zM σ2 τ2) ∨ (∃ τ1 τ2 : am_H, mcC a (Int32.ofInt (j : Int)) σ1 = some (false, τ1) ∧ am_loop (fun s : am_H => f_X12_machine_103 v1 s) σ2 = some τ2 ∧ oN (zC a) zM σ1 σ2 τ1 τ2) := by
  intro f
  induction f with
  | zero =>
    intro σ1 σ2 s p e wc ws nm kc kw kt sl zr j hf h
    have := h.2.2.2.2.1
    omega
  | succ f ih =>
    intro σ1 σ2 s p e wc ws nm kc kw kt sl zr j hf h g m hj
    have g' : σ2.1 12 0 12 = Int32.ofInt 0 := g
    have hn := h.1.1
    have pn := h.2.2.2.2.1
    have k3 := h.2.2.1.1
    have m14 := h.2.2.2.1.1
    have s4 := h.2.2.2.2.2.1
    by_cases s0 : s = 0
    · left
      have ae : f_X5_isAtEnd σ1 = some true := by simp (disch := omega) only [f_X5_isAtEnd, k3, Option.bind_some, qi, ql, qI_lt, qI_le, qI_eq, qI_L, qI_ix, qL_lt, qL_eq, q_nat, q_cs, ← Int32.ofInt_add, ← Int32.ofInt_sub, ← Int32.ofInt_mul, ← Int32.ofInt_neg, ← Int64.ofInt_add, ← Int64.ofInt_sub, ← Int64.ofInt_mul, ← Int64.ofInt_neg, pL_I, q_mx, q_mn, q_ab, q_abL, q_mnL, q_nn0, q_nn1, q_rr, q_b1, q_b0, q_T, q_F, q_iT, q_iF, q_d, q_in, q_wi, q_hC, q_hM, pT_i, pU_i, pS_i, pS_j, pS_0, Sum.elim_inl, Sum.elim_inr, if_pos, if_neg]
      have lC : am_loop (fun s : Int32 × am_H => f_X3_readFrom_22 a s.1 s.2) (Int32.ofInt (j : Int), σ1) = some (.inl σ1) := am_loop_out (by simp (disch := omega) only [f_X3_readFrom_22, ae, Option.bind_some, qi, ql, qI_lt, qI_le, qI_eq, qI_L, qI_ix, qL_lt, qL_eq, q_nat, q_cs, ← Int32.ofInt_add, ← Int32.ofInt_sub, ← Int32.ofInt_mul, ← Int32.ofInt_neg, ← Int64.ofInt_add, ← Int64.ofInt_sub, ← Int64.ofInt_mul, ← Int64.ofInt_neg, pL_I, q_mx, q_mn, q_ab, q_abL, q_mnL, q_nn0, q_nn1, q_rr, q_b1, q_b0, q_T, q_F, q_iT, q_iF, q_d, q_in, q_wi, q_hC, q_hM, pT_i, pU_i, pS_i, pS_j, pS_0, Sum.elim_inl, Sum.elim_inr, if_pos, if_neg])
      refine ⟨σ1, σ2, wc, ws, nm, kc, kw, kt, sl, zr, ?_, am_loop_out ?_, g, h.2.2.2.2.2.2.2.2.2.2, m, qz.rf, qz.rf⟩
      · unfold mcC
        rw [lC]
        rfl
      · simp (disch := omega) only [f_X12_machine_103, g', m14, Option.bind_some, qi, ql, qI_lt, qI_le, qI_eq, qI_L, qI_ix, qL_lt, qL_eq, q_nat, q_cs, ← Int32.ofInt_add, ← Int32.ofInt_sub, ← Int32.ofInt_mul, ← Int32.ofInt_neg, ← Int64.ofInt_add, ← Int64.ofInt_sub, ← Int64.ofInt_mul, ← Int64.ofInt_neg, pL_I, q_mx, q_mn, q_ab, q_abL, q_mnL, q_nn0, q_nn1, q_rr, q_b1, q_b0, q_T, q_F, q_iT, q_iF, q_d, q_in, q_wi, q_hC, q_hM, pT_i, pU_i, pS_i, pS_j, pS_0, Sum.elim_inl, Sum.elim_inr, if_pos, if_neg]
    have ae : f_X5_isAtEnd σ1 = some false := by simp (disch := omega) only [f_X5_isAtEnd, k3, Option.bind_some, qi, ql, qI_lt, qI_le, qI_eq, qI_L, qI_ix, qL_lt, qL_eq, q_nat, q_cs, ← Int32.ofInt_add, ← Int32.ofInt_sub, ← Int32.ofInt_mul, ← Int32.ofInt_neg, ← Int64.ofInt_add, ← Int64.ofInt_sub, ← Int64.ofInt_mul, ← Int64.ofInt_neg, pL_I, q_mx, q_mn, q_ab, q_abL, q_mnL, q_nn0, q_nn1, q_rr, q_b1, q_b0, q_T, q_F, q_iT, q_iF, q_d, q_in, q_wi, q_hC, q_hM, pT_i, pU_i, pS_i, pS_j, pS_0, Sum.elim_inl, Sum.elim_inr, if_pos, if_neg]
    rcases mp_part (v1 := v1) h s0 g m with ⟨τ1, τ2, s', p', e', wc', ws', nm', kc', kw', kt', sl', zr', b1, b2, b3, b4, b5, b6, b7, b8⟩ | ⟨τ1, τ2, b1, b2, ⟨k, q, b3, b4⟩, b7, b8⟩
    · have lC : f_X3_readFrom_22 a (Int32.ofInt (j : Int)) σ1 = some (.inl (Int32.ofInt ((j : Int) + 1), τ1)) := by
        simp (disch := omega) only [f_X3_readFrom_22, ae, b1, Option.bind_some, qi, ql, qI_lt, qI_le, qI_eq, qI_L, qI_ix, qL_lt, qL_eq, q_nat, q_cs, ← Int32.ofInt_add, ← Int32.ofInt_sub, ← Int32.ofInt_mul, ← Int32.ofInt_neg, ← Int64.ofInt_add, ← Int64.ofInt_sub, ← Int64.ofInt_mul, ← Int64.ofInt_neg, pL_I, q_mx, q_mn, q_ab, q_abL, q_mnL, q_nn0, q_nn1, q_rr, q_b1, q_b0, q_T, q_F, q_iT, q_iF, q_d, q_in, q_wi, q_hC, q_hM, pT_i, pU_i, pS_i, pS_j, pS_0, Sum.elim_inl, Sum.elim_inr, if_pos, if_neg]
      have eC : mcC a (Int32.ofInt (j : Int)) σ1 = mcC a (Int32.ofInt ((j + 1 : Nat) : Int)) τ1 := by
        unfold mcC
        rw [am_loop_in (s' := (Int32.ofInt ((j : Int) + 1), τ1)) lC]
        rfl
      rw [eC, am_loop_in (s' := τ2) b2]
      rcases ih τ1 τ2 s' p' e' wc' ws' nm' kc' kw' kt' sl' zr' (j + 1) (by omega) b3 b4 b6 (by omega) with ⟨κ1, κ2, x1, x2, x3, x4, x5, x6, x7, x8, d1, d2, d3, d5, d4, d7, d8⟩ | ⟨κ1, κ2, d1, d2, d3, d7, d8⟩
      · exact Or.inl ⟨κ1, κ2, x1, x2, x3, x4, x5, x6, x7, x8, d1, d2, d3, d5, d4, b7.tr d7, b8.tr d8⟩
      · exact Or.inr ⟨κ1, κ2, d1, d2, d3, b7.tr d7, b8.tr d8⟩
    · right
      have lC : am_loop (fun s : Int32 × am_H => f_X3_readFrom_22 a s.1 s.2) (Int32.ofInt (j : Int), σ1) = some (.inr (.inl τ1)) := am_loop_out (by simp (disch := omega) only [f_X3_readFrom_22, ae, b1, Option.bind_some, qi, ql, qI_lt, qI_le, qI_eq, qI_L, qI_ix, qL_lt, qL_eq, q_nat, q_cs, ← Int32.ofInt_add, ← Int32.ofInt_sub, ← Int32.ofInt_mul, ← Int32.ofInt_neg, ← Int64.ofInt_add, ← Int64.ofInt_sub, ← Int64.ofInt_mul, ← Int64.ofInt_neg, pL_I, q_mx, q_mn, q_ab, q_abL, q_mnL, q_nn0, q_nn1, q_rr, q_b1, q_b0, q_T, q_F, q_iT, q_iF, q_d, q_in, q_wi, q_hC, q_hM, pT_i, pU_i, pS_i, pS_j, pS_0, Sum.elim_inl, Sum.elim_inr, if_pos, if_neg])
      have b12 := b4.2.1
      have kk := b4.1
      refine ⟨τ1, τ2, ?_, (am_loop_in (s' := τ2) b2).trans (am_loop_out ?_), ⟨k, q, b3, b4⟩, b7, b8⟩
      · unfold mcC
        rw [lC]
        rfl
      · simp (disch := omega) only [f_X12_machine_103, b12, Option.bind_some, qi, ql, qI_lt, qI_le, qI_eq, qI_L, qI_ix, qL_lt, qL_eq, q_nat, q_cs, ← Int32.ofInt_add, ← Int32.ofInt_sub, ← Int32.ofInt_mul, ← Int32.ofInt_neg, ← Int64.ofInt_add, ← Int64.ofInt_sub, ← Int64.ofInt_mul, ← Int64.ofInt_neg, pL_I, q_mx, q_mn, q_ab, q_abL, q_mnL, q_nn0, q_nn1, q_rr, q_b1, q_b0, q_T, q_F, q_iT, q_iF, q_d, q_in, q_wi, q_hC, q_hM, pT_i, pU_i, pS_i, pS_j, pS_0, Sum.elim_inl, Sum.elim_inr, if_pos, if_neg]
theorem mm_243 {σ : am_H} {m : Nat} (hm : m < 2) : ∃ τ : am_H, am_loop (fun s : Int32 × am_H => f_X12_machine_243 (Int32.ofInt (m : Int)) s.1 s.2) (Int32.ofInt 0, σ) = some τ ∧ (qf [(1324, 999)] σ τ ∧ (∀ k, k < 54 → τ.1 1324 0 (54 * m + k) = σ.1 1324 0 (108 + k)) ∧ ∀ j, j < 54 * m ∨ 54 * m + 54 ≤ j → τ.1 1324 0 j = σ.1 1324 0 j) := by
  refine am_loop_1 (B := fun s : Int32 × am_H => f_X12_machine_243 (Int32.ofInt (m : Int)) s.1 s.2) (fun q s => ∃ (k : Nat) (τ : am_H), s = (Int32.ofInt (k : Int), τ) ∧ k ≤ 54 ∧ qf [(1324, 999)] σ τ ∧ (∀ i, i < k → τ.1 1324 0 (54 * m + i) = σ.1 1324 0 (108 + i)) ∧ (∀ j, j < 54 * m ∨ 54 * m + k ≤ j → τ.1 1324 0 j = σ.1 1324 0 j) ∧ q = 54 - k) (fun τ => qf [(1324, 999)] σ τ ∧ (∀ k, k < 54 → τ.1 1324 0 (54 * m + k) = σ.1 1324 0 (108 + k)) ∧ ∀ j, j < 54 * m ∨ 54 * m + 54 ≤ j → τ.1 1324 0 j = σ.1 1324 0 j) ?_ 54 _ ⟨0, σ, rfl, by omega, qf.rf, fun i hi => by omega, fun j _ => rfl, rfl⟩
  rintro q s ⟨k, τ, rfl, hk, hq, hi, hj, rfl⟩
  by_cases ce : k < 54
  · right
    have i1 : (108 + (k : Int)).toNat = 108 + k := by omega
    have i2 : (54 * (m : Int) + (k : Int)).toNat = 54 * m + k := by omega
    have e1 : τ.1 1324 0 (108 + k) = σ.1 1324 0 (108 + k) := hj _ (by omega)
    refine ⟨(Int32.ofInt ((k : Int) + 1), am_wI τ 1324 0 (54 * m + k) (σ.1 1324 0 (108 + k))), 54 - (k + 1), ?_, by omega, k + 1, _, rfl, by omega, hq.wI rfl, fun i hi' => ?_, fun j hj' => ?_, rfl⟩
    · simp (disch := omega) only [f_X12_machine_243, i1, i2, e1, Option.bind_some, qi, ql, qI_lt, qI_le, qI_eq, qI_L, qI_ix, qL_lt, qL_eq, q_nat, q_cs, ← Int32.ofInt_add, ← Int32.ofInt_sub, ← Int32.ofInt_mul, ← Int32.ofInt_neg, ← Int64.ofInt_add, ← Int64.ofInt_sub, ← Int64.ofInt_mul, ← Int64.ofInt_neg, pL_I, q_mx, q_mn, q_ab, q_abL, q_mnL, q_nn0, q_nn1, q_rr, q_b1, q_b0, q_T, q_F, q_iT, q_iF, q_d, q_in, q_wi, q_hC, q_hM, pT_i, pU_i, pS_i, pS_j, pS_0, Sum.elim_inl, Sum.elim_inr, if_pos, if_neg]
    · rw [am_wI_r]
      by_cases e : i = k
      · rw [if_pos ⟨rfl, rfl, by omega⟩, e]
      · rw [if_neg (by omega), hi i (by omega)]
    · rw [am_wI_r, if_neg (by omega)]
      exact hj j (by omega)
  · left
    have c5 : k = 54 := by omega
    subst c5
    refine ⟨τ, ?_, hq, hi, hj⟩
    simp (disch := omega) only [f_X12_machine_243, Option.bind_some, qi, ql, qI_lt, qI_le, qI_eq, qI_L, qI_ix, qL_lt, qL_eq, q_nat, q_cs, ← Int32.ofInt_add, ← Int32.ofInt_sub, ← Int32.ofInt_mul, ← Int32.ofInt_neg, ← Int64.ofInt_add, ← Int64.ofInt_sub, ← Int64.ofInt_mul, ← Int64.ofInt_neg, pL_I, q_mx, q_mn, q_ab, q_abL, q_mnL, q_nn0, q_nn1, q_rr, q_b1, q_b0, q_T, q_F, q_iT, q_iF, q_d, q_in, q_wi, q_hC, q_hM, pT_i, pU_i, pS_i, pS_j, pS_0, Sum.elim_inl, Sum.elim_inr, if_pos, if_neg]
theorem mm_277 {σ : am_H} {m : Nat} (hm : m < 2) : ∃ τ : am_H, am_loop (fun s : Int32 × am_H => f_X12_machine_277 (Int32.ofInt (m : Int)) s.1 s.2) (Int32.ofInt 0, σ) = some τ ∧ (qf [(1325, 999)] σ τ ∧ (∀ k, k < 20 → τ.1 1325 0 (20 * m + k) = σ.1 1325 0 (40 + k)) ∧ ∀ j, j < 20 * m ∨ 20 * m + 20 ≤ j → τ.1 1325 0 j = σ.1 1325 0 j) := by
  refine am_loop_1 (B := fun s : Int32 × am_H => f_X12_machine_277 (Int32.ofInt (m : Int)) s.1 s.2) (fun q s => ∃ (k : Nat) (τ : am_H), s = (Int32.ofInt (k : Int), τ) ∧ k ≤ 20 ∧ qf [(1325, 999)] σ τ ∧ (∀ i, i < k → τ.1 1325 0 (20 * m + i) = σ.1 1325 0 (40 + i)) ∧ (∀ j, j < 20 * m ∨ 20 * m + k ≤ j → τ.1 1325 0 j = σ.1 1325 0 j) ∧ q = 20 - k) (fun τ => qf [(1325, 999)] σ τ ∧ (∀ k, k < 20 → τ.1 1325 0 (20 * m + k) = σ.1 1325 0 (40 + k)) ∧ ∀ j, j < 20 * m ∨ 20 * m + 20 ≤ j → τ.1 1325 0 j = σ.1 1325 0 j) ?_ 20 _ ⟨0, σ, rfl, by omega, qf.rf, fun i hi => by omega, fun j _ => rfl, rfl⟩
  rintro q s ⟨k, τ, rfl, hk, hq, hi, hj, rfl⟩
  by_cases ce : k < 20
  · right
    have i1 : (40 + (k : Int)).toNat = 40 + k := by omega
    have i2 : (20 * (m : Int) + (k : Int)).toNat = 20 * m + k := by omega
    have e1 : τ.1 1325 0 (40 + k) = σ.1 1325 0 (40 + k) := hj _ (by omega)
    refine ⟨(Int32.ofInt ((k : Int) + 1), am_wI τ 1325 0 (20 * m + k) (σ.1 1325 0 (40 + k))), 20 - (k + 1), ?_, by omega, k + 1, _, rfl, by omega, hq.wI rfl, fun i hi' => ?_, fun j hj' => ?_, rfl⟩
    · simp (disch := omega) only [f_X12_machine_277, i1, i2, e1, Option.bind_some, qi, ql, qI_lt, qI_le, qI_eq, qI_L, qI_ix, qL_lt, qL_eq, q_nat, q_cs, ← Int32.ofInt_add, ← Int32.ofInt_sub, ← Int32.ofInt_mul, ← Int32.ofInt_neg, ← Int64.ofInt_add, ← Int64.ofInt_sub, ← Int64.ofInt_mul, ← Int64.ofInt_neg, pL_I, q_mx, q_mn, q_ab, q_abL, q_mnL, q_nn0, q_nn1, q_rr, q_b1, q_b0, q_T, q_F, q_iT, q_iF, q_d, q_in, q_wi, q_hC, q_hM, pT_i, pU_i, pS_i, pS_j, pS_0, Sum.elim_inl, Sum.elim_inr, if_pos, if_neg]
    · rw [am_wI_r]
      by_cases e : i = k
      · rw [if_pos ⟨rfl, rfl, by omega⟩, e]
      · rw [if_neg (by omega), hi i (by omega)]
    · rw [am_wI_r, if_neg (by omega)]
      exact hj j (by omega)
  · left
    have c5 : k = 20 := by omega
    subst c5
    refine ⟨τ, ?_, hq, hi, hj⟩
    simp (disch := omega) only [f_X12_machine_277, Option.bind_some, qi, ql, qI_lt, qI_le, qI_eq, qI_L, qI_ix, qL_lt, qL_eq, q_nat, q_cs, ← Int32.ofInt_add, ← Int32.ofInt_sub, ← Int32.ofInt_mul, ← Int32.ofInt_neg, ← Int64.ofInt_add, ← Int64.ofInt_sub, ← Int64.ofInt_mul, ← Int64.ofInt_neg, pL_I, q_mx, q_mn, q_ab, q_abL, q_mnL, q_nn0, q_nn1, q_rr, q_b1, q_b0, q_T, q_F, q_iT, q_iF, q_d, q_in, q_wi, q_hC, q_hM, pT_i, pU_i, pS_i, pS_j, pS_0, Sum.elim_inl, Sum.elim_inr, if_pos, if_neg]
/-- a MACHINE whose cells are as they were -/
theorem pr_mach_z {σ1 σ2 τ1 τ2 : am_H} {m a : Nat} (x : pr_mach σ1 σ2 m a) (c3 : ∀ j, τ1.1 3 a j = σ1.1 3 a j ∧ τ1.1 402 a j = σ1.1 402 a j ∧ τ1.1 403 a j = σ1.1 403 a j) (c10 : ∀ i j, i < 6 → τ1.1 10 (6 * a + i) j = σ1.1 10 (6 * a + i) j ∧ τ1.2.1 10 (6 * a + i) j = σ1.2.1 10 (6 * a + i) j ∧ τ1.1 1106 (6 * a + i) j = σ1.1 1106 (6 * a + i) j) (g0 : τ2.1 1320 0 m = σ2.1 1320 0 m ∧ τ2.1 1321 0 m = σ2.1 1321 0 m ∧ τ2.1 1322 0 m = σ2.1 1322 0 m ∧ τ2.1 1323 0 m = σ2.1 1323 0 m) (g4 : ∀ k, k < 54 → τ2.1 1324 0 (54 * m + k) = σ2.1 1324 0 (54 * m + k)) (g5 : ∀ k, k < 20 → τ2.1 1325 0 (20 * m + k) = σ2.1 1325 0 (20 * m + k)) : pr_mach τ1 τ2 m a := by
  obtain ⟨wc, ws, zr, sl, kc, kw, kt, ⟨c1, c2, cz, c4, c5⟩, ⟨d1, d2, d3, d4, d5⟩, tr, s1, s2, s3, k1, k2, k3, k4⟩ := x
  refine ⟨wc, ws, zr, sl, kc, kw, kt, ⟨c1, ((c3 1).1).trans c2, ((c3 6).1).trans cz, c4, fun i hi => ⟨(c5 i hi).1, ?_⟩⟩, ⟨d1, g0.1.trans d2, g0.2.2.2.trans d3, d4, fun i hi => ⟨(d5 i hi).1, fun k hk => ?_⟩⟩, tr, ((c3 5).1).trans s1, s2, g0.2.2.1.trans s3, k1, ((c3 4).1).trans k2, g0.2.1.trans k3, fun k hk => ?_⟩
  · have := (c5 i hi).2
    unfold pw_C at this ⊢
    rw [show τ1.1 10 (6 * a + i) = σ1.1 10 (6 * a + i) from funext fun j => (c10 i j (by omega)).1, show τ1.2.1 10 (6 * a + i) = σ1.2.1 10 (6 * a + i) from funext fun j => (c10 i j (by omega)).2.1, show τ1.1 1106 (6 * a + i) = σ1.1 1106 (6 * a + i) from funext fun j => (c10 i j (by omega)).2.2]
    exact this
  · have := g4 (9 * i + k) (by omega)
    rw [← Nat.add_assoc] at this
    exact this.trans ((d5 i hi).2 k hk)
  · obtain ⟨q1, q2, q3, q4, q5, q6⟩ := k4 k hk
    have e1 := g5 (2 * k) (by omega)
    have e2 := g5 (2 * k + 1) (by omega)
    rw [← Nat.add_assoc] at e2
    exact ⟨q1, q2, ((c3 k).2.1).trans q3, ((c3 k).2.2).trans q4, e1.trans q5, e2.trans q6⟩
theorem zC_o {a c : Nat} (h : a ≠ c) : (∀ j, zC c 3 a j = false ∧ zC c 402 a j = false ∧ zC c 403 a j = false) ∧ ∀ i j, i < 6 → zC c 10 (6 * a + i) j = false ∧ zC c 1106 (6 * a + i) j = false := by
  refine ⟨fun j => ?_, fun i j hi => ?_⟩
  · unfold zC
    rw [q_tlC (by omega), q_tlC (by omega), q_tlC (by omega), show (a == c) = false from beq_eq_false_iff_ne.mpr h]
    exact ⟨rfl, rfl, rfl⟩
  · unfold zC
    rw [q_tlC (by omega), q_tlC (by omega), decide_eq_false (by omega)]
    exact ⟨rfl, rfl⟩
theorem zM_o {m : Nat} (h : m < 2) : (zM 1320 0 m = false ∧ zM 1321 0 m = false ∧ zM 1322 0 m = false ∧ zM 1323 0 m = false) ∧ (∀ k, k < 54 → zM 1324 0 (54 * m + k) = false) ∧ ∀ k, k < 20 → zM 1325 0 (20 * m + k) = false := by
  refine ⟨?_, fun k hk => ?_, fun k hk => ?_⟩
  · unfold zM
    rw [q_tlM (by omega), q_tlM (by omega), q_tlM (by omega), q_tlM (by omega), show (m == 2) = false from beq_eq_false_iff_ne.mpr (by omega)]
    exact ⟨rfl, rfl, rfl, rfl⟩
  · unfold zM
    rw [q_tlM (by omega), decide_eq_false (by omega : ¬ 108 ≤ 54 * m + k)]
    rfl
  · unfold zM
    rw [q_tlM (by omega), decide_eq_false (by omega : ¬ 40 ≤ 20 * m + k)]
    rfl
def mlC : List (Nat × Nat) := [(11, 0), (11, 6), (1205, 999), (3, 999), (402, 999), (403, 999), (10, 999), (1106, 999), (5, 1), (5, 2), (5, 3), (5, 4), (5, 5), (5, 6), (5, 7), (5, 8)]
def mlM : List (Nat × Nat) := [(12, 0), (12, 1), (12, 8), (12, 9), (12, 10), (12, 11), (12, 12), (12, 13), (12, 14), (12, 15), (12, 16), (12, 17), (12, 18), (12, 19), (12, 27), (12, 28), (1320, 999), (1321, 999), (1322, 999), (1323, 999), (1324, 999), (1325, 999), (1326, 999)]
theorem zC_f {a : Nat} {σ τ : am_H} (h : qz (zC a) σ τ) : qf mlC σ τ := fun k i j hl => h k i j (by
  unfold qf_in mlC at hl
  unfold zC qf_in tlC
  simp at hl ⊢
  omega)
theorem zM_f {σ τ : am_H} (h : qz zM σ τ) : qf mlM σ τ := fun k i j hl => h k i j (by
  unfold qf_in mlM at hl
  unfold zM qf_in tlM
  simp at hl ⊢
  omega)
