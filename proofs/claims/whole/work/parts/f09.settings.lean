/-! ===== MACHINE: SIZE and AT ===== -/
theorem pw_C.s {σ : am_H} {R : Nat} {w : Nat → Int} {v : Int} (C : pw_C σ R w) : pw_C (am_wI σ 10 R 3 (Int32.ofInt v)) R (up w 2 v) := by
  obtain ⟨c1, c2, c3, c4, c5, c6, c7, c8⟩ := C
  refine ⟨by simp [am_wI, am_u3, up]; exact c1, by simp [am_wI, am_u3, up]; exact c2, by simp [am_wI, am_u3, up], by simp [am_wI, am_u3, up]; exact c4, by simp [am_wI, am_u3, up]; exact c5, fun k hk => ?_, c7, c8⟩
  rw [show up w 2 v (5 + k) = w (5 + k) by unfold up; rw [if_neg (by omega)]]
  exact c6 k hk
theorem mn_1 {σ1 σ2 : am_H} {n : Nat} {b : Nat → Int} {s p e R c : Nat} {w : Nat → Int} (hc : c < 6) (h : tk σ1 σ2 n b s p e) (g : gd σ2) (W : wv σ1 σ2 R c w) : (∃ (τ1 τ2 : am_H) (s' p' e' : Nat) (w' : Nat → Int), f_X3_readsNumber R (Int32.ofInt 1) σ1 = some (true, τ1) ∧ (∀ v1 v2 : Int32, f_X12_readWave_283 v1 v2 (Int32.ofInt (54 * 2 + 9 * (c : Int) + 2)) (Int32.ofInt 99) σ2 = some (.inl (v2, τ2))) ∧ tk τ1 τ2 n b s' p' e' ∧ gd τ2 ∧ p < p' ∧ wv τ1 τ2 R c w' ∧ qz (zW R) σ1 τ1 ∧ qz (zV c) σ2 τ2) ∨ (∃ τ1 τ2 : am_H, f_X3_readsNumber R (Int32.ofInt 1) σ1 = some (false, τ1) ∧ (∀ v1 v2 : Int32, f_X12_readWave_283 v1 v2 (Int32.ofInt (54 * 2 + 9 * (c : Int) + 2)) (Int32.ofInt 99) σ2 = some (.inl (v2, τ2))) ∧ oN (zW R) (zV c) σ1 σ2 τ1 τ2) := by
  obtain ⟨Cw, Mw, ok, tr⟩ := W
  obtain ⟨ok0, ok1, ok2, ok3, ok4, ok5, ok6, ok7, ok8⟩ := id ok
  have ii : (54 * 2 + 9 * (c : Int) + 2).toNat = 108 + 9 * c + 2 := by omega
  rcases tk_num2 h g (lo := 0) (hi := 99) (by omega) (by omega) with ⟨v, s2, vb, k6, a1, a2, a3⟩ | ⟨q, qb, a1, a2, a3⟩
  · left
    have Q1 : qf [(10, 3)] σ1 (am_wI σ1 10 R 3 (Int32.ofInt v)) := qf.rf.wI rfl
    obtain ⟨τ1, τ2, s', p', e', b1, b2, b3, b4, b5, b6, b7, b8⟩ := a3 _ (h.q Q1 (by decide +kernel) (qf.rf (l := [])) (by decide +kernel))
    have Q2 : qf [(1324, 999)] τ2 (am_wI τ2 1324 0 (108 + 9 * c + 2) (Int32.ofInt v)) := qf.rf.wI rfl
    refine ⟨τ1, am_wI τ2 1324 0 (108 + 9 * c + 2) (Int32.ofInt v), s', p', e', up w 2 v, ?_, fun v1 v2 => ?_, b4.q (qf.rf (l := [])) (by decide +kernel) Q2 (by decide +kernel), b5, b6, ⟨sw_C b7 (by decide +kernel) (Cw.s (v := v)), (sw_M b8 (by decide +kernel) Mw).w (by omega), ?_, fun k hk => by rw [show up w 2 v (5 + k) = w (5 + k) by unfold up; rw [if_neg (by omega)]]; exact tr k hk⟩, (qz.rf.wI zW_w.1).tr (b7.z (fun _ _ _ => zW_t)), (b8.z (fun _ _ _ => zV_t)).wI (zV_w (by omega))⟩
    · simp (disch := omega) only [f_X3_readsNumber, f_X3_readsNumber_14, f_X3_readsNumber_46, a1, k6, b1, Option.bind_some, qi, ql, qI_lt, qI_le, qI_eq, qI_L, qI_ix, qL_lt, qL_eq, q_nat, q_cs, ← Int32.ofInt_add, ← Int32.ofInt_sub, ← Int32.ofInt_mul, ← Int32.ofInt_neg, ← Int64.ofInt_add, ← Int64.ofInt_sub, ← Int64.ofInt_mul, ← Int64.ofInt_neg, pL_I, q_mx, q_mn, q_ab, q_abL, q_mnL, q_nn0, q_nn1, q_rr, q_b1, q_b0, q_T, q_F, q_iT, q_iF, q_d, q_in, q_wi, q_hC, q_hM, pT_i, pU_i, pS_i, pS_j, pS_0, Sum.elim_inl, Sum.elim_inr, if_pos, if_neg]
    · simp (disch := omega) only [f_X12_readWave_283, b2, ii, Option.bind_some, qi, ql, qI_lt, qI_le, qI_eq, qI_L, qI_ix, qL_lt, qL_eq, q_nat, q_cs, ← Int32.ofInt_add, ← Int32.ofInt_sub, ← Int32.ofInt_mul, ← Int32.ofInt_neg, ← Int64.ofInt_add, ← Int64.ofInt_sub, ← Int64.ofInt_mul, ← Int64.ofInt_neg, pL_I, q_mx, q_mn, q_ab, q_abL, q_mnL, q_nn0, q_nn1, q_rr, q_b1, q_b0, q_T, q_F, q_iT, q_iF, q_d, q_in, q_wi, q_hC, q_hM, pT_i, pU_i, pS_i, pS_j, pS_0, Sum.elim_inl, Sum.elim_inr, if_pos, if_neg]
    · exact ⟨ok0, ok1, vb, ok3, ok4, ok5, ok6, ok7, ok8⟩
  · right
    refine ⟨FC σ1 q p, am_wI (FM σ2 q p) 1324 0 (108 + 9 * c + 2) (Int32.ofInt 0), ?_, fun v1 v2 => ?_, ⟨q, p, FC_f, ⟨qb, rfl, rfl⟩⟩, FC_q.z (fun _ _ _ => zW_t), (FM_q.z (fun _ _ _ => zV_t)).wI (zV_w (by omega))⟩
    · simp (disch := omega) only [f_X3_readsNumber, f_X3_readsNumber_14, a1, Option.bind_some, qi, ql, qI_lt, qI_le, qI_eq, qI_L, qI_ix, qL_lt, qL_eq, q_nat, q_cs, ← Int32.ofInt_add, ← Int32.ofInt_sub, ← Int32.ofInt_mul, ← Int32.ofInt_neg, ← Int64.ofInt_add, ← Int64.ofInt_sub, ← Int64.ofInt_mul, ← Int64.ofInt_neg, pL_I, q_mx, q_mn, q_ab, q_abL, q_mnL, q_nn0, q_nn1, q_rr, q_b1, q_b0, q_T, q_F, q_iT, q_iF, q_d, q_in, q_wi, q_hC, q_hM, pT_i, pU_i, pS_i, pS_j, pS_0, Sum.elim_inl, Sum.elim_inr, if_pos, if_neg]
    · simp (disch := omega) only [f_X12_readWave_283, a3, ii, Option.bind_some, qi, ql, qI_lt, qI_le, qI_eq, qI_L, qI_ix, qL_lt, qL_eq, q_nat, q_cs, ← Int32.ofInt_add, ← Int32.ofInt_sub, ← Int32.ofInt_mul, ← Int32.ofInt_neg, ← Int64.ofInt_add, ← Int64.ofInt_sub, ← Int64.ofInt_mul, ← Int64.ofInt_neg, pL_I, q_mx, q_mn, q_ab, q_abL, q_mnL, q_nn0, q_nn1, q_rr, q_b1, q_b0, q_T, q_F, q_iT, q_iF, q_d, q_in, q_wi, q_hC, q_hM, pT_i, pU_i, pS_i, pS_j, pS_0, Sum.elim_inl, Sum.elim_inr, if_pos, if_neg]
theorem pw_C.a {σ : am_H} {R : Nat} {w : Nat → Int} {v : Int} (C : pw_C σ R w) : pw_C (am_wI σ 10 R 4 (Int32.ofInt v)) R (up w 3 v) := by
  obtain ⟨c1, c2, c3, c4, c5, c6, c7, c8⟩ := C
  refine ⟨by simp [am_wI, am_u3, up]; exact c1, by simp [am_wI, am_u3, up]; exact c2, by simp [am_wI, am_u3, up]; exact c3, by simp [am_wI, am_u3, up], by simp [am_wI, am_u3, up]; exact c5, fun k hk => ?_, c7, c8⟩
  rw [show up w 3 v (5 + k) = w (5 + k) by unfold up; rw [if_neg (by omega)]]
  exact c6 k hk
theorem mn_2 {σ1 σ2 : am_H} {n : Nat} {b : Nat → Int} {s p e R c : Nat} {w : Nat → Int} (hc : c < 6) (h : tk σ1 σ2 n b s p e) (g : gd σ2) (W : wv σ1 σ2 R c w) : (∃ (τ1 τ2 : am_H) (s' p' e' : Nat) (w' : Nat → Int), f_X3_readsNumber R (Int32.ofInt 2) σ1 = some (true, τ1) ∧ (∀ v1 v2 : Int32, f_X12_readWave_283 v1 v2 (Int32.ofInt (54 * 2 + 9 * (c : Int) + 3)) (Int32.ofInt 23) σ2 = some (.inl (v2, τ2))) ∧ tk τ1 τ2 n b s' p' e' ∧ gd τ2 ∧ p < p' ∧ wv τ1 τ2 R c w' ∧ qz (zW R) σ1 τ1 ∧ qz (zV c) σ2 τ2) ∨ (∃ τ1 τ2 : am_H, f_X3_readsNumber R (Int32.ofInt 2) σ1 = some (false, τ1) ∧ (∀ v1 v2 : Int32, f_X12_readWave_283 v1 v2 (Int32.ofInt (54 * 2 + 9 * (c : Int) + 3)) (Int32.ofInt 23) σ2 = some (.inl (v2, τ2))) ∧ oN (zW R) (zV c) σ1 σ2 τ1 τ2) := by
  obtain ⟨Cw, Mw, ok, tr⟩ := W
  obtain ⟨ok0, ok1, ok2, ok3, ok4, ok5, ok6, ok7, ok8⟩ := id ok
  have ii : (54 * 2 + 9 * (c : Int) + 3).toNat = 108 + 9 * c + 3 := by omega
  rcases tk_num2 h g (lo := 0) (hi := 23) (by omega) (by omega) with ⟨v, s2, vb, k6, a1, a2, a3⟩ | ⟨q, qb, a1, a2, a3⟩
  · left
    have Q1 : qf [(10, 4)] σ1 (am_wI σ1 10 R 4 (Int32.ofInt v)) := qf.rf.wI rfl
    obtain ⟨τ1, τ2, s', p', e', b1, b2, b3, b4, b5, b6, b7, b8⟩ := a3 _ (h.q Q1 (by decide +kernel) (qf.rf (l := [])) (by decide +kernel))
    have Q2 : qf [(1324, 999)] τ2 (am_wI τ2 1324 0 (108 + 9 * c + 3) (Int32.ofInt v)) := qf.rf.wI rfl
    refine ⟨τ1, am_wI τ2 1324 0 (108 + 9 * c + 3) (Int32.ofInt v), s', p', e', up w 3 v, ?_, fun v1 v2 => ?_, b4.q (qf.rf (l := [])) (by decide +kernel) Q2 (by decide +kernel), b5, b6, ⟨sw_C b7 (by decide +kernel) (Cw.a (v := v)), (sw_M b8 (by decide +kernel) Mw).w (by omega), ?_, fun k hk => by rw [show up w 3 v (5 + k) = w (5 + k) by unfold up; rw [if_neg (by omega)]]; exact tr k hk⟩, (qz.rf.wI zW_w.1).tr (b7.z (fun _ _ _ => zW_t)), (b8.z (fun _ _ _ => zV_t)).wI (zV_w (by omega))⟩
    · simp (disch := omega) only [f_X3_readsNumber, f_X3_readsNumber_14, f_X3_readsNumber_46, a1, k6, b1, Option.bind_some, qi, ql, qI_lt, qI_le, qI_eq, qI_L, qI_ix, qL_lt, qL_eq, q_nat, q_cs, ← Int32.ofInt_add, ← Int32.ofInt_sub, ← Int32.ofInt_mul, ← Int32.ofInt_neg, ← Int64.ofInt_add, ← Int64.ofInt_sub, ← Int64.ofInt_mul, ← Int64.ofInt_neg, pL_I, q_mx, q_mn, q_ab, q_abL, q_mnL, q_nn0, q_nn1, q_rr, q_b1, q_b0, q_T, q_F, q_iT, q_iF, q_d, q_in, q_wi, q_hC, q_hM, pT_i, pU_i, pS_i, pS_j, pS_0, Sum.elim_inl, Sum.elim_inr, if_pos, if_neg]
    · simp (disch := omega) only [f_X12_readWave_283, b2, ii, Option.bind_some, qi, ql, qI_lt, qI_le, qI_eq, qI_L, qI_ix, qL_lt, qL_eq, q_nat, q_cs, ← Int32.ofInt_add, ← Int32.ofInt_sub, ← Int32.ofInt_mul, ← Int32.ofInt_neg, ← Int64.ofInt_add, ← Int64.ofInt_sub, ← Int64.ofInt_mul, ← Int64.ofInt_neg, pL_I, q_mx, q_mn, q_ab, q_abL, q_mnL, q_nn0, q_nn1, q_rr, q_b1, q_b0, q_T, q_F, q_iT, q_iF, q_d, q_in, q_wi, q_hC, q_hM, pT_i, pU_i, pS_i, pS_j, pS_0, Sum.elim_inl, Sum.elim_inr, if_pos, if_neg]
    · exact ⟨ok0, ok1, ok2, vb, ok4, ok5, ok6, ok7, ok8⟩
  · right
    refine ⟨FC σ1 q p, am_wI (FM σ2 q p) 1324 0 (108 + 9 * c + 3) (Int32.ofInt 0), ?_, fun v1 v2 => ?_, ⟨q, p, FC_f, ⟨qb, rfl, rfl⟩⟩, FC_q.z (fun _ _ _ => zW_t), (FM_q.z (fun _ _ _ => zV_t)).wI (zV_w (by omega))⟩
    · simp (disch := omega) only [f_X3_readsNumber, f_X3_readsNumber_14, a1, Option.bind_some, qi, ql, qI_lt, qI_le, qI_eq, qI_L, qI_ix, qL_lt, qL_eq, q_nat, q_cs, ← Int32.ofInt_add, ← Int32.ofInt_sub, ← Int32.ofInt_mul, ← Int32.ofInt_neg, ← Int64.ofInt_add, ← Int64.ofInt_sub, ← Int64.ofInt_mul, ← Int64.ofInt_neg, pL_I, q_mx, q_mn, q_ab, q_abL, q_mnL, q_nn0, q_nn1, q_rr, q_b1, q_b0, q_T, q_F, q_iT, q_iF, q_d, q_in, q_wi, q_hC, q_hM, pT_i, pU_i, pS_i, pS_j, pS_0, Sum.elim_inl, Sum.elim_inr, if_pos, if_neg]
    · simp (disch := omega) only [f_X12_readWave_283, a3, ii, Option.bind_some, qi, ql, qI_lt, qI_le, qI_eq, qI_L, qI_ix, qL_lt, qL_eq, q_nat, q_cs, ← Int32.ofInt_add, ← Int32.ofInt_sub, ← Int32.ofInt_mul, ← Int32.ofInt_neg, ← Int64.ofInt_add, ← Int64.ofInt_sub, ← Int64.ofInt_mul, ← Int64.ofInt_neg, pL_I, q_mx, q_mn, q_ab, q_abL, q_mnL, q_nn0, q_nn1, q_rr, q_b1, q_b0, q_T, q_F, q_iT, q_iF, q_d, q_in, q_wi, q_hC, q_hM, pT_i, pU_i, pS_i, pS_j, pS_0, Sum.elim_inl, Sum.elim_inr, if_pos, if_neg]
/-! ===== MACHINE: all SETTINGS of a WAVE ===== -/
theorem tbs_1 : ∀ t : Fin 8, ∀ i : Fin 3, (Int32.ofInt (t.val : Int)) &&& Int32.ofInt ((2 ^ i.val : Nat) : Int) = Int32.ofInt (if t.val.testBit i.val = true then ((2 ^ i.val : Nat) : Int) else 0) ∧ (((Int32.ofInt (t.val : Int)) >>> ((Int32.ofInt (i.val : Int)) &&& Int32.ofInt 31)) &&& Int32.ofInt 1) = Int32.ofInt (if t.val.testBit i.val = true then 1 else 0) ∧ (Int32.ofInt (t.val : Int)) ||| Int32.ofInt ((2 ^ i.val : Nat) : Int) = Int32.ofInt ((t.val ||| 2 ^ i.val : Nat) : Int) ∧ (Int32.ofInt (t.val : Int)) ||| (Int32.ofInt 1 <<< ((Int32.ofInt (i.val : Int)) &&& Int32.ofInt 31)) = Int32.ofInt ((t.val ||| 2 ^ i.val : Nat) : Int) ∧ (t.val ||| 2 ^ i.val) < 8 := by decide +kernel
theorem bd_304 {σ : am_H} {k : Int} {p : Nat} (h : bd σ k p) (v : Bool) : f_X12_readWave_304 v σ = some σ := by
  have e := bd_must h v
  obtain ⟨h1, h2, h3⟩ := h
  simp (disch := omega) only [f_X12_readWave_304, e, h2, Option.bind_some, qi, ql, qI_lt, qI_le, qI_eq, qI_L, qI_ix, qL_lt, qL_eq, q_nat, q_cs, ← Int32.ofInt_add, ← Int32.ofInt_sub, ← Int32.ofInt_mul, ← Int32.ofInt_neg, ← Int64.ofInt_add, ← Int64.ofInt_sub, ← Int64.ofInt_mul, ← Int64.ofInt_neg, pL_I, q_mx, q_mn, q_ab, q_abL, q_mnL, q_nn0, q_nn1, q_rr, q_b1, q_b0, q_T, q_F, q_iT, q_iF, q_d, q_in, q_wi, q_hC, q_hM, pT_i, pU_i, pS_i, pS_j, pS_0, Sum.elim_inl, Sum.elim_inr, if_pos, if_neg]
noncomputable def msC (R : Nat) (t j : Int32) (σ : am_H) : Option (Bool × am_H) := (am_loop (fun s : Int32 × Int32 × am_H => f_X3_readsSettings_4 R s.1 s.2.1 s.2.2) (t, j, σ)).bind fun w1 => Sum.elim (fun t1_0 => (f_X5_takesSign t1_0).bind fun p2 => some (p2.1, p2.2)) (fun u1_0 => Sum.elim (fun t1_1 => (f_X5_refuse 5 t1_1).bind fun p3 => some (p3.1, p3.2)) (fun u1_1 => Sum.elim (fun t1_2 => some (false, t1_2)) (fun u1_2 => (f_X5_refuse 2 u1_2).bind fun p4 => some (p4.1, p4.2)) u1_1) u1_0) w1
noncomputable def msM (c : Int32) (t : Int32) (σ : am_H) : Option am_H := (am_loop (fun s : Int32 × am_H => f_X12_readWave_189 c s.1 s.2) (t, σ)).bind fun w19 => Sum.elim (fun t19_0 => some t19_0) (fun u19_0 => if (u19_0.1 12 0 14) = 3 then f_X12_readWave_304 true u19_0 else f_X12_readWave_304 false u19_0) w19
theorem msM_bd {σ : am_H} {k : Int} {p : Nat} (h : bd σ k p) (c t : Int32) : msM c t σ = some σ := by
  have h2 := h.2.1
  have h1 := h.1
  have lp : am_loop (fun s : Int32 × am_H => f_X12_readWave_189 c s.1 s.2) (t, σ) = some (.inr σ) := am_loop_out (by simp (disch := omega) only [f_X12_readWave_189, h2, Option.bind_some, qi, ql, qI_lt, qI_le, qI_eq, qI_L, qI_ix, qL_lt, qL_eq, q_nat, q_cs, ← Int32.ofInt_add, ← Int32.ofInt_sub, ← Int32.ofInt_mul, ← Int32.ofInt_neg, ← Int64.ofInt_add, ← Int64.ofInt_sub, ← Int64.ofInt_mul, ← Int64.ofInt_neg, pL_I, q_mx, q_mn, q_ab, q_abL, q_mnL, q_nn0, q_nn1, q_rr, q_b1, q_b0, q_T, q_F, q_iT, q_iF, q_d, q_in, q_wi, q_hC, q_hM, pT_i, pU_i, pS_i, pS_j, pS_0, Sum.elim_inl, Sum.elim_inr, if_pos, if_neg])
  unfold msM
  rw [lp, Option.bind_some]
  show (if (σ.1 12 0 14) = 3 then f_X12_readWave_304 true σ else f_X12_readWave_304 false σ) = some σ
  rw [bd_304 h, bd_304 h]
  split <;> rfl
set_option maxHeartbeats 1000000 in
theorem mt_settings {n : Nat} {b : Nat → Int} {R c : Nat} (hc : c < 6) : ∀ (f : Nat) (σ1 σ2 : am_H) (s p e : Nat) (w : Nat → Int) (t j : Nat), n < p + f → tk σ1 σ2 n b s p e → gd σ2 → wv σ1 σ2 R c w → t < 8 → j ≤ p → (∃ (τ1 τ2 : am_H) (s' p' e' : Nat) (w' : Nat → Int), msC R (Int32.ofInt (t : Int)) (Int32.ofInt (j : Int)) σ1 = some (true, τ1) ∧ msM (Int32.ofInt (c : Int)) (Int32.ofInt (t : Int)) σ2 = some (am_wI τ2 1320 0 2 (τ2.1 1320 0 2 + Int32.ofInt 1)) ∧ tk τ1 τ2 n b s' p' e' ∧ gd τ2 ∧ p < p' ∧ wv τ1 τ2 R c w' ∧ qz (zW R) σ1 τ1 ∧ qz (zV c) σ2 τ2) ∨ (∃ τ1 τ2 : am_H, msC R (Int32.ofInt (t : Int)) (Int32.ofInt (j : Int)) σ1 = some (false, τ1) ∧ msM (Int32.ofInt (c : Int)) (Int32.ofInt (t : Int)) σ2 = some τ2 ∧ oN (zW R) (zV c) σ1 σ2 τ1 τ2) := by
  intro f
  induction f with
  | zero =>
    intro σ1 σ2 s p e w t j hf h
    have := h.2.2.2.2.1
    omega
  | succ f ih =>
    intro σ1 σ2 s p e w t j hf h g W ht hj
    have g' : σ2.1 12 0 12 = Int32.ofInt 0 := g
    have hn := h.1.1
    have pn := h.2.2.2.2.1
    have m15 := h.2.2.2.1.2.1
    obtain ⟨sc', si, hcase, S1, S2⟩ := tk_set h
    have T := fun i : Fin 3 => tbs_1 ⟨t, ht⟩ i
    rcases hcase with ⟨rfl, rfl, -⟩ | ⟨rfl, rfl, s1, -⟩ | ⟨rfl, rfl, s1, -⟩ | ⟨rfl, rfl, s1, -⟩
    · -- no SETTING: the SIGN
      have S1' : f_X3_settingOf σ1 = some (Int32.ofInt 0) := S1
      have lC : am_loop (fun s : Int32 × Int32 × am_H => f_X3_readsSettings_4 R s.1 s.2.1 s.2.2) (Int32.ofInt (t : Int), Int32.ofInt (j : Int), σ1) = some (.inl σ1) := am_loop_out (by simp (disch := omega) only [f_X3_readsSettings_4, S1', Option.bind_some, qi, ql, qI_lt, qI_le, qI_eq, qI_L, qI_ix, qL_lt, qL_eq, q_nat, q_cs, ← Int32.ofInt_add, ← Int32.ofInt_sub, ← Int32.ofInt_mul, ← Int32.ofInt_neg, ← Int64.ofInt_add, ← Int64.ofInt_sub, ← Int64.ofInt_mul, ← Int64.ofInt_neg, pL_I, q_mx, q_mn, q_ab, q_abL, q_mnL, q_nn0, q_nn1, q_rr, q_b1, q_b0, q_T, q_F, q_iT, q_iF, q_d, q_in, q_wi, q_hC, q_hM, pT_i, pU_i, pS_i, pS_j, pS_0, Sum.elim_inl, Sum.elim_inr, if_pos, if_neg])
      have lM : am_loop (fun s : Int32 × am_H => f_X12_readWave_189 (Int32.ofInt (c : Int)) s.1 s.2) (Int32.ofInt (t : Int), σ2) = some (.inr σ2) := am_loop_out (by simp (disch := omega) only [f_X12_readWave_189, g', S2, Option.bind_some, qi, ql, qI_lt, qI_le, qI_eq, qI_L, qI_ix, qL_lt, qL_eq, q_nat, q_cs, ← Int32.ofInt_add, ← Int32.ofInt_sub, ← Int32.ofInt_mul, ← Int32.ofInt_neg, ← Int64.ofInt_add, ← Int64.ofInt_sub, ← Int64.ofInt_mul, ← Int64.ofInt_neg, pL_I, q_mx, q_mn, q_ab, q_abL, q_mnL, q_nn0, q_nn1, q_rr, q_b1, q_b0, q_T, q_F, q_iT, q_iF, q_d, q_in, q_wi, q_hC, q_hM, pT_i, pU_i, pS_i, pS_j, pS_0, Sum.elim_inl, Sum.elim_inr, if_pos, if_neg])
      have m14 := h.2.2.2.1.1
      have s4 := h.2.2.2.2.2.1
      have z2 : (2 : Int).toNat = 2 := rfl
      rcases tk_sign h g with ⟨c3, τ1, τ2, s', p', e', a1, a2, a3, a4, a5, a6, a7⟩ | ⟨c3, q, qb, a1, a2⟩
      · left
        have a4' : τ2.1 12 0 12 = Int32.ofInt 0 := a4
        refine ⟨τ1, τ2, s', p', e', w, ?_, ?_, a3, a4, a5, ⟨sw_C a6 (by decide +kernel) W.1, sw_M a7 (by decide +kernel) W.2.1, W.2.2⟩, a6.z (fun _ _ _ => zW_t), a7.z (fun _ _ _ => zV_t)⟩
        · unfold msC
          rw [lC]
          simp (disch := omega) only [a1, Option.bind_some, qi, ql, qI_lt, qI_le, qI_eq, qI_L, qI_ix, qL_lt, qL_eq, q_nat, q_cs, ← Int32.ofInt_add, ← Int32.ofInt_sub, ← Int32.ofInt_mul, ← Int32.ofInt_neg, ← Int64.ofInt_add, ← Int64.ofInt_sub, ← Int64.ofInt_mul, ← Int64.ofInt_neg, pL_I, q_mx, q_mn, q_ab, q_abL, q_mnL, q_nn0, q_nn1, q_rr, q_b1, q_b0, q_T, q_F, q_iT, q_iF, q_d, q_in, q_wi, q_hC, q_hM, pT_i, pU_i, pS_i, pS_j, pS_0, Sum.elim_inl, Sum.elim_inr, if_pos, if_neg]
        · unfold msM
          rw [lM]
          simp (disch := omega) only [m14, f_X12_readWave_304, a2, a4', z2, Option.bind_some, qi, ql, qI_lt, qI_le, qI_eq, qI_L, qI_ix, qL_lt, qL_eq, q_nat, q_cs, ← Int32.ofInt_add, ← Int32.ofInt_sub, ← Int32.ofInt_mul, ← Int32.ofInt_neg, ← Int64.ofInt_add, ← Int64.ofInt_sub, ← Int64.ofInt_mul, ← Int64.ofInt_neg, pL_I, q_mx, q_mn, q_ab, q_abL, q_mnL, q_nn0, q_nn1, q_rr, q_b1, q_b0, q_T, q_F, q_iT, q_iF, q_d, q_in, q_wi, q_hC, q_hM, pT_i, pU_i, pS_i, pS_j, pS_0, Sum.elim_inl, Sum.elim_inr, if_pos, if_neg]
      · right
        have B : bd (FM σ2 q p) q p := FM_b qb
        have b12 := B.2.1
        refine ⟨FC σ1 q p, FM σ2 q p, ?_, ?_, ⟨q, p, FC_f, B⟩, FC_q.z (fun _ _ _ => zW_t), FM_q.z (fun _ _ _ => zV_t)⟩
        · unfold msC
          rw [lC]
          simp (disch := omega) only [a1, Option.bind_some, qi, ql, qI_lt, qI_le, qI_eq, qI_L, qI_ix, qL_lt, qL_eq, q_nat, q_cs, ← Int32.ofInt_add, ← Int32.ofInt_sub, ← Int32.ofInt_mul, ← Int32.ofInt_neg, ← Int64.ofInt_add, ← Int64.ofInt_sub, ← Int64.ofInt_mul, ← Int64.ofInt_neg, pL_I, q_mx, q_mn, q_ab, q_abL, q_mnL, q_nn0, q_nn1, q_rr, q_b1, q_b0, q_T, q_F, q_iT, q_iF, q_d, q_in, q_wi, q_hC, q_hM, pT_i, pU_i, pS_i, pS_j, pS_0, Sum.elim_inl, Sum.elim_inr, if_pos, if_neg]
        · unfold msM
          rw [lM]
          simp (disch := omega) only [m14, f_X12_readWave_304, a2, b12, Option.bind_some, qi, ql, qI_lt, qI_le, qI_eq, qI_L, qI_ix, qL_lt, qL_eq, q_nat, q_cs, ← Int32.ofInt_add, ← Int32.ofInt_sub, ← Int32.ofInt_mul, ← Int32.ofInt_neg, ← Int64.ofInt_add, ← Int64.ofInt_sub, ← Int64.ofInt_mul, ← Int64.ofInt_neg, pL_I, q_mx, q_mn, q_ab, q_abL, q_mnL, q_nn0, q_nn1, q_rr, q_b1, q_b0, q_T, q_F, q_iT, q_iF, q_d, q_in, q_wi, q_hC, q_hM, pT_i, pU_i, pS_i, pS_j, pS_0, Sum.elim_inl, Sum.elim_inr, if_pos, if_neg]
    · -- SETTING 0
      obtain ⟨T1, T2, T3, T4, T5⟩ := T ⟨0, by omega⟩
      simp only at T1 T2 T3 T4 T5
      have S1' : f_X3_settingOf σ1 = some (Int32.ofInt 1) := S1
      have T1' : Int32.ofInt (t : Int) &&& Int32.ofInt 1 = Int32.ofInt (if t.testBit 0 = true then 1 else 0) := T1
      have T2' : ((Int32.ofInt (t : Int) >>> (Int32.ofInt 0 &&& Int32.ofInt 31)) &&& Int32.ofInt 1) = Int32.ofInt (if t.testBit 0 = true then 1 else 0) := T2
      have T3' : Int32.ofInt (t : Int) ||| Int32.ofInt 1 = Int32.ofInt ((t ||| 2 ^ 0 : Nat) : Int) := T3
      have T4' : Int32.ofInt (t : Int) ||| (Int32.ofInt 1 <<< (Int32.ofInt 0 &&& Int32.ofInt 31)) = Int32.ofInt ((t ||| 2 ^ 0 : Nat) : Int) := T4
      by_cases ct : t.testBit 0 = true
      · right
        rw [if_pos ct] at T1' T2'
        have lC : am_loop (fun s : Int32 × Int32 × am_H => f_X3_readsSettings_4 R s.1 s.2.1 s.2.2) (Int32.ofInt (t : Int), Int32.ofInt (j : Int), σ1) = some (.inr (.inl σ1)) := am_loop_out (by simp (disch := omega) only [f_X3_readsSettings_4, S1', T1', Option.bind_some, qi, ql, qI_lt, qI_le, qI_eq, qI_L, qI_ix, qL_lt, qL_eq, q_nat, q_cs, ← Int32.ofInt_add, ← Int32.ofInt_sub, ← Int32.ofInt_mul, ← Int32.ofInt_neg, ← Int64.ofInt_add, ← Int64.ofInt_sub, ← Int64.ofInt_mul, ← Int64.ofInt_neg, pL_I, q_mx, q_mn, q_ab, q_abL, q_mnL, q_nn0, q_nn1, q_rr, q_b1, q_b0, q_T, q_F, q_iT, q_iF, q_d, q_in, q_wi, q_hC, q_hM, pT_i, pU_i, pS_i, pS_j, pS_0, Sum.elim_inl, Sum.elim_inr, if_pos, if_neg])
        have B : bd (FM σ2 5 p) 5 p := FM_b (by omega)
        have b12 := B.2.1
        have f5 : f_X12_fail (Int32.ofInt 5) (Int32.ofInt (p : Int)) σ2 = some (FM σ2 5 p) := gd_fail g _ _
        have lM : am_loop (fun s : Int32 × am_H => f_X12_readWave_189 (Int32.ofInt (c : Int)) s.1 s.2) (Int32.ofInt (t : Int), σ2) = some (.inl (FM σ2 5 p)) := am_loop_out (by simp (disch := omega) only [f_X12_readWave_189, f_X12_readWave_226, g', S2, T2', m15, f5, b12, Option.bind_some, qi, ql, qI_lt, qI_le, qI_eq, qI_L, qI_ix, qL_lt, qL_eq, q_nat, q_cs, ← Int32.ofInt_add, ← Int32.ofInt_sub, ← Int32.ofInt_mul, ← Int32.ofInt_neg, ← Int64.ofInt_add, ← Int64.ofInt_sub, ← Int64.ofInt_mul, ← Int64.ofInt_neg, pL_I, q_mx, q_mn, q_ab, q_abL, q_mnL, q_nn0, q_nn1, q_rr, q_b1, q_b0, q_T, q_F, q_iT, q_iF, q_d, q_in, q_wi, q_hC, q_hM, pT_i, pU_i, pS_i, pS_j, pS_0, Sum.elim_inl, Sum.elim_inr, if_pos, if_neg])
        have rf := tk_refuse h 5
        rw [if_neg (by omega)] at rf
        refine ⟨FC σ1 5 p, FM σ2 5 p, ?_, ?_, ⟨5, p, FC_f, B⟩, FC_q.z (fun _ _ _ => zW_t), FM_q.z (fun _ _ _ => zV_t)⟩
        · unfold msC
          rw [lC]
          simp (disch := omega) only [rf, Option.bind_some, qi, ql, qI_lt, qI_le, qI_eq, qI_L, qI_ix, qL_lt, qL_eq, q_nat, q_cs, ← Int32.ofInt_add, ← Int32.ofInt_sub, ← Int32.ofInt_mul, ← Int32.ofInt_neg, ← Int64.ofInt_add, ← Int64.ofInt_sub, ← Int64.ofInt_mul, ← Int64.ofInt_neg, pL_I, q_mx, q_mn, q_ab, q_abL, q_mnL, q_nn0, q_nn1, q_rr, q_b1, q_b0, q_T, q_F, q_iT, q_iF, q_d, q_in, q_wi, q_hC, q_hM, pT_i, pU_i, pS_i, pS_j, pS_0, Sum.elim_inl, Sum.elim_inr, if_pos, if_neg]
        · unfold msM
          rw [lM]
          rfl
      · rw [if_neg ct] at T1' T2'
        obtain ⟨ρ1, ρ2, sn, q, en, a1, a2, a3, a4, a5, a6⟩ := tk_next h (Or.inl s1)
        have gr : gd ρ2 := ((a6 12 0 12 rfl).1).trans g
        have pe := (h.2.2.2.2.2.2.1 (Or.inl s1)).1
        have Wr : wv ρ1 ρ2 R c w := ⟨sw_C a5 (by decide +kernel) W.1, sw_M a6 (by decide +kernel) W.2.1, W.2.2⟩
        have Z0 : qz (zW R) σ1 ρ1 := (a5.mo (by decide)).z (l := tlC) (fun _ _ _ => zW_t)
        have Y0 : qz (zV c) σ2 ρ2 := (a6.mo (by decide)).z (l := tlM) (fun _ _ _ => zV_t)
        rcases mn_1 hc a3 gr Wr with ⟨τ1, τ2, s', p', e', w', b1, b2, b3, b4, b5, b6, b7, b8⟩ | ⟨τ1, τ2, b1, b2, b3, b7, b8⟩
        · have lC : f_X3_readsSettings_4 R (Int32.ofInt (t : Int)) (Int32.ofInt (j : Int)) σ1 = some (.inl (Int32.ofInt ((t ||| 2 ^ 0 : Nat) : Int), Int32.ofInt ((j : Int) + 1), τ1)) := by
            simp (disch := omega) only [f_X3_readsSettings_4, f_X3_readsSettings_70, S1', T1', a1, b1, T3', Option.bind_some, qi, ql, qI_lt, qI_le, qI_eq, qI_L, qI_ix, qL_lt, qL_eq, q_nat, q_cs, ← Int32.ofInt_add, ← Int32.ofInt_sub, ← Int32.ofInt_mul, ← Int32.ofInt_neg, ← Int64.ofInt_add, ← Int64.ofInt_sub, ← Int64.ofInt_mul, ← Int64.ofInt_neg, pL_I, q_mx, q_mn, q_ab, q_abL, q_mnL, q_nn0, q_nn1, q_rr, q_b1, q_b0, q_T, q_F, q_iT, q_iF, q_d, q_in, q_wi, q_hC, q_hM, pT_i, pU_i, pS_i, pS_j, pS_0, Sum.elim_inl, Sum.elim_inr, if_pos, if_neg]
          have lM : f_X12_readWave_189 (Int32.ofInt (c : Int)) (Int32.ofInt (t : Int)) σ2 = some (.inl (Int32.ofInt ((t ||| 2 ^ 0 : Nat) : Int), τ2)) := by
            have e2i : (54 * 2 + 9 * (c : Int) + (2 + 0)) = 54 * 2 + 9 * (c : Int) + 2 := by omega
            simp (disch := omega) only [f_X12_readWave_189, f_X12_readWave_226, f_X12_cell, g', S2, T2', a2, b2, T4', e2i, Option.bind_some, qi, ql, qI_lt, qI_le, qI_eq, qI_L, qI_ix, qL_lt, qL_eq, q_nat, q_cs, ← Int32.ofInt_add, ← Int32.ofInt_sub, ← Int32.ofInt_mul, ← Int32.ofInt_neg, ← Int64.ofInt_add, ← Int64.ofInt_sub, ← Int64.ofInt_mul, ← Int64.ofInt_neg, pL_I, q_mx, q_mn, q_ab, q_abL, q_mnL, q_nn0, q_nn1, q_rr, q_b1, q_b0, q_T, q_F, q_iT, q_iF, q_d, q_in, q_wi, q_hC, q_hM, pT_i, pU_i, pS_i, pS_j, pS_0, Sum.elim_inl, Sum.elim_inr, if_pos, if_neg]
          have eC : msC R (Int32.ofInt (t : Int)) (Int32.ofInt (j : Int)) σ1 = msC R (Int32.ofInt ((t ||| 2 ^ 0 : Nat) : Int)) (Int32.ofInt ((j + 1 : Nat) : Int)) τ1 := by
            unfold msC
            rw [am_loop_in (s' := (Int32.ofInt ((t ||| 2 ^ 0 : Nat) : Int), Int32.ofInt ((j : Int) + 1), τ1)) lC]
            rfl
          have eM : msM (Int32.ofInt (c : Int)) (Int32.ofInt (t : Int)) σ2 = msM (Int32.ofInt (c : Int)) (Int32.ofInt ((t ||| 2 ^ 0 : Nat) : Int)) τ2 := by
            unfold msM
            rw [am_loop_in (s' := (Int32.ofInt ((t ||| 2 ^ 0 : Nat) : Int), τ2)) lM]
          rw [eC, eM]
          rcases ih τ1 τ2 s' p' e' w' (t ||| 2 ^ 0) (j + 1) (by omega) b3 b4 b6 T5 (by omega) with ⟨κ1, κ2, s2, p2, e2, w2, d1, d2, d3, d4, d5, d6, d7, d8⟩ | ⟨κ1, κ2, d1, d2, d3, d7, d8⟩
          · exact Or.inl ⟨κ1, κ2, s2, p2, e2, w2, d1, d2, d3, d4, by omega, d6, (Z0.tr b7).tr d7, (Y0.tr b8).tr d8⟩
          · exact Or.inr ⟨κ1, κ2, d1, d2, d3, (Z0.tr b7).tr d7, (Y0.tr b8).tr d8⟩
        · right
          obtain ⟨q1, q2, fl1, bd1⟩ := b3
          have lC : am_loop (fun s : Int32 × Int32 × am_H => f_X3_readsSettings_4 R s.1 s.2.1 s.2.2) (Int32.ofInt (t : Int), Int32.ofInt (j : Int), σ1) = some (.inr (.inr (.inl τ1))) := am_loop_out (by simp (disch := omega) only [f_X3_readsSettings_4, f_X3_readsSettings_70, S1', T1', a1, b1, T3', Option.bind_some, qi, ql, qI_lt, qI_le, qI_eq, qI_L, qI_ix, qL_lt, qL_eq, q_nat, q_cs, ← Int32.ofInt_add, ← Int32.ofInt_sub, ← Int32.ofInt_mul, ← Int32.ofInt_neg, ← Int64.ofInt_add, ← Int64.ofInt_sub, ← Int64.ofInt_mul, ← Int64.ofInt_neg, pL_I, q_mx, q_mn, q_ab, q_abL, q_mnL, q_nn0, q_nn1, q_rr, q_b1, q_b0, q_T, q_F, q_iT, q_iF, q_d, q_in, q_wi, q_hC, q_hM, pT_i, pU_i, pS_i, pS_j, pS_0, Sum.elim_inl, Sum.elim_inr, if_pos, if_neg])
          have lM : f_X12_readWave_189 (Int32.ofInt (c : Int)) (Int32.ofInt (t : Int)) σ2 = some (.inl (Int32.ofInt ((t ||| 2 ^ 0 : Nat) : Int), τ2)) := by
            have e2i : (54 * 2 + 9 * (c : Int) + (2 + 0)) = 54 * 2 + 9 * (c : Int) + 2 := by omega
            simp (disch := omega) only [f_X12_readWave_189, f_X12_readWave_226, f_X12_cell, g', S2, T2', a2, b2, T4', e2i, Option.bind_some, qi, ql, qI_lt, qI_le, qI_eq, qI_L, qI_ix, qL_lt, qL_eq, q_nat, q_cs, ← Int32.ofInt_add, ← Int32.ofInt_sub, ← Int32.ofInt_mul, ← Int32.ofInt_neg, ← Int64.ofInt_add, ← Int64.ofInt_sub, ← Int64.ofInt_mul, ← Int64.ofInt_neg, pL_I, q_mx, q_mn, q_ab, q_abL, q_mnL, q_nn0, q_nn1, q_rr, q_b1, q_b0, q_T, q_F, q_iT, q_iF, q_d, q_in, q_wi, q_hC, q_hM, pT_i, pU_i, pS_i, pS_j, pS_0, Sum.elim_inl, Sum.elim_inr, if_pos, if_neg]
          refine ⟨τ1, τ2, ?_, ?_, ⟨q1, q2, fl1, bd1⟩, Z0.tr b7, Y0.tr b8⟩
          · unfold msC
            rw [lC]
            rfl
          · have eM : msM (Int32.ofInt (c : Int)) (Int32.ofInt (t : Int)) σ2 = msM (Int32.ofInt (c : Int)) (Int32.ofInt ((t ||| 2 ^ 0 : Nat) : Int)) τ2 := by
              unfold msM
              rw [am_loop_in (s' := (Int32.ofInt ((t ||| 2 ^ 0 : Nat) : Int), τ2)) lM]
            rw [eM]
            exact msM_bd bd1 _ _
    · -- SETTING 1
      obtain ⟨T1, T2, T3, T4, T5⟩ := T ⟨1, by omega⟩
      simp only at T1 T2 T3 T4 T5
      have S1' : f_X3_settingOf σ1 = some (Int32.ofInt 2) := S1
      have T1' : Int32.ofInt (t : Int) &&& Int32.ofInt 2 = Int32.ofInt (if t.testBit 1 = true then 2 else 0) := T1
      have T2' : ((Int32.ofInt (t : Int) >>> (Int32.ofInt 1 &&& Int32.ofInt 31)) &&& Int32.ofInt 1) = Int32.ofInt (if t.testBit 1 = true then 1 else 0) := T2
      have T3' : Int32.ofInt (t : Int) ||| Int32.ofInt 2 = Int32.ofInt ((t ||| 2 ^ 1 : Nat) : Int) := T3
      have T4' : Int32.ofInt (t : Int) ||| (Int32.ofInt 1 <<< (Int32.ofInt 1 &&& Int32.ofInt 31)) = Int32.ofInt ((t ||| 2 ^ 1 : Nat) : Int) := T4
      by_cases ct : t.testBit 1 = true
      · right
        rw [if_pos ct] at T1' T2'
        have lC : am_loop (fun s : Int32 × Int32 × am_H => f_X3_readsSettings_4 R s.1 s.2.1 s.2.2) (Int32.ofInt (t : Int), Int32.ofInt (j : Int), σ1) = some (.inr (.inl σ1)) := am_loop_out (by simp (disch := omega) only [f_X3_readsSettings_4, S1', T1', Option.bind_some, qi, ql, qI_lt, qI_le, qI_eq, qI_L, qI_ix, qL_lt, qL_eq, q_nat, q_cs, ← Int32.ofInt_add, ← Int32.ofInt_sub, ← Int32.ofInt_mul, ← Int32.ofInt_neg, ← Int64.ofInt_add, ← Int64.ofInt_sub, ← Int64.ofInt_mul, ← Int64.ofInt_neg, pL_I, q_mx, q_mn, q_ab, q_abL, q_mnL, q_nn0, q_nn1, q_rr, q_b1, q_b0, q_T, q_F, q_iT, q_iF, q_d, q_in, q_wi, q_hC, q_hM, pT_i, pU_i, pS_i, pS_j, pS_0, Sum.elim_inl, Sum.elim_inr, if_pos, if_neg])
        have B : bd (FM σ2 5 p) 5 p := FM_b (by omega)
        have b12 := B.2.1
        have f5 : f_X12_fail (Int32.ofInt 5) (Int32.ofInt (p : Int)) σ2 = some (FM σ2 5 p) := gd_fail g _ _
        have lM : am_loop (fun s : Int32 × am_H => f_X12_readWave_189 (Int32.ofInt (c : Int)) s.1 s.2) (Int32.ofInt (t : Int), σ2) = some (.inl (FM σ2 5 p)) := am_loop_out (by simp (disch := omega) only [f_X12_readWave_189, f_X12_readWave_226, g', S2, T2', m15, f5, b12, Option.bind_some, qi, ql, qI_lt, qI_le, qI_eq, qI_L, qI_ix, qL_lt, qL_eq, q_nat, q_cs, ← Int32.ofInt_add, ← Int32.ofInt_sub, ← Int32.ofInt_mul, ← Int32.ofInt_neg, ← Int64.ofInt_add, ← Int64.ofInt_sub, ← Int64.ofInt_mul, ← Int64.ofInt_neg, pL_I, q_mx, q_mn, q_ab, q_abL, q_mnL, q_nn0, q_nn1, q_rr, q_b1, q_b0, q_T, q_F, q_iT, q_iF, q_d, q_in, q_wi, q_hC, q_hM, pT_i, pU_i, pS_i, pS_j, pS_0, Sum.elim_inl, Sum.elim_inr, if_pos, if_neg])
        have rf := tk_refuse h 5
        rw [if_neg (by omega)] at rf
        refine ⟨FC σ1 5 p, FM σ2 5 p, ?_, ?_, ⟨5, p, FC_f, B⟩, FC_q.z (fun _ _ _ => zW_t), FM_q.z (fun _ _ _ => zV_t)⟩
        · unfold msC
          rw [lC]
          simp (disch := omega) only [rf, Option.bind_some, qi, ql, qI_lt, qI_le, qI_eq, qI_L, qI_ix, qL_lt, qL_eq, q_nat, q_cs, ← Int32.ofInt_add, ← Int32.ofInt_sub, ← Int32.ofInt_mul, ← Int32.ofInt_neg, ← Int64.ofInt_add, ← Int64.ofInt_sub, ← Int64.ofInt_mul, ← Int64.ofInt_neg, pL_I, q_mx, q_mn, q_ab, q_abL, q_mnL, q_nn0, q_nn1, q_rr, q_b1, q_b0, q_T, q_F, q_iT, q_iF, q_d, q_in, q_wi, q_hC, q_hM, pT_i, pU_i, pS_i, pS_j, pS_0, Sum.elim_inl, Sum.elim_inr, if_pos, if_neg]
        · unfold msM
          rw [lM]
          rfl
      · rw [if_neg ct] at T1' T2'
        obtain ⟨ρ1, ρ2, sn, q, en, a1, a2, a3, a4, a5, a6⟩ := tk_next h (Or.inl s1)
        have gr : gd ρ2 := ((a6 12 0 12 rfl).1).trans g
        have pe := (h.2.2.2.2.2.2.1 (Or.inl s1)).1
        have Wr : wv ρ1 ρ2 R c w := ⟨sw_C a5 (by decide +kernel) W.1, sw_M a6 (by decide +kernel) W.2.1, W.2.2⟩
        have Z0 : qz (zW R) σ1 ρ1 := (a5.mo (by decide)).z (l := tlC) (fun _ _ _ => zW_t)
        have Y0 : qz (zV c) σ2 ρ2 := (a6.mo (by decide)).z (l := tlM) (fun _ _ _ => zV_t)
        rcases mn_2 hc a3 gr Wr with ⟨τ1, τ2, s', p', e', w', b1, b2, b3, b4, b5, b6, b7, b8⟩ | ⟨τ1, τ2, b1, b2, b3, b7, b8⟩
        · have lC : f_X3_readsSettings_4 R (Int32.ofInt (t : Int)) (Int32.ofInt (j : Int)) σ1 = some (.inl (Int32.ofInt ((t ||| 2 ^ 1 : Nat) : Int), Int32.ofInt ((j : Int) + 1), τ1)) := by
            simp (disch := omega) only [f_X3_readsSettings_4, f_X3_readsSettings_70, S1', T1', a1, b1, T3', Option.bind_some, qi, ql, qI_lt, qI_le, qI_eq, qI_L, qI_ix, qL_lt, qL_eq, q_nat, q_cs, ← Int32.ofInt_add, ← Int32.ofInt_sub, ← Int32.ofInt_mul, ← Int32.ofInt_neg, ← Int64.ofInt_add, ← Int64.ofInt_sub, ← Int64.ofInt_mul, ← Int64.ofInt_neg, pL_I, q_mx, q_mn, q_ab, q_abL, q_mnL, q_nn0, q_nn1, q_rr, q_b1, q_b0, q_T, q_F, q_iT, q_iF, q_d, q_in, q_wi, q_hC, q_hM, pT_i, pU_i, pS_i, pS_j, pS_0, Sum.elim_inl, Sum.elim_inr, if_pos, if_neg]
          have lM : f_X12_readWave_189 (Int32.ofInt (c : Int)) (Int32.ofInt (t : Int)) σ2 = some (.inl (Int32.ofInt ((t ||| 2 ^ 1 : Nat) : Int), τ2)) := by
            have e2i : (54 * 2 + 9 * (c : Int) + (2 + 1)) = 54 * 2 + 9 * (c : Int) + 3 := by omega
            simp (disch := omega) only [f_X12_readWave_189, f_X12_readWave_226, f_X12_cell, g', S2, T2', a2, b2, T4', e2i, Option.bind_some, qi, ql, qI_lt, qI_le, qI_eq, qI_L, qI_ix, qL_lt, qL_eq, q_nat, q_cs, ← Int32.ofInt_add, ← Int32.ofInt_sub, ← Int32.ofInt_mul, ← Int32.ofInt_neg, ← Int64.ofInt_add, ← Int64.ofInt_sub, ← Int64.ofInt_mul, ← Int64.ofInt_neg, pL_I, q_mx, q_mn, q_ab, q_abL, q_mnL, q_nn0, q_nn1, q_rr, q_b1, q_b0, q_T, q_F, q_iT, q_iF, q_d, q_in, q_wi, q_hC, q_hM, pT_i, pU_i, pS_i, pS_j, pS_0, Sum.elim_inl, Sum.elim_inr, if_pos, if_neg]
          have eC : msC R (Int32.ofInt (t : Int)) (Int32.ofInt (j : Int)) σ1 = msC R (Int32.ofInt ((t ||| 2 ^ 1 : Nat) : Int)) (Int32.ofInt ((j + 1 : Nat) : Int)) τ1 := by
            unfold msC
            rw [am_loop_in (s' := (Int32.ofInt ((t ||| 2 ^ 1 : Nat) : Int), Int32.ofInt ((j : Int) + 1), τ1)) lC]
            rfl
          have eM : msM (Int32.ofInt (c : Int)) (Int32.ofInt (t : Int)) σ2 = msM (Int32.ofInt (c : Int)) (Int32.ofInt ((t ||| 2 ^ 1 : Nat) : Int)) τ2 := by
            unfold msM
            rw [am_loop_in (s' := (Int32.ofInt ((t ||| 2 ^ 1 : Nat) : Int), τ2)) lM]
          rw [eC, eM]
          rcases ih τ1 τ2 s' p' e' w' (t ||| 2 ^ 1) (j + 1) (by omega) b3 b4 b6 T5 (by omega) with ⟨κ1, κ2, s2, p2, e2, w2, d1, d2, d3, d4, d5, d6, d7, d8⟩ | ⟨κ1, κ2, d1, d2, d3, d7, d8⟩
          · exact Or.inl ⟨κ1, κ2, s2, p2, e2, w2, d1, d2, d3, d4, by omega, d6, (Z0.tr b7).tr d7, (Y0.tr b8).tr d8⟩
          · exact Or.inr ⟨κ1, κ2, d1, d2, d3, (Z0.tr b7).tr d7, (Y0.tr b8).tr d8⟩
        · right
          obtain ⟨q1, q2, fl1, bd1⟩ := b3
          have lC : am_loop (fun s : Int32 × Int32 × am_H => f_X3_readsSettings_4 R s.1 s.2.1 s.2.2) (Int32.ofInt (t : Int), Int32.ofInt (j : Int), σ1) = some (.inr (.inr (.inl τ1))) := am_loop_out (by simp (disch := omega) only [f_X3_readsSettings_4, f_X3_readsSettings_70, S1', T1', a1, b1, T3', Option.bind_some, qi, ql, qI_lt, qI_le, qI_eq, qI_L, qI_ix, qL_lt, qL_eq, q_nat, q_cs, ← Int32.ofInt_add, ← Int32.ofInt_sub, ← Int32.ofInt_mul, ← Int32.ofInt_neg, ← Int64.ofInt_add, ← Int64.ofInt_sub, ← Int64.ofInt_mul, ← Int64.ofInt_neg, pL_I, q_mx, q_mn, q_ab, q_abL, q_mnL, q_nn0, q_nn1, q_rr, q_b1, q_b0, q_T, q_F, q_iT, q_iF, q_d, q_in, q_wi, q_hC, q_hM, pT_i, pU_i, pS_i, pS_j, pS_0, Sum.elim_inl, Sum.elim_inr, if_pos, if_neg])
          have lM : f_X12_readWave_189 (Int32.ofInt (c : Int)) (Int32.ofInt (t : Int)) σ2 = some (.inl (Int32.ofInt ((t ||| 2 ^ 1 : Nat) : Int), τ2)) := by
            have e2i : (54 * 2 + 9 * (c : Int) + (2 + 1)) = 54 * 2 + 9 * (c : Int) + 3 := by omega
            simp (disch := omega) only [f_X12_readWave_189, f_X12_readWave_226, f_X12_cell, g', S2, T2', a2, b2, T4', e2i, Option.bind_some, qi, ql, qI_lt, qI_le, qI_eq, qI_L, qI_ix, qL_lt, qL_eq, q_nat, q_cs, ← Int32.ofInt_add, ← Int32.ofInt_sub, ← Int32.ofInt_mul, ← Int32.ofInt_neg, ← Int64.ofInt_add, ← Int64.ofInt_sub, ← Int64.ofInt_mul, ← Int64.ofInt_neg, pL_I, q_mx, q_mn, q_ab, q_abL, q_mnL, q_nn0, q_nn1, q_rr, q_b1, q_b0, q_T, q_F, q_iT, q_iF, q_d, q_in, q_wi, q_hC, q_hM, pT_i, pU_i, pS_i, pS_j, pS_0, Sum.elim_inl, Sum.elim_inr, if_pos, if_neg]
          refine ⟨τ1, τ2, ?_, ?_, ⟨q1, q2, fl1, bd1⟩, Z0.tr b7, Y0.tr b8⟩
          · unfold msC
            rw [lC]
            rfl
          · have eM : msM (Int32.ofInt (c : Int)) (Int32.ofInt (t : Int)) σ2 = msM (Int32.ofInt (c : Int)) (Int32.ofInt ((t ||| 2 ^ 1 : Nat) : Int)) τ2 := by
              unfold msM
              rw [am_loop_in (s' := (Int32.ofInt ((t ||| 2 ^ 1 : Nat) : Int), τ2)) lM]
            rw [eM]
            exact msM_bd bd1 _ _
    · -- SETTING 2
      obtain ⟨T1, T2, T3, T4, T5⟩ := T ⟨2, by omega⟩
      simp only at T1 T2 T3 T4 T5
      have S1' : f_X3_settingOf σ1 = some (Int32.ofInt 4) := S1
      have T1' : Int32.ofInt (t : Int) &&& Int32.ofInt 4 = Int32.ofInt (if t.testBit 2 = true then 4 else 0) := T1
      have T2' : ((Int32.ofInt (t : Int) >>> (Int32.ofInt 2 &&& Int32.ofInt 31)) &&& Int32.ofInt 1) = Int32.ofInt (if t.testBit 2 = true then 1 else 0) := T2
      have T3' : Int32.ofInt (t : Int) ||| Int32.ofInt 4 = Int32.ofInt ((t ||| 2 ^ 2 : Nat) : Int) := T3
      have T4' : Int32.ofInt (t : Int) ||| (Int32.ofInt 1 <<< (Int32.ofInt 2 &&& Int32.ofInt 31)) = Int32.ofInt ((t ||| 2 ^ 2 : Nat) : Int) := T4
      by_cases ct : t.testBit 2 = true
      · right
        rw [if_pos ct] at T1' T2'
        have lC : am_loop (fun s : Int32 × Int32 × am_H => f_X3_readsSettings_4 R s.1 s.2.1 s.2.2) (Int32.ofInt (t : Int), Int32.ofInt (j : Int), σ1) = some (.inr (.inl σ1)) := am_loop_out (by simp (disch := omega) only [f_X3_readsSettings_4, S1', T1', Option.bind_some, qi, ql, qI_lt, qI_le, qI_eq, qI_L, qI_ix, qL_lt, qL_eq, q_nat, q_cs, ← Int32.ofInt_add, ← Int32.ofInt_sub, ← Int32.ofInt_mul, ← Int32.ofInt_neg, ← Int64.ofInt_add, ← Int64.ofInt_sub, ← Int64.ofInt_mul, ← Int64.ofInt_neg, pL_I, q_mx, q_mn, q_ab, q_abL, q_mnL, q_nn0, q_nn1, q_rr, q_b1, q_b0, q_T, q_F, q_iT, q_iF, q_d, q_in, q_wi, q_hC, q_hM, pT_i, pU_i, pS_i, pS_j, pS_0, Sum.elim_inl, Sum.elim_inr, if_pos, if_neg])
        have B : bd (FM σ2 5 p) 5 p := FM_b (by omega)
        have b12 := B.2.1
        have f5 : f_X12_fail (Int32.ofInt 5) (Int32.ofInt (p : Int)) σ2 = some (FM σ2 5 p) := gd_fail g _ _
        have lM : am_loop (fun s : Int32 × am_H => f_X12_readWave_189 (Int32.ofInt (c : Int)) s.1 s.2) (Int32.ofInt (t : Int), σ2) = some (.inl (FM σ2 5 p)) := am_loop_out (by simp (disch := omega) only [f_X12_readWave_189, f_X12_readWave_226, g', S2, T2', m15, f5, b12, Option.bind_some, qi, ql, qI_lt, qI_le, qI_eq, qI_L, qI_ix, qL_lt, qL_eq, q_nat, q_cs, ← Int32.ofInt_add, ← Int32.ofInt_sub, ← Int32.ofInt_mul, ← Int32.ofInt_neg, ← Int64.ofInt_add, ← Int64.ofInt_sub, ← Int64.ofInt_mul, ← Int64.ofInt_neg, pL_I, q_mx, q_mn, q_ab, q_abL, q_mnL, q_nn0, q_nn1, q_rr, q_b1, q_b0, q_T, q_F, q_iT, q_iF, q_d, q_in, q_wi, q_hC, q_hM, pT_i, pU_i, pS_i, pS_j, pS_0, Sum.elim_inl, Sum.elim_inr, if_pos, if_neg])
        have rf := tk_refuse h 5
        rw [if_neg (by omega)] at rf
        refine ⟨FC σ1 5 p, FM σ2 5 p, ?_, ?_, ⟨5, p, FC_f, B⟩, FC_q.z (fun _ _ _ => zW_t), FM_q.z (fun _ _ _ => zV_t)⟩
        · unfold msC
          rw [lC]
          simp (disch := omega) only [rf, Option.bind_some, qi, ql, qI_lt, qI_le, qI_eq, qI_L, qI_ix, qL_lt, qL_eq, q_nat, q_cs, ← Int32.ofInt_add, ← Int32.ofInt_sub, ← Int32.ofInt_mul, ← Int32.ofInt_neg, ← Int64.ofInt_add, ← Int64.ofInt_sub, ← Int64.ofInt_mul, ← Int64.ofInt_neg, pL_I, q_mx, q_mn, q_ab, q_abL, q_mnL, q_nn0, q_nn1, q_rr, q_b1, q_b0, q_T, q_F, q_iT, q_iF, q_d, q_in, q_wi, q_hC, q_hM, pT_i, pU_i, pS_i, pS_j, pS_0, Sum.elim_inl, Sum.elim_inr, if_pos, if_neg]
        · unfold msM
          rw [lM]
          rfl
      · rw [if_neg ct] at T1' T2'
        obtain ⟨ρ1, ρ2, sn, q, en, a1, a2, a3, a4, a5, a6⟩ := tk_next h (Or.inl s1)
        have gr : gd ρ2 := ((a6 12 0 12 rfl).1).trans g
        have pe := (h.2.2.2.2.2.2.1 (Or.inl s1)).1
        have Wr : wv ρ1 ρ2 R c w := ⟨sw_C a5 (by decide +kernel) W.1, sw_M a6 (by decide +kernel) W.2.1, W.2.2⟩
        have Z0 : qz (zW R) σ1 ρ1 := (a5.mo (by decide)).z (l := tlC) (fun _ _ _ => zW_t)
        have Y0 : qz (zV c) σ2 ρ2 := (a6.mo (by decide)).z (l := tlM) (fun _ _ _ => zV_t)
        rcases mt_train hc a3 gr Wr with ⟨τ1, τ2, s', p', e', w', b1, b2, b3, b4, b5, b6, b7, b8⟩ | ⟨τ1, τ2, b1, b2, b3, b7, b8⟩
        · have lC : f_X3_readsSettings_4 R (Int32.ofInt (t : Int)) (Int32.ofInt (j : Int)) σ1 = some (.inl (Int32.ofInt ((t ||| 2 ^ 2 : Nat) : Int), Int32.ofInt ((j : Int) + 1), τ1)) := by
            simp (disch := omega) only [f_X3_readsSettings_4, f_X3_readsSettings_70, S1', T1', a1, b1, T3', Option.bind_some, qi, ql, qI_lt, qI_le, qI_eq, qI_L, qI_ix, qL_lt, qL_eq, q_nat, q_cs, ← Int32.ofInt_add, ← Int32.ofInt_sub, ← Int32.ofInt_mul, ← Int32.ofInt_neg, ← Int64.ofInt_add, ← Int64.ofInt_sub, ← Int64.ofInt_mul, ← Int64.ofInt_neg, pL_I, q_mx, q_mn, q_ab, q_abL, q_mnL, q_nn0, q_nn1, q_rr, q_b1, q_b0, q_T, q_F, q_iT, q_iF, q_d, q_in, q_wi, q_hC, q_hM, pT_i, pU_i, pS_i, pS_j, pS_0, Sum.elim_inl, Sum.elim_inr, if_pos, if_neg]
          have lM : f_X12_readWave_189 (Int32.ofInt (c : Int)) (Int32.ofInt (t : Int)) σ2 = some (.inl (Int32.ofInt ((t ||| 2 ^ 2 : Nat) : Int), τ2)) := by
            simp (disch := omega) only [f_X12_readWave_189, f_X12_readWave_226, g', S2, T2', a2, b2, T4', Option.bind_some, qi, ql, qI_lt, qI_le, qI_eq, qI_L, qI_ix, qL_lt, qL_eq, q_nat, q_cs, ← Int32.ofInt_add, ← Int32.ofInt_sub, ← Int32.ofInt_mul, ← Int32.ofInt_neg, ← Int64.ofInt_add, ← Int64.ofInt_sub, ← Int64.ofInt_mul, ← Int64.ofInt_neg, pL_I, q_mx, q_mn, q_ab, q_abL, q_mnL, q_nn0, q_nn1, q_rr, q_b1, q_b0, q_T, q_F, q_iT, q_iF, q_d, q_in, q_wi, q_hC, q_hM, pT_i, pU_i, pS_i, pS_j, pS_0, Sum.elim_inl, Sum.elim_inr, if_pos, if_neg]
          have eC : msC R (Int32.ofInt (t : Int)) (Int32.ofInt (j : Int)) σ1 = msC R (Int32.ofInt ((t ||| 2 ^ 2 : Nat) : Int)) (Int32.ofInt ((j + 1 : Nat) : Int)) τ1 := by
            unfold msC
            rw [am_loop_in (s' := (Int32.ofInt ((t ||| 2 ^ 2 : Nat) : Int), Int32.ofInt ((j : Int) + 1), τ1)) lC]
            rfl
          have eM : msM (Int32.ofInt (c : Int)) (Int32.ofInt (t : Int)) σ2 = msM (Int32.ofInt (c : Int)) (Int32.ofInt ((t ||| 2 ^ 2 : Nat) : Int)) τ2 := by
            unfold msM
            rw [am_loop_in (s' := (Int32.ofInt ((t ||| 2 ^ 2 : Nat) : Int), τ2)) lM]
          rw [eC, eM]
          rcases ih τ1 τ2 s' p' e' w' (t ||| 2 ^ 2) (j + 1) (by omega) b3 b4 b6 T5 (by omega) with ⟨κ1, κ2, s2, p2, e2, w2, d1, d2, d3, d4, d5, d6, d7, d8⟩ | ⟨κ1, κ2, d1, d2, d3, d7, d8⟩
          · exact Or.inl ⟨κ1, κ2, s2, p2, e2, w2, d1, d2, d3, d4, by omega, d6, (Z0.tr b7).tr d7, (Y0.tr b8).tr d8⟩
          · exact Or.inr ⟨κ1, κ2, d1, d2, d3, (Z0.tr b7).tr d7, (Y0.tr b8).tr d8⟩
        · right
          obtain ⟨q1, q2, fl1, bd1⟩ := b3
          have lC : am_loop (fun s : Int32 × Int32 × am_H => f_X3_readsSettings_4 R s.1 s.2.1 s.2.2) (Int32.ofInt (t : Int), Int32.ofInt (j : Int), σ1) = some (.inr (.inr (.inl τ1))) := am_loop_out (by simp (disch := omega) only [f_X3_readsSettings_4, f_X3_readsSettings_70, S1', T1', a1, b1, T3', Option.bind_some, qi, ql, qI_lt, qI_le, qI_eq, qI_L, qI_ix, qL_lt, qL_eq, q_nat, q_cs, ← Int32.ofInt_add, ← Int32.ofInt_sub, ← Int32.ofInt_mul, ← Int32.ofInt_neg, ← Int64.ofInt_add, ← Int64.ofInt_sub, ← Int64.ofInt_mul, ← Int64.ofInt_neg, pL_I, q_mx, q_mn, q_ab, q_abL, q_mnL, q_nn0, q_nn1, q_rr, q_b1, q_b0, q_T, q_F, q_iT, q_iF, q_d, q_in, q_wi, q_hC, q_hM, pT_i, pU_i, pS_i, pS_j, pS_0, Sum.elim_inl, Sum.elim_inr, if_pos, if_neg])
          have lM : f_X12_readWave_189 (Int32.ofInt (c : Int)) (Int32.ofInt (t : Int)) σ2 = some (.inl (Int32.ofInt ((t ||| 2 ^ 2 : Nat) : Int), τ2)) := by
            simp (disch := omega) only [f_X12_readWave_189, f_X12_readWave_226, g', S2, T2', a2, b2, T4', Option.bind_some, qi, ql, qI_lt, qI_le, qI_eq, qI_L, qI_ix, qL_lt, qL_eq, q_nat, q_cs, ← Int32.ofInt_add, ← Int32.ofInt_sub, ← Int32.ofInt_mul, ← Int32.ofInt_neg, ← Int64.ofInt_add, ← Int64.ofInt_sub, ← Int64.ofInt_mul, ← Int64.ofInt_neg, pL_I, q_mx, q_mn, q_ab, q_abL, q_mnL, q_nn0, q_nn1, q_rr, q_b1, q_b0, q_T, q_F, q_iT, q_iF, q_d, q_in, q_wi, q_hC, q_hM, pT_i, pU_i, pS_i, pS_j, pS_0, Sum.elim_inl, Sum.elim_inr, if_pos, if_neg]
          refine ⟨τ1, τ2, ?_, ?_, ⟨q1, q2, fl1, bd1⟩, Z0.tr b7, Y0.tr b8⟩
          · unfold msC
            rw [lC]
            rfl
          · have eM : msM (Int32.ofInt (c : Int)) (Int32.ofInt (t : Int)) σ2 = msM (Int32.ofInt (c : Int)) (Int32.ofInt ((t ||| 2 ^ 2 : Nat) : Int)) τ2 := by
              unfold msM
              rw [am_loop_in (s' := (Int32.ofInt ((t ||| 2 ^ 2 : Nat) : Int), τ2)) lM]
            rw [eM]
            exact msM_bd bd1 _ _
