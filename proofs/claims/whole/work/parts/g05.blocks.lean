/-! ===== ORDERS: STEPS within one another ===== -/
noncomputable def ocC (r : Nat) (j : Int32) (σ : am_H) : Option (Bool × am_H) := (am_loop (fun s : Int32 × am_H => f_X4_readFrom_17 r s.1 s.2) (j, σ)).bind fun w4 => Sum.elim (fun t4_0 => if (t4_0.1 4 r 7) = 0 then (some (true, t4_0)) else (f_X5_refuse 2 t4_0).bind fun p6 => if p6.1 = true then (some (true, p6.2)) else some (false, p6.2)) (fun u4_0 => Sum.elim (fun t4_1 => some (false, t4_1)) (fun u4_1 => (f_X5_refuse 6 u4_1).bind fun p8 => some (p8.1, p8.2)) u4_0) w4
/-- both count alike: rows R, STEPS s, d blocks open -/
def cn (σ1 σ2 : am_H) (r R s d : Nat) : Prop := σ1.1 4 r 4 = Int32.ofInt (R : Int) ∧ σ1.1 4 r 5 = Int32.ofInt (s : Int) ∧ σ1.1 4 r 7 = Int32.ofInt (d : Int) ∧ σ2.1 12 0 55 = Int32.ofInt (s : Int) ∧ R + d ≤ 2 * s ∧ s ≤ 40
def sgm (σ1 σ2 : am_H) (r m d s e R Q : Nat) : Prop := pg_seg (σ1.1 500 r) (σ1.1 501 r) (σ1.1 502 r) (σ1.1 503 r) (σ2.1 1372 0) (σ2.1 1373 0) (σ2.1 1374 0) (σ2.1 1375 0) m d s e R Q
def gOut (n : Nat) (b : Nat → Int) (r : Nat) (σ1 σ2 : am_H) (p d R s : Nat) (ew : Bool) (F1 : Option (Bool × am_H)) (F2 : Option am_H) : Prop :=
  (∃ (τ1 τ2 : am_H) (sT' p' e' R' s' m : Nat), F1 = ocC r (Int32.ofInt (R' : Int)) τ1 ∧ F2 = some τ2 ∧ tk τ1 τ2 n b sT' p' e' ∧ gd τ2 ∧ p ≤ p' ∧ (ew = false → p < p') ∧ (ew = true → wq b sT' p' e' 10 = true) ∧ cn τ1 τ2 r R' s' d ∧ sgm τ1 τ2 r m (3 - d) s s' R R' ∧ qz (zR r R d) σ1 τ1 ∧ qz (zS s) σ2 τ2) ∨
  (∃ τ1 τ2 : am_H, F1 = some (false, τ1) ∧ F2 = some τ2 ∧ oN (zR r R d) (zS s) σ1 σ2 τ1 τ2)
def gA (n : Nat) (b : Nat → Int) (r f : Nat) : Prop := ∀ (d : Nat) (σ1 σ2 : am_H) (sT p e R s : Nat), d ≤ 3 → n < p + f → tk σ1 σ2 n b sT p e → gd σ2 → cn σ1 σ2 r R s d → (sT ≠ 0 ∨ 0 < d) → (wq b sT p e 10 = false ∨ d = 0) → gOut n b r σ1 σ2 p d R s false (ocC r (Int32.ofInt (R : Int)) σ1) (f_X12_readStep (8 - d) (Int32.ofInt (d : Int)) σ2)
def gB (n : Nat) (b : Nat → Int) (r f : Nat) : Prop := ∀ (d : Nat) (σ1 σ2 : am_H) (sT p e R s : Nat) (v4 : Int32), d < 3 → n < p + f → tk σ1 σ2 n b sT p e → gd σ2 → cn σ1 σ2 r R s (d + 1) → gOut n b r σ1 σ2 p (d + 1) R s true (ocC r (Int32.ofInt (R : Int)) σ1) (am_loop (fun t : am_H => f_X12_readStep_203 (f_X12_readStep (7 - d)) (Int32.ofInt (d : Int)) true v4 t) σ2)
theorem oc_no {r : Nat} {j : Int32} {σ τ : am_H} (h : f_X4_readFrom_17 r j σ = some (.inr (.inr (.inl τ)))) : ocC r j σ = some (false, τ) := by
  unfold ocC
  rw [am_loop_out h]
  rfl
theorem oc_in {r : Nat} {j j' : Int32} {σ τ : am_H} (h : f_X4_readFrom_17 r j σ = some (.inl (j', τ))) : ocC r j σ = ocC r j' τ := by
  unfold ocC
  rw [am_loop_in (s' := (j', τ)) h]
theorem bd_80 {rc : Int32 → am_H → Option am_H} {v1 v2 : Int32} {v3 : Bool} {σ : am_H} {k : Int} {p : Nat} (h : bd σ k p) : f_X12_readStep_80 rc v1 v2 v3 σ = some σ := by
  obtain ⟨h1, h2, h3⟩ := h
  simp (disch := omega) only [f_X12_readStep_80, h2, Option.bind_some, qi, ql, qI_lt, qI_le, qI_eq, qI_L, qI_ix, qL_lt, qL_eq, q_nat, q_cs, ← Int32.ofInt_add, ← Int32.ofInt_sub, ← Int32.ofInt_mul, ← Int32.ofInt_neg, ← Int64.ofInt_add, ← Int64.ofInt_sub, ← Int64.ofInt_mul, ← Int64.ofInt_neg, pL_I, q_mx, q_mn, q_ab, q_abL, q_mnL, q_nn0, q_nn1, q_rr, q_b1, q_b0, q_T, q_F, q_iT, q_iF, q_d, q_in, q_wi, q_hC, q_hM, pT_i, pU_i, pS_i, pS_j, pS_0, Sum.elim_inl, Sum.elim_inr, if_pos, if_neg]
theorem bd_54 {rc : Int32 → am_H → Option am_H} {v1 v2 : Int32} {v3 : Bool} {σ : am_H} {k : Int} {p : Nat} (h : bd σ k p) : f_X12_readStep_54 rc v1 v2 v3 σ = some σ := by
  have e := bd_80 (rc := rc) (v1 := v1) (v2 := v2) (v3 := v3) h
  obtain ⟨h1, h2, h3⟩ := h
  simp (disch := omega) only [f_X12_readStep_54, h2, e, Option.bind_some, qi, ql, qI_lt, qI_le, qI_eq, qI_L, qI_ix, qL_lt, qL_eq, q_nat, q_cs, ← Int32.ofInt_add, ← Int32.ofInt_sub, ← Int32.ofInt_mul, ← Int32.ofInt_neg, ← Int64.ofInt_add, ← Int64.ofInt_sub, ← Int64.ofInt_mul, ← Int64.ofInt_neg, pL_I, q_mx, q_mn, q_ab, q_abL, q_mnL, q_nn0, q_nn1, q_rr, q_b1, q_b0, q_T, q_F, q_iT, q_iF, q_d, q_in, q_wi, q_hC, q_hM, pT_i, pU_i, pS_i, pS_j, pS_0, Sum.elim_inl, Sum.elim_inr, if_pos, if_neg]
theorem bd_28 {rc : Int32 → am_H → Option am_H} {v1 v2 : Int32} {v3 : Bool} {σ : am_H} {k : Int} {p : Nat} (h : bd σ k p) : f_X12_readStep_28 rc v1 v2 v3 σ = some σ := by
  have e := bd_54 (rc := rc) (v1 := v1) (v2 := v2) (v3 := v3) h
  obtain ⟨h1, h2, h3⟩ := h
  simp (disch := omega) only [f_X12_readStep_28, h2, e, Option.bind_some, qi, ql, qI_lt, qI_le, qI_eq, qI_L, qI_ix, qL_lt, qL_eq, q_nat, q_cs, ← Int32.ofInt_add, ← Int32.ofInt_sub, ← Int32.ofInt_mul, ← Int32.ofInt_neg, ← Int64.ofInt_add, ← Int64.ofInt_sub, ← Int64.ofInt_mul, ← Int64.ofInt_neg, pL_I, q_mx, q_mn, q_ab, q_abL, q_mnL, q_nn0, q_nn1, q_rr, q_b1, q_b0, q_T, q_F, q_iT, q_iF, q_d, q_in, q_wi, q_hC, q_hM, pT_i, pU_i, pS_i, pS_j, pS_0, Sum.elim_inl, Sum.elim_inr, if_pos, if_neg]
theorem bd_13 {rc : Int32 → am_H → Option am_H} {v1 v2 : Int32} {σ : am_H} {k : Int} {p : Nat} (h : bd σ k p) : f_X12_readStep_13 rc v1 v2 σ = some σ := by
  unfold f_X12_readStep_13
  rw [bd_28 h, bd_28 h]
  split
  · rfl
  · split <;> rfl
/-- how the class goes on with a STEP, or with an end -/
theorem oc_17 {σ1 σ2 : am_H} {n : Nat} {b : Nat → Int} {sT p e r R : Nat} (h : tk σ1 σ2 n b sT p e) (s0 : sT ≠ 0) (hR : R ≤ 80) : (wq b sT p e 10 = true → f_X4_readFrom_17 r (Int32.ofInt (R : Int)) σ1 = (f_X4_readsEnd r σ1).bind fun p6 => f_X4_readFrom_73 r (Int32.ofInt (R : Int)) p6.1 p6.2) ∧ (wq b sT p e 10 = false → f_X4_readFrom_17 r (Int32.ofInt (R : Int)) σ1 = (f_X4_readsStep r σ1).bind fun p6 => f_X4_readFrom_73 r (Int32.ofInt (R : Int)) p6.1 p6.2) := by
  have k3 := h.2.2.1.1
  have s4 := h.2.2.2.2.2.1
  have ae : f_X5_isAtEnd σ1 = some false := by simp (disch := omega) only [f_X5_isAtEnd, k3, Option.bind_some, qi, ql, qI_lt, qI_le, qI_eq, qI_L, qI_ix, qL_lt, qL_eq, q_nat, q_cs, ← Int32.ofInt_add, ← Int32.ofInt_sub, ← Int32.ofInt_mul, ← Int32.ofInt_neg, ← Int64.ofInt_add, ← Int64.ofInt_sub, ← Int64.ofInt_mul, ← Int64.ofInt_neg, pL_I, q_mx, q_mn, q_ab, q_abL, q_mnL, q_nn0, q_nn1, q_rr, q_b1, q_b0, q_T, q_F, q_iT, q_iF, q_d, q_in, q_wi, q_hC, q_hM, pT_i, pU_i, pS_i, pS_j, pS_0, Sum.elim_inl, Sum.elim_inr, if_pos, if_neg]
  have W := (tk_word h (by omega : 10 < 22)).1
  constructor
  · intro w
    rw [w] at W
    simp (disch := omega) only [f_X4_readFrom_17, ae, W, Option.bind_some, qi, ql, qI_lt, qI_le, qI_eq, qI_L, qI_ix, qL_lt, qL_eq, q_nat, q_cs, ← Int32.ofInt_add, ← Int32.ofInt_sub, ← Int32.ofInt_mul, ← Int32.ofInt_neg, ← Int64.ofInt_add, ← Int64.ofInt_sub, ← Int64.ofInt_mul, ← Int64.ofInt_neg, pL_I, q_mx, q_mn, q_ab, q_abL, q_mnL, q_nn0, q_nn1, q_rr, q_b1, q_b0, q_T, q_F, q_iT, q_iF, q_d, q_in, q_wi, q_hC, q_hM, pT_i, pU_i, pS_i, pS_j, pS_0, Sum.elim_inl, Sum.elim_inr, if_pos, if_neg]
  · intro w
    rw [w] at W
    simp (disch := omega) only [f_X4_readFrom_17, ae, W, Option.bind_some, qi, ql, qI_lt, qI_le, qI_eq, qI_L, qI_ix, qL_lt, qL_eq, q_nat, q_cs, ← Int32.ofInt_add, ← Int32.ofInt_sub, ← Int32.ofInt_mul, ← Int32.ofInt_neg, ← Int64.ofInt_add, ← Int64.ofInt_sub, ← Int64.ofInt_mul, ← Int64.ofInt_neg, pL_I, q_mx, q_mn, q_ab, q_abL, q_mnL, q_nn0, q_nn1, q_rr, q_b1, q_b0, q_T, q_F, q_iT, q_iF, q_d, q_in, q_wi, q_hC, q_hM, pT_i, pU_i, pS_i, pS_j, pS_0, Sum.elim_inl, Sum.elim_inr, if_pos, if_neg]
theorem gA_of {n : Nat} {b : Nat → Int} {r f : Nat} (ihB : gB n b r f) : gA n b r (f + 1) := by
  intro d σ1 σ2 sT p e R s hd hf h g cn0 h0 h10
  obtain ⟨c4, c5, c7, n55, i1, i2⟩ := cn0
  have g' : σ2.1 12 0 12 = Int32.ofInt 0 := g
  have m15 := h.2.2.2.1.2.1
  have k3 := h.2.2.1.1
  have s4 := h.2.2.2.2.2.1
  obtain ⟨t, D1, D2, tb, t1⟩ := tk_deed h
  rw [show 8 - d = (7 - d) + 1 by omega]
  show gOut n b r σ1 σ2 p d R s false _ (f_X12_readStep_0 (f_X12_readStep (7 - d)) (Int32.ofInt (d : Int)) σ2)
  by_cases tn : t < 0
  · right
    have r1 := tk_refuse h 2
    have r2 := tk_wrong h g
    have kb : 1 ≤ (if sT = 4 then 1 else 2 : Int) ∧ (if sT = 4 then 1 else 2 : Int) ≤ 6 := by split <;> omega
    generalize (if sT = 4 then 1 else 2 : Int) = k at r1 r2 kb
    have B : bd (FM σ2 k p) k p := FM_b kb
    have b13 := bd_13 (rc := f_X12_readStep (7 - d)) (v1 := Int32.ofInt (d : Int)) (v2 := Int32.ofInt t) B
    refine ⟨FC σ1 k p, FM σ2 k p, ?_, ?_, ⟨k, p, FC_f, B⟩, FC_q.z (fun _ _ _ => zR_t), FM_q.z (fun _ _ _ => zS_t)⟩
    · by_cases s0 : sT = 0
      · have ae : f_X5_isAtEnd σ1 = some true := by simp (disch := omega) only [f_X5_isAtEnd, k3, Option.bind_some, qi, ql, qI_lt, qI_le, qI_eq, qI_L, qI_ix, qL_lt, qL_eq, q_nat, q_cs, ← Int32.ofInt_add, ← Int32.ofInt_sub, ← Int32.ofInt_mul, ← Int32.ofInt_neg, ← Int64.ofInt_add, ← Int64.ofInt_sub, ← Int64.ofInt_mul, ← Int64.ofInt_neg, pL_I, q_mx, q_mn, q_ab, q_abL, q_mnL, q_nn0, q_nn1, q_rr, q_b1, q_b0, q_T, q_F, q_iT, q_iF, q_d, q_in, q_wi, q_hC, q_hM, pT_i, pU_i, pS_i, pS_j, pS_0, Sum.elim_inl, Sum.elim_inr, if_pos, if_neg]
        have lp : am_loop (fun s : Int32 × am_H => f_X4_readFrom_17 r s.1 s.2) (Int32.ofInt (R : Int), σ1) = some (.inl σ1) := am_loop_out (by simp (disch := omega) only [f_X4_readFrom_17, ae, Option.bind_some, qi, ql, qI_lt, qI_le, qI_eq, qI_L, qI_ix, qL_lt, qL_eq, q_nat, q_cs, ← Int32.ofInt_add, ← Int32.ofInt_sub, ← Int32.ofInt_mul, ← Int32.ofInt_neg, ← Int64.ofInt_add, ← Int64.ofInt_sub, ← Int64.ofInt_mul, ← Int64.ofInt_neg, pL_I, q_mx, q_mn, q_ab, q_abL, q_mnL, q_nn0, q_nn1, q_rr, q_b1, q_b0, q_T, q_F, q_iT, q_iF, q_d, q_in, q_wi, q_hC, q_hM, pT_i, pU_i, pS_i, pS_j, pS_0, Sum.elim_inl, Sum.elim_inr, if_pos, if_neg])
        unfold ocC
        rw [lp]
        have dp : 0 < d := by omega
        simp (disch := omega) only [c7, r1, Option.bind_some, qi, ql, qI_lt, qI_le, qI_eq, qI_L, qI_ix, qL_lt, qL_eq, q_nat, q_cs, ← Int32.ofInt_add, ← Int32.ofInt_sub, ← Int32.ofInt_mul, ← Int32.ofInt_neg, ← Int64.ofInt_add, ← Int64.ofInt_sub, ← Int64.ofInt_mul, ← Int64.ofInt_neg, pL_I, q_mx, q_mn, q_ab, q_abL, q_mnL, q_nn0, q_nn1, q_rr, q_b1, q_b0, q_T, q_F, q_iT, q_iF, q_d, q_in, q_wi, q_hC, q_hM, pT_i, pU_i, pS_i, pS_j, pS_0, Sum.elim_inl, Sum.elim_inr, if_pos, if_neg]
      · by_cases w : wq b sT p e 10 = true
        · have d0 : d = 0 := by
            rcases h10 with z | z
            · rw [z] at w; cases w
            · exact z
          have en : f_X4_readsEnd r σ1 = some (false, FC σ1 k p) := by simp (disch := omega) only [f_X4_readsEnd, f_X4_readsEnd_16, c7, r1, Option.bind_some, qi, ql, qI_lt, qI_le, qI_eq, qI_L, qI_ix, qL_lt, qL_eq, q_nat, q_cs, ← Int32.ofInt_add, ← Int32.ofInt_sub, ← Int32.ofInt_mul, ← Int32.ofInt_neg, ← Int64.ofInt_add, ← Int64.ofInt_sub, ← Int64.ofInt_mul, ← Int64.ofInt_neg, pL_I, q_mx, q_mn, q_ab, q_abL, q_mnL, q_nn0, q_nn1, q_rr, q_b1, q_b0, q_T, q_F, q_iT, q_iF, q_d, q_in, q_wi, q_hC, q_hM, pT_i, pU_i, pS_i, pS_j, pS_0, Sum.elim_inl, Sum.elim_inr, if_pos, if_neg]
          refine oc_no ?_
          rw [(oc_17 (R := R) h s0 (by omega)).1 w, en]
          rfl
        · have st : f_X4_readsStep r σ1 = some (false, FC σ1 k p) := by
            have e1 : t = -1 := by omega
            rw [e1] at D1
            simp (disch := omega) only [f_X4_readsStep, D1, r1, Option.bind_some, qi, ql, qI_lt, qI_le, qI_eq, qI_L, qI_ix, qL_lt, qL_eq, q_nat, q_cs, ← Int32.ofInt_add, ← Int32.ofInt_sub, ← Int32.ofInt_mul, ← Int32.ofInt_neg, ← Int64.ofInt_add, ← Int64.ofInt_sub, ← Int64.ofInt_mul, ← Int64.ofInt_neg, pL_I, q_mx, q_mn, q_ab, q_abL, q_mnL, q_nn0, q_nn1, q_rr, q_b1, q_b0, q_T, q_F, q_iT, q_iF, q_d, q_in, q_wi, q_hC, q_hM, pT_i, pU_i, pS_i, pS_j, pS_0, Sum.elim_inl, Sum.elim_inr, if_pos, if_neg]
          refine oc_no ?_
          rw [(oc_17 (R := R) h s0 (by omega)).2 ((Bool.not_eq_true _).mp w), st]
          rfl
    · simp (disch := omega) only [f_X12_readStep_0, D2, r2, b13, Option.bind_some, qi, ql, qI_lt, qI_le, qI_eq, qI_L, qI_ix, qL_lt, qL_eq, q_nat, q_cs, ← Int32.ofInt_add, ← Int32.ofInt_sub, ← Int32.ofInt_mul, ← Int32.ofInt_neg, ← Int64.ofInt_add, ← Int64.ofInt_sub, ← Int64.ofInt_mul, ← Int64.ofInt_neg, pL_I, q_mx, q_mn, q_ab, q_abL, q_mnL, q_nn0, q_nn1, q_rr, q_b1, q_b0, q_T, q_F, q_iT, q_iF, q_d, q_in, q_wi, q_hC, q_hM, pT_i, pU_i, pS_i, pS_j, pS_0, Sum.elim_inl, Sum.elim_inr, if_pos, if_neg]
  obtain ⟨s1, w10⟩ := t1 (by omega)
  obtain ⟨kd, rfl⟩ : ∃ kd : Nat, t = kd := ⟨t.toNat, by omega⟩
  have e17 := (oc_17 (r := r) (R := R) h (by omega) (by omega)).2 w10
  obtain ⟨blk, hblk⟩ : ∃ blk : Bool, blk = decide (kd = 4 ∨ kd = 5) := ⟨_, rfl⟩
  have eC : f_X4_readsStep r σ1 = f_X4_readsStep_31 r (Int32.ofInt (kd : Int)) blk σ1 := by
    by_cases k4 : kd = 4
    · rw [hblk, decide_eq_true (Or.inl k4)]
      simp (disch := omega) only [f_X4_readsStep, D1, Option.bind_some, qi, ql, qI_lt, qI_le, qI_eq, qI_L, qI_ix, qL_lt, qL_eq, q_nat, q_cs, ← Int32.ofInt_add, ← Int32.ofInt_sub, ← Int32.ofInt_mul, ← Int32.ofInt_neg, ← Int64.ofInt_add, ← Int64.ofInt_sub, ← Int64.ofInt_mul, ← Int64.ofInt_neg, pL_I, q_mx, q_mn, q_ab, q_abL, q_mnL, q_nn0, q_nn1, q_rr, q_b1, q_b0, q_T, q_F, q_iT, q_iF, q_d, q_in, q_wi, q_hC, q_hM, pT_i, pU_i, pS_i, pS_j, pS_0, Sum.elim_inl, Sum.elim_inr, if_pos, if_neg]
    · by_cases k5 : kd = 5
      · rw [hblk, decide_eq_true (Or.inr k5)]
        simp (disch := omega) only [f_X4_readsStep, D1, Option.bind_some, qi, ql, qI_lt, qI_le, qI_eq, qI_L, qI_ix, qL_lt, qL_eq, q_nat, q_cs, ← Int32.ofInt_add, ← Int32.ofInt_sub, ← Int32.ofInt_mul, ← Int32.ofInt_neg, ← Int64.ofInt_add, ← Int64.ofInt_sub, ← Int64.ofInt_mul, ← Int64.ofInt_neg, pL_I, q_mx, q_mn, q_ab, q_abL, q_mnL, q_nn0, q_nn1, q_rr, q_b1, q_b0, q_T, q_F, q_iT, q_iF, q_d, q_in, q_wi, q_hC, q_hM, pT_i, pU_i, pS_i, pS_j, pS_0, Sum.elim_inl, Sum.elim_inr, if_pos, if_neg]
      · rw [hblk, decide_eq_false (by omega)]
        simp (disch := omega) only [f_X4_readsStep, D1, Option.bind_some, qi, ql, qI_lt, qI_le, qI_eq, qI_L, qI_ix, qL_lt, qL_eq, q_nat, q_cs, ← Int32.ofInt_add, ← Int32.ofInt_sub, ← Int32.ofInt_mul, ← Int32.ofInt_neg, ← Int64.ofInt_add, ← Int64.ofInt_sub, ← Int64.ofInt_mul, ← Int64.ofInt_neg, pL_I, q_mx, q_mn, q_ab, q_abL, q_mnL, q_nn0, q_nn1, q_rr, q_b1, q_b0, q_T, q_F, q_iT, q_iF, q_d, q_in, q_wi, q_hC, q_hM, pT_i, pU_i, pS_i, pS_j, pS_0, Sum.elim_inl, Sum.elim_inr, if_pos, if_neg]
  have eM : f_X12_readStep_0 (f_X12_readStep (7 - d)) (Int32.ofInt (d : Int)) σ2 = f_X12_readStep_28 (f_X12_readStep (7 - d)) (Int32.ofInt (d : Int)) (Int32.ofInt (kd : Int)) blk σ2 := by
    by_cases k4 : kd = 4
    · rw [hblk, decide_eq_true (Or.inl k4)]
      simp (disch := omega) only [f_X12_readStep_0, f_X12_readStep_13, D2, Option.bind_some, qi, ql, qI_lt, qI_le, qI_eq, qI_L, qI_ix, qL_lt, qL_eq, q_nat, q_cs, ← Int32.ofInt_add, ← Int32.ofInt_sub, ← Int32.ofInt_mul, ← Int32.ofInt_neg, ← Int64.ofInt_add, ← Int64.ofInt_sub, ← Int64.ofInt_mul, ← Int64.ofInt_neg, pL_I, q_mx, q_mn, q_ab, q_abL, q_mnL, q_nn0, q_nn1, q_rr, q_b1, q_b0, q_T, q_F, q_iT, q_iF, q_d, q_in, q_wi, q_hC, q_hM, pT_i, pU_i, pS_i, pS_j, pS_0, Sum.elim_inl, Sum.elim_inr, if_pos, if_neg]
    · by_cases k5 : kd = 5
      · rw [hblk, decide_eq_true (Or.inr k5)]
        simp (disch := omega) only [f_X12_readStep_0, f_X12_readStep_13, D2, Option.bind_some, qi, ql, qI_lt, qI_le, qI_eq, qI_L, qI_ix, qL_lt, qL_eq, q_nat, q_cs, ← Int32.ofInt_add, ← Int32.ofInt_sub, ← Int32.ofInt_mul, ← Int32.ofInt_neg, ← Int64.ofInt_add, ← Int64.ofInt_sub, ← Int64.ofInt_mul, ← Int64.ofInt_neg, pL_I, q_mx, q_mn, q_ab, q_abL, q_mnL, q_nn0, q_nn1, q_rr, q_b1, q_b0, q_T, q_F, q_iT, q_iF, q_d, q_in, q_wi, q_hC, q_hM, pT_i, pU_i, pS_i, pS_j, pS_0, Sum.elim_inl, Sum.elim_inr, if_pos, if_neg]
      · rw [hblk, decide_eq_false (by omega)]
        simp (disch := omega) only [f_X12_readStep_0, f_X12_readStep_13, D2, Option.bind_some, qi, ql, qI_lt, qI_le, qI_eq, qI_L, qI_ix, qL_lt, qL_eq, q_nat, q_cs, ← Int32.ofInt_add, ← Int32.ofInt_sub, ← Int32.ofInt_mul, ← Int32.ofInt_neg, ← Int64.ofInt_add, ← Int64.ofInt_sub, ← Int64.ofInt_mul, ← Int64.ofInt_neg, pL_I, q_mx, q_mn, q_ab, q_abL, q_mnL, q_nn0, q_nn1, q_rr, q_b1, q_b0, q_T, q_F, q_iT, q_iF, q_d, q_in, q_wi, q_hC, q_hM, pT_i, pU_i, pS_i, pS_j, pS_0, Sum.elim_inl, Sum.elim_inr, if_pos, if_neg]
  rw [eM]
  by_cases c3 : blk = true ∧ d = 3
  · right
    have r1 := tk_refuse h 5
    rw [if_neg (by omega)] at r1
    have r2 : f_X12_fail (Int32.ofInt 5) (Int32.ofInt (p : Int)) σ2 = some (FM σ2 5 p) := gd_fail g _ _
    have B : bd (FM σ2 5 p) 5 p := FM_b (by omega)
    have b54 := bd_54 (rc := f_X12_readStep (7 - d)) (v1 := Int32.ofInt (d : Int)) (v2 := Int32.ofInt (kd : Int)) (v3 := true) B
    have st : f_X4_readsStep r σ1 = some (false, FC σ1 5 p) := by
      rw [eC, c3.1]
      simp (disch := omega) only [f_X4_readsStep_31, c7, r1, Option.bind_some, qi, ql, qI_lt, qI_le, qI_eq, qI_L, qI_ix, qL_lt, qL_eq, q_nat, q_cs, ← Int32.ofInt_add, ← Int32.ofInt_sub, ← Int32.ofInt_mul, ← Int32.ofInt_neg, ← Int64.ofInt_add, ← Int64.ofInt_sub, ← Int64.ofInt_mul, ← Int64.ofInt_neg, pL_I, q_mx, q_mn, q_ab, q_abL, q_mnL, q_nn0, q_nn1, q_rr, q_b1, q_b0, q_T, q_F, q_iT, q_iF, q_d, q_in, q_wi, q_hC, q_hM, pT_i, pU_i, pS_i, pS_j, pS_0, Sum.elim_inl, Sum.elim_inr, if_pos, if_neg]
    refine ⟨FC σ1 5 p, FM σ2 5 p, ?_, ?_, ⟨5, p, FC_f, B⟩, FC_q.z (fun _ _ _ => zR_t), FM_q.z (fun _ _ _ => zS_t)⟩
    · refine oc_no ?_
      rw [e17, st]
      rfl
    · rw [c3.1]
      simp (disch := omega) only [f_X12_readStep_28, g', m15, r2, b54, Option.bind_some, qi, ql, qI_lt, qI_le, qI_eq, qI_L, qI_ix, qL_lt, qL_eq, q_nat, q_cs, ← Int32.ofInt_add, ← Int32.ofInt_sub, ← Int32.ofInt_mul, ← Int32.ofInt_neg, ← Int64.ofInt_add, ← Int64.ofInt_sub, ← Int64.ofInt_mul, ← Int64.ofInt_neg, pL_I, q_mx, q_mn, q_ab, q_abL, q_mnL, q_nn0, q_nn1, q_rr, q_b1, q_b0, q_T, q_F, q_iT, q_iF, q_d, q_in, q_wi, q_hC, q_hM, pT_i, pU_i, pS_i, pS_j, pS_0, Sum.elim_inl, Sum.elim_inr, if_pos, if_neg]
  have hd3 : blk = true → d < 3 := fun z => by
    have : ¬ d = 3 := fun y => c3 ⟨z, y⟩
    omega
  have eC2 : f_X4_readsStep r σ1 = f_X4_readsStep_50 r (Int32.ofInt (kd : Int)) blk σ1 := by
    rw [eC]
    cases hb : blk with
    | true =>
      have := hd3 hb
      simp (disch := omega) only [f_X4_readsStep_31, c7, Option.bind_some, qi, ql, qI_lt, qI_le, qI_eq, qI_L, qI_ix, qL_lt, qL_eq, q_nat, q_cs, ← Int32.ofInt_add, ← Int32.ofInt_sub, ← Int32.ofInt_mul, ← Int32.ofInt_neg, ← Int64.ofInt_add, ← Int64.ofInt_sub, ← Int64.ofInt_mul, ← Int64.ofInt_neg, pL_I, q_mx, q_mn, q_ab, q_abL, q_mnL, q_nn0, q_nn1, q_rr, q_b1, q_b0, q_T, q_F, q_iT, q_iF, q_d, q_in, q_wi, q_hC, q_hM, pT_i, pU_i, pS_i, pS_j, pS_0, Sum.elim_inl, Sum.elim_inr, if_pos, if_neg]
    | false => simp (disch := omega) only [f_X4_readsStep_31, Option.bind_some, qi, ql, qI_lt, qI_le, qI_eq, qI_L, qI_ix, qL_lt, qL_eq, q_nat, q_cs, ← Int32.ofInt_add, ← Int32.ofInt_sub, ← Int32.ofInt_mul, ← Int32.ofInt_neg, ← Int64.ofInt_add, ← Int64.ofInt_sub, ← Int64.ofInt_mul, ← Int64.ofInt_neg, pL_I, q_mx, q_mn, q_ab, q_abL, q_mnL, q_nn0, q_nn1, q_rr, q_b1, q_b0, q_T, q_F, q_iT, q_iF, q_d, q_in, q_wi, q_hC, q_hM, pT_i, pU_i, pS_i, pS_j, pS_0, Sum.elim_inl, Sum.elim_inr, if_pos, if_neg]
  have eM2 : f_X12_readStep_28 (f_X12_readStep (7 - d)) (Int32.ofInt (d : Int)) (Int32.ofInt (kd : Int)) blk σ2 = f_X12_readStep_54 (f_X12_readStep (7 - d)) (Int32.ofInt (d : Int)) (Int32.ofInt (kd : Int)) blk σ2 := by
    cases hb : blk with
    | true =>
      have := hd3 hb
      simp (disch := omega) only [f_X12_readStep_28, g', Option.bind_some, qi, ql, qI_lt, qI_le, qI_eq, qI_L, qI_ix, qL_lt, qL_eq, q_nat, q_cs, ← Int32.ofInt_add, ← Int32.ofInt_sub, ← Int32.ofInt_mul, ← Int32.ofInt_neg, ← Int64.ofInt_add, ← Int64.ofInt_sub, ← Int64.ofInt_mul, ← Int64.ofInt_neg, pL_I, q_mx, q_mn, q_ab, q_abL, q_mnL, q_nn0, q_nn1, q_rr, q_b1, q_b0, q_T, q_F, q_iT, q_iF, q_d, q_in, q_wi, q_hC, q_hM, pT_i, pU_i, pS_i, pS_j, pS_0, Sum.elim_inl, Sum.elim_inr, if_pos, if_neg]
    | false => simp (disch := omega) only [f_X12_readStep_28, g', Option.bind_some, qi, ql, qI_lt, qI_le, qI_eq, qI_L, qI_ix, qL_lt, qL_eq, q_nat, q_cs, ← Int32.ofInt_add, ← Int32.ofInt_sub, ← Int32.ofInt_mul, ← Int32.ofInt_neg, ← Int64.ofInt_add, ← Int64.ofInt_sub, ← Int64.ofInt_mul, ← Int64.ofInt_neg, pL_I, q_mx, q_mn, q_ab, q_abL, q_mnL, q_nn0, q_nn1, q_rr, q_b1, q_b0, q_T, q_F, q_iT, q_iF, q_d, q_in, q_wi, q_hC, q_hM, pT_i, pU_i, pS_i, pS_j, pS_0, Sum.elim_inl, Sum.elim_inr, if_pos, if_neg]
  rw [eM2]
  by_cases c40 : s = 40
  · right
    have r1 := tk_refuse h 6
    rw [if_neg (by omega)] at r1
    have r2 : f_X12_fail (Int32.ofInt 6) (Int32.ofInt (p : Int)) σ2 = some (FM σ2 6 p) := gd_fail g _ _
    have B : bd (FM σ2 6 p) 6 p := FM_b (by omega)
    have b80 := bd_80 (rc := f_X12_readStep (7 - d)) (v1 := Int32.ofInt (d : Int)) (v2 := Int32.ofInt (kd : Int)) (v3 := blk) B
    have st : f_X4_readsStep r σ1 = some (false, FC σ1 6 p) := by
      rw [eC2]
      simp (disch := omega) only [f_X4_readsStep_50, f_X4_readsStep_68, c5, r1, Option.bind_some, qi, ql, qI_lt, qI_le, qI_eq, qI_L, qI_ix, qL_lt, qL_eq, q_nat, q_cs, ← Int32.ofInt_add, ← Int32.ofInt_sub, ← Int32.ofInt_mul, ← Int32.ofInt_neg, ← Int64.ofInt_add, ← Int64.ofInt_sub, ← Int64.ofInt_mul, ← Int64.ofInt_neg, pL_I, q_mx, q_mn, q_ab, q_abL, q_mnL, q_nn0, q_nn1, q_rr, q_b1, q_b0, q_T, q_F, q_iT, q_iF, q_d, q_in, q_wi, q_hC, q_hM, pT_i, pU_i, pS_i, pS_j, pS_0, Sum.elim_inl, Sum.elim_inr, if_pos, if_neg]
    refine ⟨FC σ1 6 p, FM σ2 6 p, ?_, ?_, ⟨6, p, FC_f, B⟩, FC_q.z (fun _ _ _ => zR_t), FM_q.z (fun _ _ _ => zS_t)⟩
    · refine oc_no ?_
      rw [e17, st]
      rfl
    · simp (disch := omega) only [f_X12_readStep_54, g', n55, m15, r2, b80, Option.bind_some, qi, ql, qI_lt, qI_le, qI_eq, qI_L, qI_ix, qL_lt, qL_eq, q_nat, q_cs, ← Int32.ofInt_add, ← Int32.ofInt_sub, ← Int32.ofInt_mul, ← Int32.ofInt_neg, ← Int64.ofInt_add, ← Int64.ofInt_sub, ← Int64.ofInt_mul, ← Int64.ofInt_neg, pL_I, q_mx, q_mn, q_ab, q_abL, q_mnL, q_nn0, q_nn1, q_rr, q_b1, q_b0, q_T, q_F, q_iT, q_iF, q_d, q_in, q_wi, q_hC, q_hM, pT_i, pU_i, pS_i, pS_j, pS_0, Sum.elim_inl, Sum.elim_inr, if_pos, if_neg]
  have eM3 : f_X12_readStep_54 (f_X12_readStep (7 - d)) (Int32.ofInt (d : Int)) (Int32.ofInt (kd : Int)) blk σ2 = f_X12_readStep_80 (f_X12_readStep (7 - d)) (Int32.ofInt (d : Int)) (Int32.ofInt (kd : Int)) blk σ2 := by
    simp (disch := omega) only [f_X12_readStep_54, g', n55, Option.bind_some, qi, ql, qI_lt, qI_le, qI_eq, qI_L, qI_ix, qL_lt, qL_eq, q_nat, q_cs, ← Int32.ofInt_add, ← Int32.ofInt_sub, ← Int32.ofInt_mul, ← Int32.ofInt_neg, ← Int64.ofInt_add, ← Int64.ofInt_sub, ← Int64.ofInt_mul, ← Int64.ofInt_neg, pL_I, q_mx, q_mn, q_ab, q_abL, q_mnL, q_nn0, q_nn1, q_rr, q_b1, q_b0, q_T, q_F, q_iT, q_iF, q_d, q_in, q_wi, q_hC, q_hM, pT_i, pU_i, pS_i, pS_j, pS_0, Sum.elim_inl, Sum.elim_inr, if_pos, if_neg]
  rw [eM3]
  have hR : R < 80 := by omega
  have hs : s < 40 := by omega
  rcases gs_head (rc := f_X12_readStep (7 - d)) (v1 := Int32.ofInt (d : Int)) (blk := blk) (by omega : kd < 6) h s1 g c4 c5 c7 n55 hR hs hd3 with ⟨τ1, τ2, sT', p', e', a1, a2, a3, a4, a5, a6, a7, a8, a9, b4, b5, b7, Z1, Z2⟩ | ⟨τ1, τ2, a1, a2, a3⟩
  rotate_left
  · right
    refine ⟨τ1, τ2, ?_, a2, a3⟩
    refine oc_no ?_
    rw [e17, eC2, a1]
    rfl
  have eI : ocC r (Int32.ofInt (R : Int)) σ1 = ocC r (Int32.ofInt ((R + 1 : Nat) : Int)) (gFin r R s d blk τ1) := by
    refine oc_in ?_
    rw [e17, eC2, a1, Option.bind_some]
    simp (disch := omega) only [f_X4_readFrom_73, Option.bind_some, qi, ql, qI_lt, qI_le, qI_eq, qI_L, qI_ix, qL_lt, qL_eq, q_nat, q_cs, ← Int32.ofInt_add, ← Int32.ofInt_sub, ← Int32.ofInt_mul, ← Int32.ofInt_neg, ← Int64.ofInt_add, ← Int64.ofInt_sub, ← Int64.ofInt_mul, ← Int64.ofInt_neg, pL_I, q_mx, q_mn, q_ab, q_abL, q_mnL, q_nn0, q_nn1, q_rr, q_b1, q_b0, q_T, q_F, q_iT, q_iF, q_d, q_in, q_wi, q_hC, q_hM, pT_i, pU_i, pS_i, pS_j, pS_0, Sum.elim_inl, Sum.elim_inr, if_pos, if_neg]
  have ps : pg_step (τ1.1 500 r) (τ1.1 501 r) (τ1.1 502 r) (τ2.1 1372 0) (τ2.1 1373 0) (τ2.1 1374 0) s R kd := ⟨a7, a8, a6.1, a6.2.1, fun z => by
    obtain ⟨t, nn, q1, q2, q3, q4, q5, q6, q7⟩ := a6.2.2 z
    exact ⟨t, nn, q1, q2, q3, q4, q5, q6, q7⟩⟩
  rw [eI, a2]
  cases hb : blk with
  | false =>
    left
    have kd4 : kd < 4 := by
      rw [hblk] at hb
      have := of_decide_eq_false hb
      omega
    have lp : am_loop (fun t : am_H => f_X12_readStep_203 (f_X12_readStep (7 - d)) (Int32.ofInt (d : Int)) false (Int32.ofInt (s : Int)) t) τ2 = some τ2 := am_loop_out (by simp (disch := omega) only [f_X12_readStep_203, Option.bind_some, qi, ql, qI_lt, qI_le, qI_eq, qI_L, qI_ix, qL_lt, qL_eq, q_nat, q_cs, ← Int32.ofInt_add, ← Int32.ofInt_sub, ← Int32.ofInt_mul, ← Int32.ofInt_neg, ← Int64.ofInt_add, ← Int64.ofInt_sub, ← Int64.ofInt_mul, ← Int64.ofInt_neg, pL_I, q_mx, q_mn, q_ab, q_abL, q_mnL, q_nn0, q_nn1, q_rr, q_b1, q_b0, q_T, q_F, q_iT, q_iF, q_d, q_in, q_wi, q_hC, q_hM, pT_i, pU_i, pS_i, pS_j, pS_0, Sum.elim_inl, Sum.elim_inr, if_pos, if_neg])
    have tl : gTail (f_X12_readStep (7 - d)) (Int32.ofInt (d : Int)) false (Int32.ofInt (s : Int)) τ2 = some (am_wI τ2 1375 0 s (Int32.ofInt ((s : Int) + 1))) := by
      unfold gTail
      rw [lp, Option.bind_some, if_neg Bool.false_ne_true, g_260 hs, a9]
    have QC : qf [(4, 4), (4, 5)] τ1 (gFin r R s d false τ1) := (qf.rf.wI rfl).wI rfl
    have QM : qf [(1375, 999)] τ2 (am_wI τ2 1375 0 s (Int32.ofInt ((s : Int) + 1))) := qf.rf.wI rfl
    have ZC : qz (zR r R d) τ1 (gFin r R s d false τ1) := (qz.rf.wI zR_c.1).wI zR_c.2.1
    refine ⟨gFin r R s d false τ1, am_wI τ2 1375 0 s (Int32.ofInt ((s : Int) + 1)), sT', p', e', R + 1, s + 1, 1, rfl, tl, a3.q QC (by decide +kernel) QM (by decide +kernel), a4, by omega, fun _ => a5, fun z => absurd z Bool.false_ne_true, ⟨?_, ?_, ((QC 4 r 7 rfl).1).trans b7, a9, by omega, by omega⟩, ?_, Z1.tr ZC, Z2.wI (zS_r (Nat.le_refl s)).2.2.2⟩
    · show (am_wI (am_wI τ1 4 r 4 _) 4 r 5 _).1 4 r 4 = _
      rw [am_wI_r, if_neg (by omega), am_wI_r, if_pos ⟨rfl, rfl, rfl⟩]
      rfl
    · show (am_wI (am_wI τ1 4 r 4 _) 4 r 5 _).1 4 r 5 = _
      rw [am_wI_r, if_pos ⟨rfl, rfl, rfl⟩]
      rfl
    · refine Or.inr (Or.inl ⟨kd, kd4, pg_step_c ps ((QC 500 r R rfl).1) ((QC 501 r R rfl).1) ((QC 502 r R rfl).1) rfl rfl rfl, ?_, ⟨rfl, rfl⟩⟩)
      rw [am_wI_r, if_pos ⟨rfl, rfl, rfl⟩]
      rfl
  | true =>
    have dlt := hd3 hb
    have kd45 : kd = 4 ∨ kd = 5 := by
      rw [hblk] at hb
      exact of_decide_eq_true hb
    have QC : qf [(506, 999), (4, 7), (4, 4), (4, 5)] τ1 (gFin r R s d true τ1) := (((qf.rf.wI rfl).wI rfl).wI rfl).wI rfl
    have ZC : qz (zR r R d) τ1 (gFin r R s d true τ1) := (((qz.rf.wI (zR_o (Nat.le_refl d))).wI zR_c.2.2).wI zR_c.1).wI zR_c.2.1
    obtain ⟨ρ1, hρ1⟩ : ∃ ρ1 : am_H, ρ1 = gFin r R s d true τ1 := ⟨_, rfl⟩
    rw [← hρ1] at QC ZC ⊢
    have f4 : ρ1.1 4 r 4 = Int32.ofInt ((R + 1 : Nat) : Int) := by
      rw [hρ1]
      show (am_wI (am_wI (am_wI (am_wI τ1 506 r d _) 4 r 7 _) 4 r 4 _) 4 r 5 _).1 4 r 4 = _
      rw [am_wI_r, if_neg (by omega), am_wI_r, if_pos ⟨rfl, rfl, rfl⟩]
      rfl
    have f5 : ρ1.1 4 r 5 = Int32.ofInt ((s + 1 : Nat) : Int) := by
      rw [hρ1]
      show (am_wI (am_wI (am_wI (am_wI τ1 506 r d _) 4 r 7 _) 4 r 4 _) 4 r 5 _).1 4 r 5 = _
      rw [am_wI_r, if_pos ⟨rfl, rfl, rfl⟩]
      rfl
    have f7 : ρ1.1 4 r 7 = Int32.ofInt ((d + 1 : Nat) : Int) := by
      rw [hρ1]
      show (am_wI (am_wI (am_wI (am_wI τ1 506 r d _) 4 r 7 _) 4 r 4 _) 4 r 5 _).1 4 r 7 = _
      rw [am_wI_r, if_neg (by omega), am_wI_r, if_neg (by omega), am_wI_r, if_pos ⟨rfl, rfl, rfl⟩]
      rfl
    have f506 : ρ1.1 506 r d = Int32.ofInt (R : Int) := by
      rw [hρ1]
      show (am_wI (am_wI (am_wI (am_wI τ1 506 r d _) 4 r 7 _) 4 r 4 _) 4 r 5 _).1 506 r d = _
      rw [am_wI_r, if_neg (by omega), am_wI_r, if_neg (by omega), am_wI_r, if_neg (by omega), am_wI_r, if_pos ⟨rfl, rfl, rfl⟩]
    have tρ := a3.q QC (by decide +kernel) (qf.rf (l := [])) (by decide +kernel)
    have psρ : pg_step (ρ1.1 500 r) (ρ1.1 501 r) (ρ1.1 502 r) (τ2.1 1372 0) (τ2.1 1373 0) (τ2.1 1374 0) s R kd := pg_step_c ps ((QC 500 r R rfl).1) ((QC 501 r R rfl).1) ((QC 502 r R rfl).1) rfl rfl rfl
    have B := ihB d ρ1 τ2 sT' p' e' (R + 1) (s + 1) (Int32.ofInt (s : Int)) dlt (by omega) tρ a4 ⟨f4, f5, f7, a9, by omega, by omega⟩
    rcases B with ⟨φ1, φ2, s3, p3, e3, R', s', m, x1, x2, x3, x4, x5, -, x7, ⟨y4, y5, y7, y55, yi, yj⟩, xs, X1, X2⟩ | ⟨φ1, φ2, x1, x2, ⟨k, q, x3, x4⟩, X1, X2⟩
    rotate_left
    · right
      have tl : gTail (f_X12_readStep (7 - d)) (Int32.ofInt (d : Int)) true (Int32.ofInt (s : Int)) τ2 = gTail (f_X12_readStep (7 - d)) (Int32.ofInt (d : Int)) true (Int32.ofInt (s : Int)) φ2 := by
        have lp : am_loop (fun t : am_H => f_X12_readStep_203 (f_X12_readStep (7 - d)) (Int32.ofInt (d : Int)) true (Int32.ofInt (s : Int)) t) φ2 = some φ2 := am_loop_out (by
          have e1 := x4.1
          have e2 := x4.2.1
          simp (disch := omega) only [f_X12_readStep_203, e2, Option.bind_some, qi, ql, qI_lt, qI_le, qI_eq, qI_L, qI_ix, qL_lt, qL_eq, q_nat, q_cs, ← Int32.ofInt_add, ← Int32.ofInt_sub, ← Int32.ofInt_mul, ← Int32.ofInt_neg, ← Int64.ofInt_add, ← Int64.ofInt_sub, ← Int64.ofInt_mul, ← Int64.ofInt_neg, pL_I, q_mx, q_mn, q_ab, q_abL, q_mnL, q_nn0, q_nn1, q_rr, q_b1, q_b0, q_T, q_F, q_iT, q_iF, q_d, q_in, q_wi, q_hC, q_hM, pT_i, pU_i, pS_i, pS_j, pS_0, Sum.elim_inl, Sum.elim_inr, if_pos, if_neg])
        unfold gTail
        rw [x2, lp]
      refine ⟨φ1, am_wI φ2 1375 0 s (φ2.1 12 0 55), x1, tl.trans (bd_tail x4 hs), ⟨k, q, x3, x4⟩, (Z1.tr ZC).tr (X1.mo (fun _ _ _ => zR_m (by omega) (by omega))), (Z2.tr (X2.mo (fun _ _ _ => zS_m (by omega)))).wI (zS_r (Nat.le_refl s)).2.2.2⟩
    have w10' := x7 rfl
    have s31 : s3 = 1 := wq_1 w10'
    have le := pg_seg_le _ _ _ _ _ _ xs
    have o506 : φ1.1 506 r d = Int32.ofInt (R : Int) := ((X1 506 r d (zR_ko (by omega))).1).trans f506
    obtain ⟨ψ1, ψ2, s5, p5, e5, z1, z2, z3, z4, z5, z6⟩ := tk_next x3 (Or.inl s31)
    have pe3 := (x3.2.2.2.2.2.2.1 (Or.inl s31)).1
    have gψ : gd ψ2 := ((z6 12 0 12 rfl).1).trans x4
    have x4' : φ2.1 12 0 12 = Int32.ofInt 0 := x4
    -- the class ends the block
    obtain ⟨χ, hχ⟩ : ∃ χ : am_H, χ = am_wI (am_wI (am_wI (am_wI (am_wI ψ1 4 r 7 (Int32.ofInt (d : Int))) 500 r R' (Int32.ofInt 6)) 503 r R' (Int32.ofInt (R : Int))) 503 r R (Int32.ofInt (R' : Int))) 4 r 4 (Int32.ofInt ((R' : Int) + 1)) := ⟨_, rfl⟩
    have Qχ : qf [(4, 7), (500, 999), (503, 999), (4, 4)] ψ1 χ := by rw [hχ]; exact ((((qf.rf.wI rfl).wI rfl).wI rfl).wI rfl).wI rfl
    have Zφ : qz (zR r R d) σ1 φ1 := (Z1.tr ZC).tr (X1.mo (fun _ _ _ => zR_m (by omega) (by omega)))
    have Zψ : qz (zR r R d) σ1 ψ1 := Zφ.tr ((z5.mo (by decide)).z (l := tlC) (fun _ _ _ => zR_t))
    have Zχ : qz (zR r R d) σ1 χ := by
      rw [hχ]
      exact ((((Zψ.wI zR_c.2.2).wI (zR_r (by omega)).1).wI (zR_r (by omega)).2.2.2).wI (zR_r (Nat.le_refl R)).2.2.2).wI zR_c.1
    have Yφ : qz (zS s) σ2 φ2 := Z2.tr (X2.mo (fun _ _ _ => zS_m (by omega)))
    have Yψ : qz (zS s) σ2 ψ2 := Yφ.tr ((z6.mo (by decide)).z (l := tlM) (fun _ _ _ => zS_t))
    have R80 : R' < 80 := by omega
    have eE : f_X4_readsEnd r φ1 = (f_X5_takesSign χ).bind fun p13 => some (p13.1, p13.2) := by
      have q4 : ψ1.1 4 r 4 = Int32.ofInt (R' : Int) := ((z5 4 r 4 rfl).1).trans y4
      have q7 : ψ1.1 4 r 7 = Int32.ofInt ((d : Int) + 1) := ((z5 4 r 7 rfl).1).trans y7
      have q506 : ψ1.1 506 r d = Int32.ofInt (R : Int) := ((z5 506 r d rfl).1).trans o506
      have i80 : am_ix 80 (Int32.ofInt (R' : Int)) = some R' := by rw [qI_ix (by omega) (by omega) (by omega), q_nat]
      have i80' : am_ix 80 (Int32.ofInt (R : Int)) = some R := by rw [qI_ix (by omega) (by omega) (by omega), q_nat]
      have i3 : am_ix 3 (Int32.ofInt (d : Int)) = some d := by rw [qI_ix (by omega) (by omega) (by omega), q_nat]
      have x1' : 0 < φ1.1 4 r 7 := by
        rw [y7, qi, qI_lt (by omega) (by omega) (by omega) (by omega)]
        omega
      have x2' : φ1.1 4 r 4 < 80 := by
        rw [y4, qi, qI_lt (by omega) (by omega) (by omega) (by omega)]
        omega
      have ed : ψ1.1 4 r 7 - 1 = Int32.ofInt (d : Int) := by
        rw [q7, qi, ← Int32.ofInt_sub, show (d : Int) + 1 - 1 = (d : Int) by omega]
      have v1 : ∀ v : Int32, (am_wI ψ1 4 r 7 v).1 4 r 4 = Int32.ofInt (R' : Int) := fun v => by
        rw [am_wI_r, if_neg (by omega)]
        exact q4
      have v2 : ∀ v : Int32, (am_wI ψ1 4 r 7 v).1 4 r 7 = v := fun v => by
        rw [am_wI_r, if_pos ⟨rfl, rfl, rfl⟩]
      have v3 : ∀ v : Int32, (am_wI ψ1 4 r 7 v).1 506 r d = Int32.ofInt (R : Int) := fun v => q506
      have v4 : ∀ v u : Int32, (am_wI (am_wI ψ1 4 r 7 v) 500 r R' u).1 4 r 4 = Int32.ofInt (R' : Int) := fun v u => v1 v
      have v5 : ∀ v u w : Int32, (am_wI (am_wI (am_wI ψ1 4 r 7 v) 500 r R' u) 503 r R' w).1 4 r 4 = Int32.ofInt (R' : Int) := fun v u w => v1 v
      have v6 : ∀ v u w x : Int32, (am_wI (am_wI (am_wI (am_wI ψ1 4 r 7 v) 500 r R' u) 503 r R' w) 503 r R x).1 4 r 4 = Int32.ofInt (R' : Int) := fun v u w x => v1 v
      unfold f_X4_readsEnd
      rw [if_pos x1', if_pos x2', z1, Option.bind_some, ed, Option.bind_some, v2, i3, Option.bind_some, v1, i80, Option.bind_some, Option.bind_some, v4, i80, Option.bind_some, v3, Option.bind_some, i80', Option.bind_some, v5, Option.bind_some, v6, hχ, show Int32.ofInt (R' : Int) + 1 = Int32.ofInt ((R' : Int) + 1) from (by rw [qi, ← Int32.ofInt_add])]
      rfl
    have eL : ocC r (Int32.ofInt (R' : Int)) φ1 = (f_X5_takesSign χ).bind fun p13 => if p13.1 = true then ocC r (Int32.ofInt ((R' + 1 : Nat) : Int)) p13.2 else some (false, p13.2) := by
      have e := (oc_17 (r := r) (R := R') x3 (by omega) (by omega)).1 w10'
      rw [eE] at e
      cases hts : f_X5_takesSign χ with
      | none =>
        rw [hts] at e
        unfold ocC
        rw [am_loop_eq, e]
        rfl
      | some o =>
        obtain ⟨o1, o2⟩ := o
        rw [hts] at e
        cases o1 with
        | true =>
          refine oc_in ?_
          rw [e]
          simp (disch := omega) only [f_X4_readFrom_73, Option.bind_some, qi, ql, qI_lt, qI_le, qI_eq, qI_L, qI_ix, qL_lt, qL_eq, q_nat, q_cs, ← Int32.ofInt_add, ← Int32.ofInt_sub, ← Int32.ofInt_mul, ← Int32.ofInt_neg, ← Int64.ofInt_add, ← Int64.ofInt_sub, ← Int64.ofInt_mul, ← Int64.ofInt_neg, pL_I, q_mx, q_mn, q_ab, q_abL, q_mnL, q_nn0, q_nn1, q_rr, q_b1, q_b0, q_T, q_F, q_iT, q_iF, q_d, q_in, q_wi, q_hC, q_hM, pT_i, pU_i, pS_i, pS_j, pS_0, Sum.elim_inl, Sum.elim_inr, if_pos, if_neg]
        | false =>
          refine oc_no ?_
          rw [e]
          rfl
    have En : f_X12_isEnd φ2 = some true := by
      rw [(tk_ref x3).2.2.2.2.2.2.2, w10']
    have mt : f_X12_must true φ2 = some ψ2 := by simp (disch := omega) only [f_X12_must, x4', z2, Option.bind_some, qi, ql, qI_lt, qI_le, qI_eq, qI_L, qI_ix, qL_lt, qL_eq, q_nat, q_cs, ← Int32.ofInt_add, ← Int32.ofInt_sub, ← Int32.ofInt_mul, ← Int32.ofInt_neg, ← Int64.ofInt_add, ← Int64.ofInt_sub, ← Int64.ofInt_mul, ← Int64.ofInt_neg, pL_I, q_mx, q_mn, q_ab, q_abL, q_mnL, q_nn0, q_nn1, q_rr, q_b1, q_b0, q_T, q_F, q_iT, q_iF, q_d, q_in, q_wi, q_hC, q_hM, pT_i, pU_i, pS_i, pS_j, pS_0, Sum.elim_inl, Sum.elim_inr, if_pos, if_neg]
    have tl : gTail (f_X12_readStep (7 - d)) (Int32.ofInt (d : Int)) true (Int32.ofInt (s : Int)) τ2 = if (ψ2.1 12 0 14) = 3 then f_X12_readStep_257 (f_X12_readStep (7 - d)) (Int32.ofInt (s : Int)) true ψ2 else f_X12_readStep_257 (f_X12_readStep (7 - d)) (Int32.ofInt (s : Int)) false ψ2 := by
      unfold gTail
      rw [x2, Option.bind_some, if_pos rfl, En, Option.bind_some, mt, Option.bind_some]
    rw [x1, eL, tl]
    have hχt := z3.q Qχ (by decide +kernel) (qf.rf (l := [])) (by decide +kernel)
    have m14 := z3.2.2.2.1.1
    have s5b := z3.2.2.2.2.2.1
    rcases tk_sign hχt gψ with ⟨c3', κ1, κ2, s9, p9, e9, d1, d2, d3, d4, d5, d6, d7⟩ | ⟨c3', q, qb, d1, d2⟩
    rotate_left
    · right
      have B : bd (FM ψ2 q p5) q p5 := FM_b qb
      have x3' : ¬ ψ2.1 12 0 14 = 3 := by
        rw [m14, qi, qI_eq (by omega) (by omega) (by omega) (by omega)]
        omega
      refine ⟨FC χ q p5, am_wI (FM ψ2 q p5) 1375 0 s ((FM ψ2 q p5).1 12 0 55), ?_, ?_, ⟨q, p5, FC_f, B⟩, Zχ.tr (FC_q.z (fun _ _ _ => zR_t)), (Yψ.tr (FM_q.z (fun _ _ _ => zS_t))).wI (zS_r (Nat.le_refl s)).2.2.2⟩
      · rw [d1]
        rfl
      · rw [if_neg x3']
        unfold f_X12_readStep_257
        rw [d2, Option.bind_some, g_260 hs]
    left
    have x3' : ψ2.1 12 0 14 = 3 := by
      rw [m14, c3']
      rfl
    have k55 : κ2.1 12 0 55 = Int32.ofInt (s' : Int) := ((d7 12 0 55 rfl).1).trans (((z6 12 0 55 rfl).1).trans y55)
    have QE : qf [(1375, 999)] κ2 (am_wI κ2 1375 0 s (Int32.ofInt (s' : Int))) := qf.rf.wI rfl
    -- what stood stands
    have P5 : ∀ k j, (k = 500 ∨ k = 503) → j ≠ R' → j ≠ R → κ1.1 k r j = φ1.1 k r j := fun k j hk h1 h2 => by
      rw [(d6 k r j (q_tlC (by omega))).1, hχ, am_wI_r, if_neg (by omega), am_wI_r, if_neg (by omega), am_wI_r, if_neg (by omega), am_wI_r, if_neg (by omega), am_wI_r, if_neg (by omega)]
      exact (z5 k r j (by rcases hk with rfl | rfl <;> rfl)).1
    have P6 : ∀ k j, (k = 501 ∨ k = 502) → κ1.1 k r j = φ1.1 k r j := fun k j hk => by
      rw [(d6 k r j (q_tlC (by omega))).1, (Qχ k r j (by rcases hk with rfl | rfl <;> rfl)).1]
      exact (z5 k r j (by rcases hk with rfl | rfl <;> rfl)).1
    have P500 : κ1.1 500 r R = φ1.1 500 r R := by
      rw [(d6 500 r R rfl).1, hχ, am_wI_r, if_neg (by omega), am_wI_r, if_neg (by omega), am_wI_r, if_neg (by omega), am_wI_r, if_neg (by omega), am_wI_r, if_neg (by omega)]
      exact (z5 500 r R rfl).1
    have N500 : κ1.1 500 r R' = Int32.ofInt 6 := by
      rw [(d6 500 r R' rfl).1, hχ, am_wI_r, if_neg (by omega), am_wI_r, if_neg (by omega), am_wI_r, if_neg (by omega), am_wI_r, if_pos ⟨rfl, rfl, rfl⟩]
    have N503 : κ1.1 503 r R' = Int32.ofInt (R : Int) := by
      rw [(d6 503 r R' rfl).1, hχ, am_wI_r, if_neg (by omega), am_wI_r, if_neg (by omega), am_wI_r, if_pos ⟨rfl, rfl, rfl⟩]
    have N503' : κ1.1 503 r R = Int32.ofInt (R' : Int) := by
      rw [(d6 503 r R rfl).1, hχ, am_wI_r, if_neg (by omega), am_wI_r, if_pos ⟨rfl, rfl, rfl⟩]
    have N4 : κ1.1 4 r 4 = Int32.ofInt ((R' + 1 : Nat) : Int) := by
      rw [(d6 4 r 4 rfl).1, hχ, am_wI_r, if_pos ⟨rfl, rfl, rfl⟩]
      rfl
    have N7 : κ1.1 4 r 7 = Int32.ofInt (d : Int) := by
      rw [(d6 4 r 7 rfl).1, hχ, am_wI_r, if_neg (by omega), am_wI_r, if_neg (by omega), am_wI_r, if_neg (by omega), am_wI_r, if_neg (by omega), am_wI_r, if_pos ⟨rfl, rfl, rfl⟩]
    have N5 : κ1.1 4 r 5 = Int32.ofInt (s' : Int) := by
      rw [(d6 4 r 5 rfl).1, (Qχ 4 r 5 rfl).1, (z5 4 r 5 rfl).1]
      exact y5
    have M5 : ∀ k j, (k = 1372 ∨ k = 1373 ∨ k = 1374) → (am_wI κ2 1375 0 s (Int32.ofInt (s' : Int))).1 k 0 j = φ2.1 k 0 j := fun k j hk => by
      rw [(QE k 0 j (by rcases hk with rfl | rfl | rfl <;> rfl)).1, (d7 k 0 j (q_tlM (by omega))).1]
      exact (z6 k 0 j (by rcases hk with rfl | rfl | rfl <;> rfl)).1
    have M75 : ∀ j, j ≠ s → (am_wI κ2 1375 0 s (Int32.ofInt (s' : Int))).1 1375 0 j = φ2.1 1375 0 j := fun j hj => by
      rw [am_wI_r, if_neg (by omega), (d7 1375 0 j rfl).1]
      exact (z6 1375 0 j rfl).1
    have aR := zR_k (r := r) (R := R + 1) (dp := d + 1) (j := R) (by omega)
    have aS := zS_k (s := s + 1) (j := s) (by omega)
    refine ⟨κ1, am_wI κ2 1375 0 s (Int32.ofInt (s' : Int)), s9, p9, e9, R' + 1, s', m + 1, ?_, ?_, d3.q (qf.rf (l := [])) (by decide +kernel) QE (by decide +kernel), d4, by omega, fun _ => by omega, fun z => absurd z Bool.false_ne_true, ⟨N4, N5, N7, k55, by omega, yj⟩, ?_, Zχ.tr (d6.z (fun _ _ _ => zR_t)), (Yψ.tr (d7.z (fun _ _ _ => zS_t))).wI (zS_r (Nat.le_refl s)).2.2.2⟩
    · rw [d1, Option.bind_some, if_pos rfl]
    · rw [if_pos x3']
      unfold f_X12_readStep_257
      rw [d2, Option.bind_some, g_260 hs, k55]
    · refine Or.inr (Or.inr ⟨kd, 3 - (d + 1), s', R', kd45, by omega, pg_step_c psρ ?_ ?_ ?_ ?_ ?_ ?_, ?_, pg_seg_c _ _ _ _ _ _ xs (fun i j1 j2 => ⟨P5 500 i (by omega) (by omega) (by omega), P6 501 i (by omega), P6 502 i (by omega), P5 503 i (by omega) (by omega) (by omega)⟩) (fun i j1 j2 => ⟨M5 1372 i (by omega), M5 1373 i (by omega), M5 1374 i (by omega), M75 i (by omega)⟩), N500, N503, N503', pg_seg_up 0 m _ _ _ _ _ (by omega) ⟨rfl, rfl⟩⟩)
      · rw [P500]
        exact (X1 500 r R aR.1).1
      · rw [P6 501 R (by omega)]
        exact (X1 501 r R aR.2.1).1
      · rw [P6 502 R (by omega)]
        exact (X1 502 r R aR.2.2.1).1
      · rw [M5 1372 s (by omega)]
        exact (X2 1372 0 s aS.1).1
      · rw [M5 1373 s (by omega)]
        exact (X2 1373 0 s aS.2.1).1
      · rw [M5 1374 s (by omega)]
        exact (X2 1374 0 s aS.2.2.1).1
      · rw [am_wI_r, if_pos ⟨rfl, rfl, rfl⟩]
