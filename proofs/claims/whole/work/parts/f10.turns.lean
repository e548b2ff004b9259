/-! ===== MACHINE: TURNS and HOURS ===== -/
/-- a fresh WAVE of the class, of the reference -/
def w0C (k : Nat) : Int := if k ≤ 1 then 1 else if k ≤ 4 then 0 else 1
def w0M (k : Nat) : Int := if 4 < k then 1 else 0
/-- the same cells, and the name -/
def zX (R : Nat) (k i j : Nat) : Bool := zW R k i j || (k == 10 && i == R)
def zY (c : Nat) (k i j : Nat) : Bool := zV c k i j || (k == 1326 && j == c)
theorem zX_t {R k i j : Nat} (h : zW R k i j = true) : zX R k i j = true := by
  unfold zX
  rw [h]
  rfl
theorem zY_t {c k i j : Nat} (h : zV c k i j = true) : zY c k i j = true := by
  unfold zY
  rw [h]
  rfl
theorem zX_w {R j : Nat} : zX R 10 R j = true ∧ zX R 1106 R j = true := by
  unfold zX zW
  simp
theorem zY_n {c : Nat} : zY c 1326 0 c = true := by
  unfold zY
  simp
theorem mc_clear {σ : am_H} {R : Nat} {nm : Int64} : ∃ τ : am_H, f_X10_clear R nm σ = some τ ∧ qf [(10, 7), (10, 8), (10, 999), (1106, 999)] σ τ ∧ qz (zX R) σ τ ∧ τ.2.1 10 R 0 = nm ∧ pw_C τ R w0C := by
  have z0 : (0 : Int).toNat = 0 := rfl
  have z1 : (1 : Int).toNat = 1 := rfl
  have z2 : (2 : Int).toNat = 2 := rfl
  have z3 : (3 : Int).toNat = 3 := rfl
  obtain ⟨ρ, hρ⟩ : ∃ ρ : am_H, ρ = am_wI (am_wI (am_wI (am_wI (am_wI (am_wL σ 10 R 0 nm) 10 R 1 (Int32.ofInt 1)) 10 R 2 (Int32.ofInt 1)) 10 R 3 (Int32.ofInt 0)) 10 R 4 (Int32.ofInt 0)) 10 R 5 (Int32.ofInt 0) := ⟨_, rfl⟩
  have x0 : f_X10_clear_32 R (Int32.ofInt 0) ρ = some (.inl (Int32.ofInt 1, am_wI ρ 1106 R 0 (Int32.ofInt 1))) := by
    simp (disch := omega) only [f_X10_clear_32, z0, Option.bind_some, qi, ql, qI_lt, qI_le, qI_eq, qI_L, qI_ix, qL_lt, qL_eq, q_nat, q_cs, ← Int32.ofInt_add, ← Int32.ofInt_sub, ← Int32.ofInt_mul, ← Int32.ofInt_neg, ← Int64.ofInt_add, ← Int64.ofInt_sub, ← Int64.ofInt_mul, ← Int64.ofInt_neg, pL_I, q_mx, q_mn, q_ab, q_abL, q_mnL, q_nn0, q_nn1, q_rr, q_b1, q_b0, q_T, q_F, q_iT, q_iF, q_d, q_in, q_wi, q_hC, q_hM, pT_i, pU_i, pS_i, pS_j, pS_0, Sum.elim_inl, Sum.elim_inr, if_pos, if_neg]
    rfl
  have x1 : f_X10_clear_32 R (Int32.ofInt 1) (am_wI ρ 1106 R 0 (Int32.ofInt 1)) = some (.inl (Int32.ofInt 2, am_wI (am_wI ρ 1106 R 0 (Int32.ofInt 1)) 1106 R 1 (Int32.ofInt 1))) := by
    simp (disch := omega) only [f_X10_clear_32, z1, Option.bind_some, qi, ql, qI_lt, qI_le, qI_eq, qI_L, qI_ix, qL_lt, qL_eq, q_nat, q_cs, ← Int32.ofInt_add, ← Int32.ofInt_sub, ← Int32.ofInt_mul, ← Int32.ofInt_neg, ← Int64.ofInt_add, ← Int64.ofInt_sub, ← Int64.ofInt_mul, ← Int64.ofInt_neg, pL_I, q_mx, q_mn, q_ab, q_abL, q_mnL, q_nn0, q_nn1, q_rr, q_b1, q_b0, q_T, q_F, q_iT, q_iF, q_d, q_in, q_wi, q_hC, q_hM, pT_i, pU_i, pS_i, pS_j, pS_0, Sum.elim_inl, Sum.elim_inr, if_pos, if_neg]
    rfl
  have x2 : f_X10_clear_32 R (Int32.ofInt 2) (am_wI (am_wI ρ 1106 R 0 (Int32.ofInt 1)) 1106 R 1 (Int32.ofInt 1)) = some (.inl (Int32.ofInt 3, am_wI (am_wI (am_wI ρ 1106 R 0 (Int32.ofInt 1)) 1106 R 1 (Int32.ofInt 1)) 1106 R 2 (Int32.ofInt 1))) := by
    simp (disch := omega) only [f_X10_clear_32, z2, Option.bind_some, qi, ql, qI_lt, qI_le, qI_eq, qI_L, qI_ix, qL_lt, qL_eq, q_nat, q_cs, ← Int32.ofInt_add, ← Int32.ofInt_sub, ← Int32.ofInt_mul, ← Int32.ofInt_neg, ← Int64.ofInt_add, ← Int64.ofInt_sub, ← Int64.ofInt_mul, ← Int64.ofInt_neg, pL_I, q_mx, q_mn, q_ab, q_abL, q_mnL, q_nn0, q_nn1, q_rr, q_b1, q_b0, q_T, q_F, q_iT, q_iF, q_d, q_in, q_wi, q_hC, q_hM, pT_i, pU_i, pS_i, pS_j, pS_0, Sum.elim_inl, Sum.elim_inr, if_pos, if_neg]
    rfl
  have x3 : f_X10_clear_32 R (Int32.ofInt 3) (am_wI (am_wI (am_wI ρ 1106 R 0 (Int32.ofInt 1)) 1106 R 1 (Int32.ofInt 1)) 1106 R 2 (Int32.ofInt 1)) = some (.inl (Int32.ofInt 4, am_wI (am_wI (am_wI (am_wI ρ 1106 R 0 (Int32.ofInt 1)) 1106 R 1 (Int32.ofInt 1)) 1106 R 2 (Int32.ofInt 1)) 1106 R 3 (Int32.ofInt 1))) := by
    simp (disch := omega) only [f_X10_clear_32, z3, Option.bind_some, qi, ql, qI_lt, qI_le, qI_eq, qI_L, qI_ix, qL_lt, qL_eq, q_nat, q_cs, ← Int32.ofInt_add, ← Int32.ofInt_sub, ← Int32.ofInt_mul, ← Int32.ofInt_neg, ← Int64.ofInt_add, ← Int64.ofInt_sub, ← Int64.ofInt_mul, ← Int64.ofInt_neg, pL_I, q_mx, q_mn, q_ab, q_abL, q_mnL, q_nn0, q_nn1, q_rr, q_b1, q_b0, q_T, q_F, q_iT, q_iF, q_d, q_in, q_wi, q_hC, q_hM, pT_i, pU_i, pS_i, pS_j, pS_0, Sum.elim_inl, Sum.elim_inr, if_pos, if_neg]
    rfl
  have lp : am_loop (fun s : Int32 × am_H => f_X10_clear_32 R s.1 s.2) (Int32.ofInt 0, ρ) = some (am_wI (am_wI (am_wI (am_wI ρ 1106 R 0 (Int32.ofInt 1)) 1106 R 1 (Int32.ofInt 1)) 1106 R 2 (Int32.ofInt 1)) 1106 R 3 (Int32.ofInt 1)) := (am_loop_in (s' := (Int32.ofInt 1, am_wI ρ 1106 R 0 (Int32.ofInt 1))) x0).trans ((am_loop_in (s' := (Int32.ofInt 2, am_wI (am_wI ρ 1106 R 0 (Int32.ofInt 1)) 1106 R 1 (Int32.ofInt 1))) x1).trans ((am_loop_in (s' := (Int32.ofInt 3, am_wI (am_wI (am_wI ρ 1106 R 0 (Int32.ofInt 1)) 1106 R 1 (Int32.ofInt 1)) 1106 R 2 (Int32.ofInt 1))) x2).trans ((am_loop_in (s' := (Int32.ofInt 4, am_wI (am_wI (am_wI (am_wI ρ 1106 R 0 (Int32.ofInt 1)) 1106 R 1 (Int32.ofInt 1)) 1106 R 2 (Int32.ofInt 1)) 1106 R 3 (Int32.ofInt 1))) x3).trans (am_loop_out (by simp (disch := omega) only [f_X10_clear_32, Option.bind_some, qi, ql, qI_lt, qI_le, qI_eq, qI_L, qI_ix, qL_lt, qL_eq, q_nat, q_cs, ← Int32.ofInt_add, ← Int32.ofInt_sub, ← Int32.ofInt_mul, ← Int32.ofInt_neg, ← Int64.ofInt_add, ← Int64.ofInt_sub, ← Int64.ofInt_mul, ← Int64.ofInt_neg, pL_I, q_mx, q_mn, q_ab, q_abL, q_mnL, q_nn0, q_nn1, q_rr, q_b1, q_b0, q_T, q_F, q_iT, q_iF, q_d, q_in, q_wi, q_hC, q_hM, pT_i, pU_i, pS_i, pS_j, pS_0, Sum.elim_inl, Sum.elim_inr, if_pos, if_neg])))))
  have Q : qf [(10, 999), (1106, 999)] σ (am_wI (am_wI (am_wI (am_wI ρ 1106 R 0 (Int32.ofInt 1)) 1106 R 1 (Int32.ofInt 1)) 1106 R 2 (Int32.ofInt 1)) 1106 R 3 (Int32.ofInt 1)) := by
    rw [hρ]
    exact (((((((((qf.rf.wL rfl).wI rfl).wI rfl).wI rfl).wI rfl).wI rfl).wI rfl).wI rfl).wI rfl).wI rfl
  have Z : qz (zX R) σ (am_wI (am_wI (am_wI (am_wI ρ 1106 R 0 (Int32.ofInt 1)) 1106 R 1 (Int32.ofInt 1)) 1106 R 2 (Int32.ofInt 1)) 1106 R 3 (Int32.ofInt 1)) := by
    rw [hρ]
    exact (((((((((qz.rf.wL zX_w.1).wI zX_w.1).wI zX_w.1).wI zX_w.1).wI zX_w.1).wI zX_w.1).wI zX_w.2).wI zX_w.2).wI zX_w.2).wI zX_w.2
  have N : (am_wI (am_wI (am_wI (am_wI ρ 1106 R 0 (Int32.ofInt 1)) 1106 R 1 (Int32.ofInt 1)) 1106 R 2 (Int32.ofInt 1)) 1106 R 3 (Int32.ofInt 1)).2.1 10 R 0 = nm := by
    rw [hρ]
    simp [am_wI, am_wL, am_u3]
  have D : pw_D (am_wI (am_wI (am_wI (am_wI ρ 1106 R 0 (Int32.ofInt 1)) 1106 R 1 (Int32.ofInt 1)) 1106 R 2 (Int32.ofInt 1)) 1106 R 3 (Int32.ofInt 1)) R w0C := by
    rw [hρ]
    refine ⟨by simp [am_wI, am_u3, w0C], by simp [am_wI, am_u3, w0C], by simp [am_wI, am_u3, w0C], by simp [am_wI, am_u3, w0C], by simp [am_wI, am_u3, w0C], fun k hk => ?_⟩
    rcases (by omega : k = 0 ∨ k = 1 ∨ k = 2 ∨ k = 3) with z | z | z | z <;> subst z <;> simp [am_wI, am_u3, w0C]
  obtain ⟨τ, u1, u2, u3, u4⟩ := mt_mul D (by unfold pw_ok w0C; decide)
  refine ⟨τ, ?_, (Q.mo (by decide)).tr (u2.mo (by decide)), Z.tr (u3.mo (fun _ _ _ => zX_t)), ?_, u4⟩
  · simp (disch := omega) only [f_X10_clear, Option.bind_some, qi, ql, qI_lt, qI_le, qI_eq, qI_L, qI_ix, qL_lt, qL_eq, q_nat, q_cs, ← Int32.ofInt_add, ← Int32.ofInt_sub, ← Int32.ofInt_mul, ← Int32.ofInt_neg, ← Int64.ofInt_add, ← Int64.ofInt_sub, ← Int64.ofInt_mul, ← Int64.ofInt_neg, pL_I, q_mx, q_mn, q_ab, q_abL, q_mnL, q_nn0, q_nn1, q_rr, q_b1, q_b0, q_T, q_F, q_iT, q_iF, q_d, q_in, q_wi, q_hC, q_hM, pT_i, pU_i, pS_i, pS_j, pS_0, Sum.elim_inl, Sum.elim_inr, if_pos, if_neg]
    rw [← hρ, lp]
    exact u1
  · rw [(u2 10 R 0 rfl).2.1]
    exact N
