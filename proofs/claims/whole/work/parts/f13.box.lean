/-! ===== MACHINE: a BOX ===== -/
theorem bd_60 {σ : am_H} {k : Int} {p kc i : Nat} (h : bd σ k p) (hk : kc ≤ 10) (hi : i ≤ kc) (e : σ.1 1321 0 2 = Int32.ofInt (kc : Int)) (v1 v2 : Int32) : am_loop (fun s : Int32 × am_H => f_X12_readBox_60 v1 v2 s.1 s.2) (Int32.ofInt (i : Int), σ) = some σ := by
  obtain ⟨h1, h2, h3⟩ := h
  have z2 : (2 : Int).toNat = 2 := rfl
  refine am_loop_out ?_
  by_cases c : i < kc
  · simp (disch := omega) only [f_X12_readBox_60, z2, e, h2, Option.bind_some, qi, ql, qI_lt, qI_le, qI_eq, qI_L, qI_ix, qL_lt, qL_eq, q_nat, q_cs, ← Int32.ofInt_add, ← Int32.ofInt_sub, ← Int32.ofInt_mul, ← Int32.ofInt_neg, ← Int64.ofInt_add, ← Int64.ofInt_sub, ← Int64.ofInt_mul, ← Int64.ofInt_neg, pL_I, q_mx, q_mn, q_ab, q_abL, q_mnL, q_nn0, q_nn1, q_rr, q_b1, q_b0, q_T, q_F, q_iT, q_iF, q_d, q_in, q_wi, q_hC, q_hM, pT_i, pU_i, pS_i, pS_j, pS_0, Sum.elim_inl, Sum.elim_inr, if_pos, if_neg]
  · simp (disch := omega) only [f_X12_readBox_60, z2, e, Option.bind_some, qi, ql, qI_lt, qI_le, qI_eq, qI_L, qI_ix, qL_lt, qL_eq, q_nat, q_cs, ← Int32.ofInt_add, ← Int32.ofInt_sub, ← Int32.ofInt_mul, ← Int32.ofInt_neg, ← Int64.ofInt_add, ← Int64.ofInt_sub, ← Int64.ofInt_mul, ← Int64.ofInt_neg, pL_I, q_mx, q_mn, q_ab, q_abL, q_mnL, q_nn0, q_nn1, q_rr, q_b1, q_b0, q_T, q_F, q_iT, q_iF, q_d, q_in, q_wi, q_hC, q_hM, pT_i, pU_i, pS_i, pS_j, pS_0, Sum.elim_inl, Sum.elim_inr, if_pos, if_neg]
theorem bd_121 {σ : am_H} {k : Int} {p : Nat} (h : bd σ k p) (v1 v2 : Int32) : f_X12_readBox_121 v1 v2 σ = some σ := by
  have e := fun v : Bool => bd_must h v
  obtain ⟨h1, h2, h3⟩ := h
  have t : ∀ v : Bool, f_X12_readBox_135 v1 v2 v σ = some σ := fun v => by
    simp (disch := omega) only [f_X12_readBox_135, e, h2, Option.bind_some, qi, ql, qI_lt, qI_le, qI_eq, qI_L, qI_ix, qL_lt, qL_eq, q_nat, q_cs, ← Int32.ofInt_add, ← Int32.ofInt_sub, ← Int32.ofInt_mul, ← Int32.ofInt_neg, ← Int64.ofInt_add, ← Int64.ofInt_sub, ← Int64.ofInt_mul, ← Int64.ofInt_neg, pL_I, q_mx, q_mn, q_ab, q_abL, q_mnL, q_nn0, q_nn1, q_rr, q_b1, q_b0, q_T, q_F, q_iT, q_iF, q_d, q_in, q_wi, q_hC, q_hM, pT_i, pU_i, pS_i, pS_j, pS_0, Sum.elim_inl, Sum.elim_inr, if_pos, if_neg]
  unfold f_X12_readBox_121
  rw [t, t]
  split <;> rfl
theorem mk_kind {σ1 σ2 : am_H} {a kc p : Nat} {kt : Nat → Int} {t : Int} {v1 : Int32} (hk : kc ≤ 10) (ht : 5 ≤ t ∧ t ≤ 200) (c2 : σ1.1 3 a 4 = Int32.ofInt (kc : Int)) (c3 : σ2.1 1321 0 2 = Int32.ofInt (kc : Int)) (g : gd σ2) (m15 : σ2.1 12 0 15 = Int32.ofInt (p : Int)) (hkt : ∀ k, k < kc → (5 ≤ kt k ∧ kt k ≤ 200) ∧ σ1.1 403 a k = Int32.ofInt (kt k) ∧ σ2.1 1325 0 (20 * 2 + 2 * k + 1) = Int32.ofInt (kt k)) : ∀ f i : Nat, i + f = kc → (am_loop (fun s : Int32 => f_X3_hasKind_2 a (Int32.ofInt t) s σ1) (Int32.ofInt (i : Int)) = some (.inl ()) ∧ am_loop (fun s : Int32 × am_H => f_X12_readBox_60 v1 (Int32.ofInt t) s.1 s.2) (Int32.ofInt (i : Int), σ2) = some (FM σ2 6 p)) ∨ (am_loop (fun s : Int32 => f_X3_hasKind_2 a (Int32.ofInt t) s σ1) (Int32.ofInt (i : Int)) = some (.inr ()) ∧ am_loop (fun s : Int32 × am_H => f_X12_readBox_60 v1 (Int32.ofInt t) s.1 s.2) (Int32.ofInt (i : Int), σ2) = some σ2) := by
  have z2 : (2 : Int).toNat = 2 := rfl
  have g' : σ2.1 12 0 12 = Int32.ofInt 0 := g
  intro f
  induction f with
  | zero =>
    intro i hi
    refine Or.inr ⟨am_loop_out ?_, am_loop_out ?_⟩
    · simp (disch := omega) only [f_X3_hasKind_2, c2, Option.bind_some, qi, ql, qI_lt, qI_le, qI_eq, qI_L, qI_ix, qL_lt, qL_eq, q_nat, q_cs, ← Int32.ofInt_add, ← Int32.ofInt_sub, ← Int32.ofInt_mul, ← Int32.ofInt_neg, ← Int64.ofInt_add, ← Int64.ofInt_sub, ← Int64.ofInt_mul, ← Int64.ofInt_neg, pL_I, q_mx, q_mn, q_ab, q_abL, q_mnL, q_nn0, q_nn1, q_rr, q_b1, q_b0, q_T, q_F, q_iT, q_iF, q_d, q_in, q_wi, q_hC, q_hM, pT_i, pU_i, pS_i, pS_j, pS_0, Sum.elim_inl, Sum.elim_inr, if_pos, if_neg]
    · simp (disch := omega) only [f_X12_readBox_60, z2, c3, Option.bind_some, qi, ql, qI_lt, qI_le, qI_eq, qI_L, qI_ix, qL_lt, qL_eq, q_nat, q_cs, ← Int32.ofInt_add, ← Int32.ofInt_sub, ← Int32.ofInt_mul, ← Int32.ofInt_neg, ← Int64.ofInt_add, ← Int64.ofInt_sub, ← Int64.ofInt_mul, ← Int64.ofInt_neg, pL_I, q_mx, q_mn, q_ab, q_abL, q_mnL, q_nn0, q_nn1, q_rr, q_b1, q_b0, q_T, q_F, q_iT, q_iF, q_d, q_in, q_wi, q_hC, q_hM, pT_i, pU_i, pS_i, pS_j, pS_0, Sum.elim_inl, Sum.elim_inr, if_pos, if_neg]
  | succ f ih =>
    intro i hi
    obtain ⟨kb, k1, k2⟩ := hkt i (by omega)
    have ii : (40 + 2 * (i : Int) + 1).toNat = 20 * 2 + 2 * i + 1 := by omega
    by_cases e : kt i = t
    · left
      have f6 : f_X12_fail (Int32.ofInt 6) (Int32.ofInt (p : Int)) σ2 = some (FM σ2 6 p) := gd_fail g _ _
      refine ⟨am_loop_out ?_, (am_loop_in (s' := (Int32.ofInt ((i : Int) + 1), FM σ2 6 p)) ?_).trans (bd_60 (k := 6) (p := p) (i := i + 1) (FM_b (by omega)) hk (by omega) c3 v1 (Int32.ofInt t))⟩
      · simp (disch := omega) only [f_X3_hasKind_2, c2, k1, Option.bind_some, qi, ql, qI_lt, qI_le, qI_eq, qI_L, qI_ix, qL_lt, qL_eq, q_nat, q_cs, ← Int32.ofInt_add, ← Int32.ofInt_sub, ← Int32.ofInt_mul, ← Int32.ofInt_neg, ← Int64.ofInt_add, ← Int64.ofInt_sub, ← Int64.ofInt_mul, ← Int64.ofInt_neg, pL_I, q_mx, q_mn, q_ab, q_abL, q_mnL, q_nn0, q_nn1, q_rr, q_b1, q_b0, q_T, q_F, q_iT, q_iF, q_d, q_in, q_wi, q_hC, q_hM, pT_i, pU_i, pS_i, pS_j, pS_0, Sum.elim_inl, Sum.elim_inr, if_pos, if_neg]
      · simp (disch := omega) only [f_X12_readBox_60, z2, c3, g', ii, k2, m15, f6, Option.bind_some, qi, ql, qI_lt, qI_le, qI_eq, qI_L, qI_ix, qL_lt, qL_eq, q_nat, q_cs, ← Int32.ofInt_add, ← Int32.ofInt_sub, ← Int32.ofInt_mul, ← Int32.ofInt_neg, ← Int64.ofInt_add, ← Int64.ofInt_sub, ← Int64.ofInt_mul, ← Int64.ofInt_neg, pL_I, q_mx, q_mn, q_ab, q_abL, q_mnL, q_nn0, q_nn1, q_rr, q_b1, q_b0, q_T, q_F, q_iT, q_iF, q_d, q_in, q_wi, q_hC, q_hM, pT_i, pU_i, pS_i, pS_j, pS_0, Sum.elim_inl, Sum.elim_inr, if_pos, if_neg]
    · have s1 : f_X3_hasKind_2 a (Int32.ofInt t) (Int32.ofInt (i : Int)) σ1 = some (.inl (Int32.ofInt ((i : Int) + 1))) := by
        simp (disch := omega) only [f_X3_hasKind_2, c2, k1, Option.bind_some, qi, ql, qI_lt, qI_le, qI_eq, qI_L, qI_ix, qL_lt, qL_eq, q_nat, q_cs, ← Int32.ofInt_add, ← Int32.ofInt_sub, ← Int32.ofInt_mul, ← Int32.ofInt_neg, ← Int64.ofInt_add, ← Int64.ofInt_sub, ← Int64.ofInt_mul, ← Int64.ofInt_neg, pL_I, q_mx, q_mn, q_ab, q_abL, q_mnL, q_nn0, q_nn1, q_rr, q_b1, q_b0, q_T, q_F, q_iT, q_iF, q_d, q_in, q_wi, q_hC, q_hM, pT_i, pU_i, pS_i, pS_j, pS_0, Sum.elim_inl, Sum.elim_inr, if_pos, if_neg]
      have s2 : f_X12_readBox_60 v1 (Int32.ofInt t) (Int32.ofInt (i : Int)) σ2 = some (.inl (Int32.ofInt ((i : Int) + 1), σ2)) := by
        simp (disch := omega) only [f_X12_readBox_60, z2, c3, g', ii, k2, Option.bind_some, qi, ql, qI_lt, qI_le, qI_eq, qI_L, qI_ix, qL_lt, qL_eq, q_nat, q_cs, ← Int32.ofInt_add, ← Int32.ofInt_sub, ← Int32.ofInt_mul, ← Int32.ofInt_neg, ← Int64.ofInt_add, ← Int64.ofInt_sub, ← Int64.ofInt_mul, ← Int64.ofInt_neg, pL_I, q_mx, q_mn, q_ab, q_abL, q_mnL, q_nn0, q_nn1, q_rr, q_b1, q_b0, q_T, q_F, q_iT, q_iF, q_d, q_in, q_wi, q_hC, q_hM, pT_i, pU_i, pS_i, pS_j, pS_0, Sum.elim_inl, Sum.elim_inr, if_pos, if_neg]
      rcases ih (i + 1) (by omega) with ⟨x1, x2⟩ | ⟨x1, x2⟩
      · rw [show ((i + 1 : Nat) : Int) = (i : Int) + 1 from rfl] at x1 x2
        exact Or.inl ⟨(am_loop_in (s' := Int32.ofInt ((i : Int) + 1)) s1).trans x1, (am_loop_in (s' := (Int32.ofInt ((i : Int) + 1), σ2)) s2).trans x2⟩
      · rw [show ((i + 1 : Nat) : Int) = (i : Int) + 1 from rfl] at x1 x2
        exact Or.inr ⟨(am_loop_in (s' := Int32.ofInt ((i : Int) + 1)) s1).trans x1, (am_loop_in (s' := (Int32.ofInt ((i : Int) + 1), σ2)) s2).trans x2⟩
theorem bd_21 {σ : am_H} {k : Int} {p : Nat} (h : bd σ k p) : f_X12_readBox_21 σ = some σ := by
  obtain ⟨h1, h2, h3⟩ := h
  simp (disch := omega) only [f_X12_readBox_21, h2, Option.bind_some, qi, ql, qI_lt, qI_le, qI_eq, qI_L, qI_ix, qL_lt, qL_eq, q_nat, q_cs, ← Int32.ofInt_add, ← Int32.ofInt_sub, ← Int32.ofInt_mul, ← Int32.ofInt_neg, ← Int64.ofInt_add, ← Int64.ofInt_sub, ← Int64.ofInt_mul, ← Int64.ofInt_neg, pL_I, q_mx, q_mn, q_ab, q_abL, q_mnL, q_nn0, q_nn1, q_rr, q_b1, q_b0, q_T, q_F, q_iT, q_iF, q_d, q_in, q_wi, q_hC, q_hM, pT_i, pU_i, pS_i, pS_j, pS_0, Sum.elim_inl, Sum.elim_inr, if_pos, if_neg]
theorem mz.t {σ1 σ2 τ1 τ2 : am_H} {a wc : Nat} {ws : Nat → Nat → Int} {nm : Nat → List Int} {kc : Nat} {kw kt : Nat → Int} {sl zr : Int} (m : mz σ1 σ2 a wc ws nm kc kw kt sl zr) (q1 : qf tlC σ1 τ1) (q2 : qf tlM σ2 τ2) : mz τ1 τ2 a wc ws nm kc kw kt sl zr := m.x (q1.z (fun _ _ _ z => zX_t (zW_t z))) (q2.z (fun _ _ _ z => zY_t (zV_t z)))
set_option maxHeartbeats 1000000 in
theorem mb_box {σ1 σ2 : am_H} {n : Nat} {b : Nat → Int} {s p e a wc : Nat} {ws : Nat → Nat → Int} {nm : Nat → List Int} {kc : Nat} {kw kt : Nat → Int} {sl zr : Int} (h : tk σ1 σ2 n b s p e) (s1 : s = 1) (g : gd σ2) (m : mz σ1 σ2 a wc ws nm kc kw kt sl zr) : (∃ (τ1 τ2 : am_H) (s' p' e' : Nat) (kw' kt' : Nat → Int), f_X3_readsBox a σ1 = some (true, τ1) ∧ f_X12_readBox σ2 = some τ2 ∧ tk τ1 τ2 n b s' p' e' ∧ gd τ2 ∧ p < p' ∧ mz τ1 τ2 a wc ws nm (kc + 1) kw' kt' sl zr ∧ qz (zC a) σ1 τ1 ∧ qz zM σ2 τ2) ∨ (∃ τ1 τ2 : am_H, f_X3_readsBox a σ1 = some (false, τ1) ∧ f_X12_readBox σ2 = some τ2 ∧ oN (zC a) zM σ1 σ2 τ1 τ2) := by
  have z2 : (2 : Int).toNat = 2 := rfl
  have g' : σ2.1 12 0 12 = Int32.ofInt 0 := g
  have m15 := h.2.2.2.1.2.1
  obtain ⟨k10, ka, kb, -⟩ := m.2.2.1
  by_cases c10 : kc = 10
  · right
    have r1 := tk_refuse h 6
    rw [if_neg (by omega)] at r1
    have r2 : f_X12_fail (Int32.ofInt 6) (Int32.ofInt (p : Int)) σ2 = some (FM σ2 6 p) := gd_fail g _ _
    have B : bd (FM σ2 6 p) 6 p := FM_b (by omega)
    have b21 := bd_21 B
    refine ⟨FC σ1 6 p, FM σ2 6 p, ?_, ?_, ⟨6, p, FC_f, B⟩, FC_q.z (fun _ _ _ => zC_t), FM_q.z (fun _ _ _ => zM_t)⟩
    · simp (disch := omega) only [f_X3_readsBox, ka, r1, Option.bind_some, qi, ql, qI_lt, qI_le, qI_eq, qI_L, qI_ix, qL_lt, qL_eq, q_nat, q_cs, ← Int32.ofInt_add, ← Int32.ofInt_sub, ← Int32.ofInt_mul, ← Int32.ofInt_neg, ← Int64.ofInt_add, ← Int64.ofInt_sub, ← Int64.ofInt_mul, ← Int64.ofInt_neg, pL_I, q_mx, q_mn, q_ab, q_abL, q_mnL, q_nn0, q_nn1, q_rr, q_b1, q_b0, q_T, q_F, q_iT, q_iF, q_d, q_in, q_wi, q_hC, q_hM, pT_i, pU_i, pS_i, pS_j, pS_0, Sum.elim_inl, Sum.elim_inr, if_pos, if_neg]
    · simp (disch := omega) only [f_X12_readBox, z2, kb, m15, r2, b21, Option.bind_some, qi, ql, qI_lt, qI_le, qI_eq, qI_L, qI_ix, qL_lt, qL_eq, q_nat, q_cs, ← Int32.ofInt_add, ← Int32.ofInt_sub, ← Int32.ofInt_mul, ← Int32.ofInt_neg, ← Int64.ofInt_add, ← Int64.ofInt_sub, ← Int64.ofInt_mul, ← Int64.ofInt_neg, pL_I, q_mx, q_mn, q_ab, q_abL, q_mnL, q_nn0, q_nn1, q_rr, q_b1, q_b0, q_T, q_F, q_iT, q_iF, q_d, q_in, q_wi, q_hC, q_hM, pT_i, pU_i, pS_i, pS_j, pS_0, Sum.elim_inl, Sum.elim_inr, if_pos, if_neg]
  have hk : kc < 10 := by omega
  obtain ⟨ρ1, ρ2, s2, p1, e1, a1, a2, a3, a4, a5, a6⟩ := tk_next h (Or.inl s1)
  have pe := (h.2.2.2.2.2.2.1 (Or.inl s1)).1
  have gρ : gd ρ2 := ((a6 12 0 12 rfl).1).trans g
  have Q1 : qf tlC σ1 ρ1 := a5.mo (by decide)
  have Q2 : qf tlM σ2 ρ2 := a6.mo (by decide)
  -- what the reference does where it has failed ahead of the WORD of
  have dead : ∀ (χ1 χ : am_H) (k : Int) (q : Nat) (s p e : Nat) (v : Int32), tk χ1 χ n b s p e → bd χ k q → χ.1 1321 0 2 = Int32.ofInt (kc : Int) → ((f_X12_isOf χ).bind fun p4 => (f_X12_must p4 χ).bind fun p5 => (f_X12_seen (Int32.ofInt 5) (Int32.ofInt 200) p5).bind fun p6 => (am_loop (fun s : Int32 × am_H => f_X12_readBox_60 v p6.1 s.1 s.2) (Int32.ofInt 0, p6.2)).bind fun w7 => if (w7.1 12 0 12) = Int32.ofInt 0 then ((f_X12_next w7).bind fun p9 => f_X12_readBox_121 v p6.1 p9) else f_X12_readBox_121 v p6.1 w7) = some χ := by
    intro χ1 χ k q s p e v ht B K
    have T := (tk_ref ht).2.2.2.2.1
    have L : am_loop (fun s : Int32 × am_H => f_X12_readBox_60 v (Int32.ofInt 0) s.1 s.2) (Int32.ofInt 0, χ) = some χ := bd_60 (i := 0) B k10 (by omega) K v (Int32.ofInt 0)
    have b12 := B.2.1
    have kk := B.1
    have M := fun x => bd_must B x
    have S := bd_seen B (Int32.ofInt 5) (Int32.ofInt 200)
    have D := bd_121 B v (Int32.ofInt 0)
    simp (disch := omega) only [T, M, S, L, b12, D, Option.bind_some, qi, ql, qI_lt, qI_le, qI_eq, qI_L, qI_ix, qL_lt, qL_eq, q_nat, q_cs, ← Int32.ofInt_add, ← Int32.ofInt_sub, ← Int32.ofInt_mul, ← Int32.ofInt_neg, ← Int64.ofInt_add, ← Int64.ofInt_sub, ← Int64.ofInt_mul, ← Int64.ofInt_neg, pL_I, q_mx, q_mn, q_ab, q_abL, q_mnL, q_nn0, q_nn1, q_rr, q_b1, q_b0, q_T, q_F, q_iT, q_iF, q_d, q_in, q_wi, q_hC, q_hM, pT_i, pU_i, pS_i, pS_j, pS_0, Sum.elim_inl, Sum.elim_inr, if_pos, if_neg]
  have ref : f_X12_readBox σ2 = (f_X12_count (Int32.ofInt 0) (Int32.ofInt 9) ρ2).bind fun p3 => (f_X12_isOf p3.2).bind fun p4 => (f_X12_must p4 p3.2).bind fun p5 => (f_X12_seen (Int32.ofInt 5) (Int32.ofInt 200) p5).bind fun p6 => (am_loop (fun s : Int32 × am_H => f_X12_readBox_60 p3.1 p6.1 s.1 s.2) (Int32.ofInt 0, p6.2)).bind fun w7 => if (w7.1 12 0 12) = Int32.ofInt 0 then ((f_X12_next w7).bind fun p9 => f_X12_readBox_121 p3.1 p6.1 p9) else f_X12_readBox_121 p3.1 p6.1 w7 := by
    simp (disch := omega) only [f_X12_readBox, f_X12_readBox_21, z2, kb, g', a2, Option.bind_some, qi, ql, qI_lt, qI_le, qI_eq, qI_L, qI_ix, qL_lt, qL_eq, q_nat, q_cs, ← Int32.ofInt_add, ← Int32.ofInt_sub, ← Int32.ofInt_mul, ← Int32.ofInt_neg, ← Int64.ofInt_add, ← Int64.ofInt_sub, ← Int64.ofInt_mul, ← Int64.ofInt_neg, pL_I, q_mx, q_mn, q_ab, q_abL, q_mnL, q_nn0, q_nn1, q_rr, q_b1, q_b0, q_T, q_F, q_iT, q_iF, q_d, q_in, q_wi, q_hC, q_hM, pT_i, pU_i, pS_i, pS_j, pS_0, Sum.elim_inl, Sum.elim_inr, if_pos, if_neg]
  rw [ref]
  have X1 : qz (zC a) σ1 ρ1 := Q1.z (fun _ _ _ => zC_t)
  have X2 : qz zM σ2 ρ2 := Q2.z (fun _ _ _ => zM_t)
  have kρ : ρ2.1 1321 0 2 = Int32.ofInt (kc : Int) := ((Q2 1321 0 2 rfl).1).trans kb
  rcases tk_num2 a3 gρ (lo := 0) (hi := 9) (by omega) (by omega) with ⟨v, sv, vb, k6, n1, n2, n3⟩ | ⟨q, qb, n1, n2, n3⟩
  rotate_left
  · right
    have B : bd (FM ρ2 q p1) q p1 := FM_b qb
    have dd := dead ρ1 (FM ρ2 q p1) q p1 s2 p1 e1 (Int32.ofInt 0) (a3.q (qf.rf (l := [])) (by decide +kernel) ((qf.rf.wI rfl).wI rfl : qf [(12, 12), (12, 13)] ρ2 (FM ρ2 q p1)) (by decide +kernel)) B kρ
    refine ⟨FC ρ1 q p1, FM ρ2 q p1, ?_, ?_, ⟨q, p1, FC_f, B⟩, X1.tr (FC_q.z (fun _ _ _ => zC_t)), X2.tr (FM_q.z (fun _ _ _ => zM_t))⟩
    · simp (disch := omega) only [f_X3_readsBox, ka, a1, n1, Option.bind_some, qi, ql, qI_lt, qI_le, qI_eq, qI_L, qI_ix, qL_lt, qL_eq, q_nat, q_cs, ← Int32.ofInt_add, ← Int32.ofInt_sub, ← Int32.ofInt_mul, ← Int32.ofInt_neg, ← Int64.ofInt_add, ← Int64.ofInt_sub, ← Int64.ofInt_mul, ← Int64.ofInt_neg, pL_I, q_mx, q_mn, q_ab, q_abL, q_mnL, q_nn0, q_nn1, q_rr, q_b1, q_b0, q_T, q_F, q_iT, q_iF, q_d, q_in, q_wi, q_hC, q_hM, pT_i, pU_i, pS_i, pS_j, pS_0, Sum.elim_inl, Sum.elim_inr, if_pos, if_neg]
    · rw [n3]
      exact dd
  obtain ⟨τ1, τ2, s3, p3, e3, x1, x2, x3, x4, x5, x6, x7, x8⟩ := n3 ρ1 a3
  rw [x2]
  simp only [Option.bind_some]
  have Y1 : qz (zC a) σ1 τ1 := X1.tr (x7.z (fun _ _ _ => zC_t))
  have Y2 : qz zM σ2 τ2 := X2.tr (x8.z (fun _ _ _ => zM_t))
  have kτ : τ2.1 1321 0 2 = Int32.ofInt (kc : Int) := ((x8 1321 0 2 rfl).1).trans kρ
  have Tof := (tk_ref x4).2.2.2.2.1
  rcases tk_takes x4 x5 (by omega : 7 < 22) with ⟨wi, τ3, τ4, s5, p5, e5, u1, u2, u3, u4, u5, u6, u7⟩ | ⟨q, qb, u1, u2⟩
  rotate_left
  · right
    have B : bd (FM τ2 q p3) q p3 := FM_b qb
    have L : am_loop (fun s : Int32 × am_H => f_X12_readBox_60 (Int32.ofInt v) (Int32.ofInt 0) s.1 s.2) (Int32.ofInt 0, FM τ2 q p3) = some (FM τ2 q p3) := bd_60 (i := 0) B k10 (by omega) kτ _ (Int32.ofInt 0)
    have b12 := B.2.1
    have S := bd_seen B (Int32.ofInt 5) (Int32.ofInt 200)
    have D := bd_121 B (Int32.ofInt v) (Int32.ofInt 0)
    refine ⟨FC τ1 q p3, FM τ2 q p3, ?_, ?_, ⟨q, p3, FC_f, B⟩, Y1.tr (FC_q.z (fun _ _ _ => zC_t)), Y2.tr (FM_q.z (fun _ _ _ => zM_t))⟩
    · simp (disch := omega) only [f_X3_readsBox, ka, a1, n1, x1, u1, Option.bind_some, qi, ql, qI_lt, qI_le, qI_eq, qI_L, qI_ix, qL_lt, qL_eq, q_nat, q_cs, ← Int32.ofInt_add, ← Int32.ofInt_sub, ← Int32.ofInt_mul, ← Int32.ofInt_neg, ← Int64.ofInt_add, ← Int64.ofInt_sub, ← Int64.ofInt_mul, ← Int64.ofInt_neg, pL_I, q_mx, q_mn, q_ab, q_abL, q_mnL, q_nn0, q_nn1, q_rr, q_b1, q_b0, q_T, q_F, q_iT, q_iF, q_d, q_in, q_wi, q_hC, q_hM, pT_i, pU_i, pS_i, pS_j, pS_0, Sum.elim_inl, Sum.elim_inr, if_pos, if_neg]
    · simp (disch := omega) only [Tof, u2, S, L, b12, D, Option.bind_some, qi, ql, qI_lt, qI_le, qI_eq, qI_L, qI_ix, qL_lt, qL_eq, q_nat, q_cs, ← Int32.ofInt_add, ← Int32.ofInt_sub, ← Int32.ofInt_mul, ← Int32.ofInt_neg, ← Int64.ofInt_add, ← Int64.ofInt_sub, ← Int64.ofInt_mul, ← Int64.ofInt_neg, pL_I, q_mx, q_mn, q_ab, q_abL, q_mnL, q_nn0, q_nn1, q_rr, q_b1, q_b0, q_T, q_F, q_iT, q_iF, q_d, q_in, q_wi, q_hC, q_hM, pT_i, pU_i, pS_i, pS_j, pS_0, Sum.elim_inl, Sum.elim_inr, if_pos, if_neg]
  rw [Tof]
  simp only [Option.bind_some]
  rw [u2]
  simp only [Option.bind_some]
  have Y3 : qz (zC a) σ1 τ3 := Y1.tr (u6.z (fun _ _ _ => zC_t))
  have Y4 : qz zM σ2 τ4 := Y2.tr (u7.z (fun _ _ _ => zM_t))
  have kτ4 : τ4.1 1321 0 2 = Int32.ofInt (kc : Int) := ((u7 1321 0 2 rfl).1).trans kτ
  have mτ := ((m.t Q1 Q2).t x7 x8).t u6 u7
  have kτ3 : τ3.1 3 a 4 = Int32.ofInt (kc : Int) := mτ.2.2.1.2.1
  rcases tk_num2 u3 u4 (lo := 5) (hi := 200) (by omega) (by omega) with ⟨t, st, tb, k6', n1', n2', n3'⟩ | ⟨q, qb, n1', n2', n3'⟩
  rotate_left
  · right
    have B : bd (FM τ4 q p5) q p5 := FM_b qb
    have L : am_loop (fun s : Int32 × am_H => f_X12_readBox_60 (Int32.ofInt v) (Int32.ofInt 0) s.1 s.2) (Int32.ofInt 0, FM τ4 q p5) = some (FM τ4 q p5) := bd_60 (i := 0) B k10 (by omega) kτ4 _ (Int32.ofInt 0)
    have b12 := B.2.1
    have D := bd_121 B (Int32.ofInt v) (Int32.ofInt 0)
    refine ⟨FC τ3 q p5, FM τ4 q p5, ?_, ?_, ⟨q, p5, FC_f, B⟩, Y3.tr (FC_q.z (fun _ _ _ => zC_t)), Y4.tr (FM_q.z (fun _ _ _ => zM_t))⟩
    · simp (disch := omega) only [f_X3_readsBox, ka, a1, n1, x1, u1, n1', Option.bind_some, qi, ql, qI_lt, qI_le, qI_eq, qI_L, qI_ix, qL_lt, qL_eq, q_nat, q_cs, ← Int32.ofInt_add, ← Int32.ofInt_sub, ← Int32.ofInt_mul, ← Int32.ofInt_neg, ← Int64.ofInt_add, ← Int64.ofInt_sub, ← Int64.ofInt_mul, ← Int64.ofInt_neg, pL_I, q_mx, q_mn, q_ab, q_abL, q_mnL, q_nn0, q_nn1, q_rr, q_b1, q_b0, q_T, q_F, q_iT, q_iF, q_d, q_in, q_wi, q_hC, q_hM, pT_i, pU_i, pS_i, pS_j, pS_0, Sum.elim_inl, Sum.elim_inr, if_pos, if_neg]
    · simp (disch := omega) only [n2', L, b12, D, Option.bind_some, qi, ql, qI_lt, qI_le, qI_eq, qI_L, qI_ix, qL_lt, qL_eq, q_nat, q_cs, ← Int32.ofInt_add, ← Int32.ofInt_sub, ← Int32.ofInt_mul, ← Int32.ofInt_neg, ← Int64.ofInt_add, ← Int64.ofInt_sub, ← Int64.ofInt_mul, ← Int64.ofInt_neg, pL_I, q_mx, q_mn, q_ab, q_abL, q_mnL, q_nn0, q_nn1, q_rr, q_b1, q_b0, q_T, q_F, q_iT, q_iF, q_d, q_in, q_wi, q_hC, q_hM, pT_i, pU_i, pS_i, pS_j, pS_0, Sum.elim_inl, Sum.elim_inr, if_pos, if_neg]
  rw [n2']
  simp only [Option.bind_some]
  have kinds := mk_kind (v1 := Int32.ofInt v) (t := t) (p := p5) k10 tb kτ3 kτ4 u4 u3.2.2.2.1.2.1 (fun k hk => by
    obtain ⟨q1, q2, q3, q4, q5, q6⟩ := mτ.2.2.1.2.2.2 k hk
    exact ⟨q2, q4, q6⟩) kc 0 (by omega)
  rcases kinds with ⟨l1, l2⟩ | ⟨l1, l2⟩
  · right
    have l1' : am_loop (fun s : Int32 => f_X3_hasKind_2 a (Int32.ofInt t) s τ3) (Int32.ofInt 0) = some (.inl ()) := l1
    have l2' : am_loop (fun s : Int32 × am_H => f_X12_readBox_60 (Int32.ofInt v) (Int32.ofInt t) s.1 s.2) (Int32.ofInt 0, τ4) = some (FM τ4 6 p5) := l2
    have B : bd (FM τ4 6 p5) 6 p5 := FM_b (by omega)
    have b12 := B.2.1
    have D := bd_121 B (Int32.ofInt v) (Int32.ofInt t)
    have r1 := tk_refuse u3 6
    rw [if_neg (by omega)] at r1
    refine ⟨FC τ3 6 p5, FM τ4 6 p5, ?_, ?_, ⟨6, p5, FC_f, B⟩, Y3.tr (FC_q.z (fun _ _ _ => zC_t)), Y4.tr (FM_q.z (fun _ _ _ => zM_t))⟩
    · simp (disch := omega) only [f_X3_readsBox, f_X3_hasKind, ka, a1, n1, x1, u1, n1', k6', l1', r1, Option.bind_some, qi, ql, qI_lt, qI_le, qI_eq, qI_L, qI_ix, qL_lt, qL_eq, q_nat, q_cs, ← Int32.ofInt_add, ← Int32.ofInt_sub, ← Int32.ofInt_mul, ← Int32.ofInt_neg, ← Int64.ofInt_add, ← Int64.ofInt_sub, ← Int64.ofInt_mul, ← Int64.ofInt_neg, pL_I, q_mx, q_mn, q_ab, q_abL, q_mnL, q_nn0, q_nn1, q_rr, q_b1, q_b0, q_T, q_F, q_iT, q_iF, q_d, q_in, q_wi, q_hC, q_hM, pT_i, pU_i, pS_i, pS_j, pS_0, Sum.elim_inl, Sum.elim_inr, if_pos, if_neg]
    · simp (disch := omega) only [l2', b12, D, Option.bind_some, qi, ql, qI_lt, qI_le, qI_eq, qI_L, qI_ix, qL_lt, qL_eq, q_nat, q_cs, ← Int32.ofInt_add, ← Int32.ofInt_sub, ← Int32.ofInt_mul, ← Int32.ofInt_neg, ← Int64.ofInt_add, ← Int64.ofInt_sub, ← Int64.ofInt_mul, ← Int64.ofInt_neg, pL_I, q_mx, q_mn, q_ab, q_abL, q_mnL, q_nn0, q_nn1, q_rr, q_b1, q_b0, q_T, q_F, q_iT, q_iF, q_d, q_in, q_wi, q_hC, q_hM, pT_i, pU_i, pS_i, pS_j, pS_0, Sum.elim_inl, Sum.elim_inr, if_pos, if_neg]
  have l1' : am_loop (fun s : Int32 => f_X3_hasKind_2 a (Int32.ofInt t) s τ3) (Int32.ofInt 0) = some (.inr ()) := l1
  have l2' : am_loop (fun s : Int32 × am_H => f_X12_readBox_60 (Int32.ofInt v) (Int32.ofInt t) s.1 s.2) (Int32.ofInt 0, τ4) = some τ4 := l2
  have u4' : τ4.1 12 0 12 = Int32.ofInt 0 := u4
  obtain ⟨φ0, hφ0⟩ : ∃ φ0 : am_H, φ0 = am_wI (am_wI (am_wI τ3 402 a kc (Int32.ofInt v)) 403 a kc (Int32.ofInt t)) 3 a 4 (Int32.ofInt ((kc : Int) + 1)) := ⟨_, rfl⟩
  have Q0 : qf [(402, 999), (403, 999), (3, 4)] τ3 φ0 := by rw [hφ0]; exact ((qf.rf.wI rfl).wI rfl).wI rfl
  have Z0 : qz (zC a) τ3 φ0 := by rw [hφ0]; exact ((qz.rf.wI zC_m.2.1).wI zC_m.2.2).wI zC_m.1
  obtain ⟨φ1, φ2, s7, p7, e7, y1, y2, y3, y4, y5, y6, y7, y8⟩ := n3' φ0 (u3.q Q0 (by decide +kernel) (qf.rf (l := [])) (by decide +kernel))
  have m14 := y4.2.2.2.1.1
  have s7b := y4.2.2.2.2.2.1
  have W1 : qz (zC a) σ1 φ1 := (Y3.tr Z0).tr (y7.z (fun _ _ _ => zC_t))
  have W2 : qz zM σ2 φ2 := Y4.tr (y8.z (fun _ _ _ => zM_t))
  have cls : f_X3_readsBox a σ1 = (f_X5_takesSign φ1).bind fun p19 => some (p19.1, p19.2) := by
    have k3 : ∀ v : Int32, (am_wI τ3 402 a kc v).1 3 a 4 = Int32.ofInt (kc : Int) := fun v => kτ3
    have k4 : ∀ v w : Int32, (am_wI (am_wI τ3 402 a kc v) 403 a kc w).1 3 a 4 = Int32.ofInt (kc : Int) := fun v w => kτ3
    have k5 : ∀ v : Int32, (am_wI τ3 402 a kc v).1 5 0 6 = Int32.ofInt t := fun v => k6'
    simp (disch := omega) only [f_X3_readsBox, f_X3_hasKind, ka, a1, n1, x1, u1, n1', k6', l1', kτ3, k3, k4, k5, k6, Option.bind_some, qi, ql, qI_lt, qI_le, qI_eq, qI_L, qI_ix, qL_lt, qL_eq, q_nat, q_cs, ← Int32.ofInt_add, ← Int32.ofInt_sub, ← Int32.ofInt_mul, ← Int32.ofInt_neg, ← Int64.ofInt_add, ← Int64.ofInt_sub, ← Int64.ofInt_mul, ← Int64.ofInt_neg, pL_I, q_mx, q_mn, q_ab, q_abL, q_mnL, q_nn0, q_nn1, q_rr, q_b1, q_b0, q_T, q_F, q_iT, q_iF, q_d, q_in, q_wi, q_hC, q_hM, pT_i, pU_i, pS_i, pS_j, pS_0, Sum.elim_inl, Sum.elim_inr, if_pos, if_neg]
    rw [← hφ0, y1]
    rfl
  rw [cls]
  have fin : ((am_loop (fun s : Int32 × am_H => f_X12_readBox_60 (Int32.ofInt v) (Int32.ofInt t) s.1 s.2) (Int32.ofInt 0, τ4)).bind fun w7 => if (w7.1 12 0 12) = Int32.ofInt 0 then ((f_X12_next w7).bind fun p9 => f_X12_readBox_121 (Int32.ofInt v) (Int32.ofInt t) p9) else f_X12_readBox_121 (Int32.ofInt v) (Int32.ofInt t) w7) = f_X12_readBox_121 (Int32.ofInt v) (Int32.ofInt t) φ2 := by
    simp (disch := omega) only [l2', u4', y3, Option.bind_some, qi, ql, qI_lt, qI_le, qI_eq, qI_L, qI_ix, qL_lt, qL_eq, q_nat, q_cs, ← Int32.ofInt_add, ← Int32.ofInt_sub, ← Int32.ofInt_mul, ← Int32.ofInt_neg, ← Int64.ofInt_add, ← Int64.ofInt_sub, ← Int64.ofInt_mul, ← Int64.ofInt_neg, pL_I, q_mx, q_mn, q_ab, q_abL, q_mnL, q_nn0, q_nn1, q_rr, q_b1, q_b0, q_T, q_F, q_iT, q_iF, q_d, q_in, q_wi, q_hC, q_hM, pT_i, pU_i, pS_i, pS_j, pS_0, Sum.elim_inl, Sum.elim_inr, if_pos, if_neg]
  rw [fin]
  rcases tk_sign y4 y5 with ⟨c3, ψ1, ψ2, s9, p9, e9, d1, d2, d3, d4, d5, d6, d7⟩ | ⟨c3, q, qb, d1, d2⟩
  rotate_left
  · right
    have B : bd (FM φ2 q p7) q p7 := FM_b qb
    have b12 := B.2.1
    refine ⟨FC φ1 q p7, FM φ2 q p7, ?_, ?_, ⟨q, p7, FC_f, B⟩, W1.tr (FC_q.z (fun _ _ _ => zC_t)), W2.tr (FM_q.z (fun _ _ _ => zM_t))⟩
    · simp (disch := omega) only [d1, Option.bind_some, qi, ql, qI_lt, qI_le, qI_eq, qI_L, qI_ix, qL_lt, qL_eq, q_nat, q_cs, ← Int32.ofInt_add, ← Int32.ofInt_sub, ← Int32.ofInt_mul, ← Int32.ofInt_neg, ← Int64.ofInt_add, ← Int64.ofInt_sub, ← Int64.ofInt_mul, ← Int64.ofInt_neg, pL_I, q_mx, q_mn, q_ab, q_abL, q_mnL, q_nn0, q_nn1, q_rr, q_b1, q_b0, q_T, q_F, q_iT, q_iF, q_d, q_in, q_wi, q_hC, q_hM, pT_i, pU_i, pS_i, pS_j, pS_0, Sum.elim_inl, Sum.elim_inr, if_pos, if_neg]
    · simp (disch := omega) only [f_X12_readBox_121, f_X12_readBox_135, m14, d2, b12, Option.bind_some, qi, ql, qI_lt, qI_le, qI_eq, qI_L, qI_ix, qL_lt, qL_eq, q_nat, q_cs, ← Int32.ofInt_add, ← Int32.ofInt_sub, ← Int32.ofInt_mul, ← Int32.ofInt_neg, ← Int64.ofInt_add, ← Int64.ofInt_sub, ← Int64.ofInt_mul, ← Int64.ofInt_neg, pL_I, q_mx, q_mn, q_ab, q_abL, q_mnL, q_nn0, q_nn1, q_rr, q_b1, q_b0, q_T, q_F, q_iT, q_iF, q_d, q_in, q_wi, q_hC, q_hM, pT_i, pU_i, pS_i, pS_j, pS_0, Sum.elim_inl, Sum.elim_inr, if_pos, if_neg]
  left
  have d4' : ψ2.1 12 0 12 = Int32.ofInt 0 := d4
  have kψ : ψ2.1 1321 0 2 = Int32.ofInt (kc : Int) := ((d7 1321 0 2 rfl).1).trans (((y8 1321 0 2 rfl).1).trans kτ4)
  have i0 : (40 + 2 * (kc : Int)).toNat = 40 + 2 * kc := by omega
  have i1 : (40 + 2 * (kc : Int) + 1).toNat = 40 + 2 * kc + 1 := by omega
  have QM : qf [(1325, 999), (1321, 2)] ψ2 (am_wI (am_wI (am_wI ψ2 1325 0 (40 + 2 * kc) (Int32.ofInt v)) 1325 0 (40 + 2 * kc + 1) (Int32.ofInt t)) 1321 0 2 (Int32.ofInt ((kc : Int) + 1))) := ((qf.rf.wI rfl).wI rfl).wI rfl
  have zk : ∀ j, 40 ≤ j → zM 1325 0 j = true := fun j hj => by
    unfold zM
    rw [q_tlM (by omega), decide_eq_true hj]
    rfl
  have mψ : mz τ3 ψ2 a wc ws nm kc kw kt sl zr := (mτ.t qf.rf y8).t qf.rf d7
  obtain ⟨⟨o1, o2, o3⟩, o4, ⟨o5, o6, o7, o8⟩, o9, o10⟩ := mψ
  have R10 : ∀ i j, ψ1.1 10 i j = τ3.1 10 i j ∧ ψ1.2.1 10 i j = τ3.2.1 10 i j ∧ ψ1.1 1106 i j = τ3.1 1106 i j := fun i j => ⟨((d6 10 i j rfl).1).trans (((y7 10 i j rfl).1).trans (Q0 10 i j rfl).1), ((d6 10 i j rfl).2.1).trans (((y7 10 i j rfl).2.1).trans (Q0 10 i j rfl).2.1), ((d6 1106 i j rfl).1).trans (((y7 1106 i j rfl).1).trans (Q0 1106 i j rfl).1)⟩
  have R3 : ∀ j, j ≠ 4 → ψ1.1 3 a j = τ3.1 3 a j := fun j hj => by
    rw [(d6 3 a j (q_tlC (by omega))).1, (y7 3 a j (q_tlC (by omega))).1, hφ0, am_wI_r, if_neg (by omega)]
    rfl
  have R34 : ψ1.1 3 a 4 = Int32.ofInt ((kc : Int) + 1) := by
    rw [(d6 3 a 4 rfl).1, (y7 3 a 4 rfl).1, hφ0, am_wI_r, if_pos ⟨rfl, rfl, rfl⟩]
  have R402 : ∀ j, ψ1.1 402 a j = if j = kc then Int32.ofInt v else τ3.1 402 a j := fun j => by
    rw [(d6 402 a j rfl).1, (y7 402 a j rfl).1, hφ0]
    simp [am_wI, am_u3]
  have R403 : ∀ j, ψ1.1 403 a j = if j = kc then Int32.ofInt t else τ3.1 403 a j := fun j => by
    rw [(d6 403 a j rfl).1, (y7 403 a j rfl).1, hφ0]
    simp [am_wI, am_u3]
  refine ⟨ψ1, am_wI (am_wI (am_wI ψ2 1325 0 (40 + 2 * kc) (Int32.ofInt v)) 1325 0 (40 + 2 * kc + 1) (Int32.ofInt t)) 1321 0 2 (Int32.ofInt ((kc : Int) + 1)), s9, p9, e9, fun i => if i = kc then v else kw i, fun i => if i = kc then t else kt i, ?_, ?_, d3.q (qf.rf (l := [])) (by decide +kernel) QM (by decide +kernel), d4, by omega, ?_, W1.tr (d6.z (fun _ _ _ => zC_t)), (((W2.tr (d7.z (fun _ _ _ => zM_t))).wI (zk _ (by omega))).wI (zk _ (by omega))).wI rfl⟩
  · simp (disch := omega) only [d1, Option.bind_some, qi, ql, qI_lt, qI_le, qI_eq, qI_L, qI_ix, qL_lt, qL_eq, q_nat, q_cs, ← Int32.ofInt_add, ← Int32.ofInt_sub, ← Int32.ofInt_mul, ← Int32.ofInt_neg, ← Int64.ofInt_add, ← Int64.ofInt_sub, ← Int64.ofInt_mul, ← Int64.ofInt_neg, pL_I, q_mx, q_mn, q_ab, q_abL, q_mnL, q_nn0, q_nn1, q_rr, q_b1, q_b0, q_T, q_F, q_iT, q_iF, q_d, q_in, q_wi, q_hC, q_hM, pT_i, pU_i, pS_i, pS_j, pS_0, Sum.elim_inl, Sum.elim_inr, if_pos, if_neg]
  · have k1 : ∀ j v, (am_wI ψ2 1325 0 j v).1 1321 0 2 = Int32.ofInt (kc : Int) := fun j v => kψ
    have k2 : ∀ j v i w, (am_wI (am_wI ψ2 1325 0 j v) 1325 0 i w).1 1321 0 2 = Int32.ofInt (kc : Int) := fun j v i w => kψ
    simp (disch := omega) only [f_X12_readBox_121, f_X12_readBox_135, m14, d2, d4', z2, kψ, i0, i1, k1, k2, Option.bind_some, qi, ql, qI_lt, qI_le, qI_eq, qI_L, qI_ix, qL_lt, qL_eq, q_nat, q_cs, ← Int32.ofInt_add, ← Int32.ofInt_sub, ← Int32.ofInt_mul, ← Int32.ofInt_neg, ← Int64.ofInt_add, ← Int64.ofInt_sub, ← Int64.ofInt_mul, ← Int64.ofInt_neg, pL_I, q_mx, q_mn, q_ab, q_abL, q_mnL, q_nn0, q_nn1, q_rr, q_b1, q_b0, q_T, q_F, q_iT, q_iF, q_d, q_in, q_wi, q_hC, q_hM, pT_i, pU_i, pS_i, pS_j, pS_0, Sum.elim_inl, Sum.elim_inr, if_pos, if_neg]
  · refine ⟨⟨o1, (R3 1 (by omega)).trans o2, o3⟩, fun i hi => ?_, ⟨by omega, R34, by rw [am_wI_r, if_pos ⟨rfl, rfl, rfl⟩]; rfl, fun k hk => ?_⟩, ⟨(R3 5 (by omega)).trans o9.1, o9.2.1, o9.2.2.1, o9.2.2.2⟩, ⟨(R3 6 (by omega)).trans o10.1, o10.2.1, o10.2.2.1, o10.2.2.2⟩⟩
    · obtain ⟨⟨w1, w2, w3, w4⟩, q1, q2, q3, q4⟩ := o4 i hi
      refine ⟨⟨?_, w2, w3, w4⟩, q1, q2, ((R10 _ _).2.1).trans q3, q4⟩
      unfold pw_C at w1 ⊢
      rw [show ψ1.1 10 (6 * a + i) = τ3.1 10 (6 * a + i) from funext fun j => (R10 _ j).1, show ψ1.2.1 10 (6 * a + i) = τ3.2.1 10 (6 * a + i) from funext fun j => (R10 _ j).2.1, show ψ1.1 1106 (6 * a + i) = τ3.1 1106 (6 * a + i) from funext fun j => (R10 _ j).2.2]
      exact w1
    · rw [R402, R403]
      by_cases ek : k = kc
      · simp only [if_pos ek]
        refine ⟨vb, tb, trivial, trivial, ?_, ?_⟩
        · rw [am_wI_r, if_neg (by omega), am_wI_r, if_neg (by omega), am_wI_r, if_pos ⟨rfl, rfl, by omega⟩]
        · rw [am_wI_r, if_neg (by omega), am_wI_r, if_pos ⟨rfl, rfl, by omega⟩]
      · simp only [if_neg ek]
        obtain ⟨q1, q2, q3, q4, q5, q6⟩ := o8 k (by omega)
        refine ⟨q1, q2, q3, q4, ?_, ?_⟩
        · rw [am_wI_r, if_neg (by omega), am_wI_r, if_neg (by omega), am_wI_r, if_neg (by omega)]
          exact q5
        · rw [am_wI_r, if_neg (by omega), am_wI_r, if_neg (by omega), am_wI_r, if_neg (by omega)]
          exact q6
