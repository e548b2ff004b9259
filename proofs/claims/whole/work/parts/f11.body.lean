/-! ===== MACHINE: a WAVE behind its name ===== -/
theorem mm_93 {σ : am_H} {c : Nat} (hc : c < 6) : ∃ τ : am_H, am_loop (fun s : Int32 × am_H => f_X12_readWave_93 (Int32.ofInt (c : Int)) s.1 s.2) (Int32.ofInt 0, σ) = some τ ∧ (qf [(1324, 999)] σ τ ∧ qz (zV c) σ τ ∧ pw_M τ 2 c w0M) := by
  refine am_loop_1 (B := fun s : Int32 × am_H => f_X12_readWave_93 (Int32.ofInt (c : Int)) s.1 s.2) (fun q s => ∃ (k : Nat) (τ : am_H), s = (Int32.ofInt (k : Int), τ) ∧ k ≤ 9 ∧ qf [(1324, 999)] σ τ ∧ qz (zV c) σ τ ∧ (∀ j, j < k → τ.1 1324 0 (108 + 9 * c + j) = Int32.ofInt (w0M j)) ∧ q = 9 - k) (fun τ => qf [(1324, 999)] σ τ ∧ qz (zV c) σ τ ∧ pw_M τ 2 c w0M) ?_ 9 _ ⟨0, σ, rfl, by omega, qf.rf, qz.rf, fun j hj => by omega, rfl⟩
  rintro q s ⟨k, τ, rfl, hk, hq, hz, hi, rfl⟩
  by_cases ce : k < 9
  · right
    have ii : (54 * 2 + 9 * (c : Int) + (k : Int)).toNat = 108 + 9 * c + k := by omega
    refine ⟨(Int32.ofInt ((k : Int) + 1), am_wI τ 1324 0 (108 + 9 * c + k) (Int32.ofInt (w0M k))), 9 - (k + 1), ?_, by omega, k + 1, _, rfl, by omega, hq.wI rfl, hz.wI (zV_w ce), fun j hj => ?_, rfl⟩
    · unfold w0M
      by_cases c4 : 4 < k
      · rw [if_pos c4]
        simp (disch := omega) only [f_X12_readWave_93, f_X12_readWave_120, f_X12_cell, ii, Option.bind_some, qi, ql, qI_lt, qI_le, qI_eq, qI_L, qI_ix, qL_lt, qL_eq, q_nat, q_cs, ← Int32.ofInt_add, ← Int32.ofInt_sub, ← Int32.ofInt_mul, ← Int32.ofInt_neg, ← Int64.ofInt_add, ← Int64.ofInt_sub, ← Int64.ofInt_mul, ← Int64.ofInt_neg, pL_I, q_mx, q_mn, q_ab, q_abL, q_mnL, q_nn0, q_nn1, q_rr, q_b1, q_b0, q_T, q_F, q_iT, q_iF, q_d, q_in, q_wi, q_hC, q_hM, pT_i, pU_i, pS_i, pS_j, pS_0, Sum.elim_inl, Sum.elim_inr, if_pos, if_neg]
      · rw [if_neg c4]
        simp (disch := omega) only [f_X12_readWave_93, f_X12_readWave_120, f_X12_cell, ii, Option.bind_some, qi, ql, qI_lt, qI_le, qI_eq, qI_L, qI_ix, qL_lt, qL_eq, q_nat, q_cs, ← Int32.ofInt_add, ← Int32.ofInt_sub, ← Int32.ofInt_mul, ← Int32.ofInt_neg, ← Int64.ofInt_add, ← Int64.ofInt_sub, ← Int64.ofInt_mul, ← Int64.ofInt_neg, pL_I, q_mx, q_mn, q_ab, q_abL, q_mnL, q_nn0, q_nn1, q_rr, q_b1, q_b0, q_T, q_F, q_iT, q_iF, q_d, q_in, q_wi, q_hC, q_hM, pT_i, pU_i, pS_i, pS_j, pS_0, Sum.elim_inl, Sum.elim_inr, if_pos, if_neg]
    · rw [am_wI_r]
      by_cases e : j = k
      · rw [if_pos ⟨rfl, rfl, by omega⟩, e]
      · rw [if_neg (by omega), hi j (by omega)]
  · left
    have c5 : k = 9 := by omega
    subst c5
    refine ⟨τ, ?_, hq, hz, fun j hj => hi j hj⟩
    simp (disch := omega) only [f_X12_readWave_93, Option.bind_some, qi, ql, qI_lt, qI_le, qI_eq, qI_L, qI_ix, qL_lt, qL_eq, q_nat, q_cs, ← Int32.ofInt_add, ← Int32.ofInt_sub, ← Int32.ofInt_mul, ← Int32.ofInt_neg, ← Int64.ofInt_add, ← Int64.ofInt_sub, ← Int64.ofInt_mul, ← Int64.ofInt_neg, pL_I, q_mx, q_mn, q_ab, q_abL, q_mnL, q_nn0, q_nn1, q_rr, q_b1, q_b0, q_T, q_F, q_iT, q_iF, q_d, q_in, q_wi, q_hC, q_hM, pT_i, pU_i, pS_i, pS_j, pS_0, Sum.elim_inl, Sum.elim_inr, if_pos, if_neg]
theorem pw_C.n {σ : am_H} {R j : Nat} {w : Nat → Int} {v : Int} (C : pw_C σ R w) (hj : j < 2) : pw_C (am_wI σ 10 R (j + 1) (Int32.ofInt v)) R (up w j v) := by
  obtain ⟨c1, c2, c3, c4, c5, c6, c7, c8⟩ := C
  rcases (by omega : j = 0 ∨ j = 1) with z | z
  · subst z
    refine ⟨by simp [am_wI, am_u3, up], by simp [am_wI, am_u3, up]; exact c2, by simp [am_wI, am_u3, up]; exact c3, by simp [am_wI, am_u3, up]; exact c4, by simp [am_wI, am_u3, up]; exact c5, fun k hk => ?_, c7, c8⟩
    rw [show up w 0 v (5 + k) = w (5 + k) by unfold up; rw [if_neg (by omega)]]
    exact c6 k hk
  · subst z
    refine ⟨by simp [am_wI, am_u3, up]; exact c1, by simp [am_wI, am_u3, up], by simp [am_wI, am_u3, up]; exact c3, by simp [am_wI, am_u3, up]; exact c4, by simp [am_wI, am_u3, up]; exact c5, fun k hk => ?_, c7, c8⟩
    rw [show up w 1 v (5 + k) = w (5 + k) by unfold up; rw [if_neg (by omega)]]
    exact c6 k hk
theorem pw_C.cg {σ : am_H} {r : Nat} {w w' : Nat → Int} (C : pw_C σ r w) (h : ∀ k, k < 9 → w k = w' k) : pw_C σ r w' := by
  have D := C.d.c h
  obtain ⟨-, -, -, -, -, -, c7, c8⟩ := C
  exact ⟨D.1, D.2.1, D.2.2.1, D.2.2.2.1, D.2.2.2.2.1, D.2.2.2.2.2, by rw [← h 5 (by omega), ← h 7 (by omega)]; exact c7, by rw [← h 6 (by omega), ← h 8 (by omega)]; exact c8⟩
/-- a WAVE behind its name: the class's way, the reference's way -/
theorem mw_body {σ1 σ2 : am_H} {n : Nat} {b : Nat → Int} {p e R c : Nat} {nm : Int64} (hc : c < 6) (h : tk σ1 σ2 n b 1 p e) (g : gd σ2) (w2 : σ2.1 1320 0 2 = Int32.ofInt (c : Int)) : (∃ (ρ1 κ κ' τ1 τ2 : am_H) (s' p' e' : Nat) (w' : Nat → Int), f_X5_advance σ1 = some ρ1 ∧ qf [(5, 3), (5, 4), (5, 5), (5, 6)] σ1 ρ1 ∧ f_X10_clear R nm ρ1 = some κ ∧ f_X3_readsTurns R κ = some (true, κ') ∧ f_X3_readsSettings R κ' = some (true, τ1) ∧ f_X12_readWave_66 σ2 = some (am_wI τ2 1320 0 2 (τ2.1 1320 0 2 + Int32.ofInt 1)) ∧ tk τ1 τ2 n b s' p' e' ∧ gd τ2 ∧ p < p' ∧ wv τ1 τ2 R c w' ∧ τ1.2.1 10 R 0 = nm ∧ τ2.2.1 1326 0 c = σ2.2.1 12 0 19 ∧ qz (zX R) σ1 τ1 ∧ qz (zY c) σ2 τ2) ∨ (∃ (ρ1 κ τ1 τ2 : am_H), f_X5_advance σ1 = some ρ1 ∧ qf [(5, 3), (5, 4), (5, 5), (5, 6)] σ1 ρ1 ∧ f_X10_clear R nm ρ1 = some κ ∧ (f_X3_readsTurns R κ = some (false, τ1) ∨ ∃ κ' : am_H, f_X3_readsTurns R κ = some (true, κ') ∧ f_X3_readsSettings R κ' = some (false, τ1)) ∧ f_X12_readWave_66 σ2 = some τ2 ∧ oN (zX R) (zY c) σ1 σ2 τ1 τ2) := by
  have z2 : (2 : Int).toNat = 2 := rfl
  have g' : σ2.1 12 0 12 = Int32.ofInt 0 := g
  have i0 : (54 * 2 + 9 * (c : Int) + 0).toNat = 108 + 9 * c + 0 := by omega
  have i1 : (54 * 2 + 9 * (c : Int) + 1).toNat = 108 + 9 * c + 1 := by omega
  -- the reference's name and fresh cells
  obtain ⟨μ, hμ⟩ : ∃ μ : am_H, μ = am_wL σ2 1326 0 c (σ2.2.1 12 0 19) := ⟨_, rfl⟩
  have Qμ : qf [(1326, 999)] σ2 μ := by rw [hμ]; exact qf.rf.wL rfl
  have Zμ : qz (zY c) σ2 μ := by rw [hμ]; exact qz.rf.wL zY_n
  obtain ⟨ν, l93, Qν, Zν, Mν⟩ := mm_93 (σ := μ) hc
  have hν := h.q (qf.rf (l := [])) (by decide +kernel) ((Qμ.mo (by decide)).tr (Qν.mo (by decide)) : qf [(1326, 999), (1324, 999)] σ2 ν) (by decide +kernel)
  have Yν : qz (zY c) σ2 ν := Zμ.tr (Zν.mo (fun _ _ _ => zY_t))
  have Nν : ν.2.1 1326 0 c = σ2.2.1 12 0 19 := by
    rw [(Qν 1326 0 c rfl).2.1, hμ]
    simp [am_wL, am_u3]
  obtain ⟨ρ1, ρ2, s1, p1, e1, a1, a2, a3, a4, a5, a6⟩ := tk_next hν (Or.inl rfl)
  have pe := (h.2.2.2.2.2.2.1 (Or.inl rfl)).1
  have gν : ν.1 12 0 12 = Int32.ofInt 0 := ((Qν 12 0 12 rfl).1).trans (((Qμ 12 0 12 rfl).1).trans g)
  have gρ : gd ρ2 := ((a6 12 0 12 rfl).1).trans gν
  obtain ⟨κ, c1, c2, c3, c4, c5⟩ := mc_clear (σ := ρ1) (R := R) (nm := nm)
  have hκ := a3.q c2 (by decide +kernel) (qf.rf (l := [])) (by decide +kernel)
  have Xκ : qz (zX R) σ1 κ := ((a5.mo (by decide)).z (l := tlC) (fun _ _ _ z => zX_t (zW_t z))).tr c3
  have Yρ : qz (zY c) σ2 ρ2 := Yν.tr ((a6.mo (by decide)).z (l := tlM) (fun _ _ _ z => zY_t (zV_t z)))
  have Mρ : pw_M ρ2 2 c w0M := sw_M a6 (by decide +kernel) Mν
  have Nρ : ρ2.2.1 1326 0 c = σ2.2.1 12 0 19 := ((a6 1326 0 c rfl).2.1).trans Nν
  have Tρ := (tk_ref hκ).2.1
  -- all that the reference does behind the WORD turns, where it has failed
  have dead : ∀ (χ1 χ : am_H) (k : Int) (q : Nat) (s p e : Nat), tk χ1 χ n b s p e → bd χ k q → qz (zY c) σ2 χ → ∃ τ : am_H, ((f_X12_isInWord (am_wI χ 1324 0 (108 + 9 * c + 0) (Int32.ofInt 0))).bind fun p13 => (f_X12_must p13 (am_wI χ 1324 0 (108 + 9 * c + 0) (Int32.ofInt 0))).bind fun p14 => (f_X12_count (Int32.ofInt 1) (Int32.ofInt 9999) p14).bind fun p16 => msM (Int32.ofInt (c : Int)) (Int32.ofInt 0) (am_wI p16.2 1324 0 (108 + 9 * c + 1) p16.1)) = some τ ∧ bd τ k q ∧ qz (zY c) σ2 τ := by
    intro χ1 χ k q s p e ht B Y
    have B1 : bd (am_wI χ 1324 0 (108 + 9 * c + 0) (Int32.ofInt 0)) k q := B
    have B2 : bd (am_wI (am_wI χ 1324 0 (108 + 9 * c + 0) (Int32.ofInt 0)) 1324 0 (108 + 9 * c + 1) (Int32.ofInt 0)) k q := B
    have T := (tk_ref (ht.q (qf.rf (l := [])) (by decide +kernel) (qf.rf.wI (l := [(1324, 999)]) rfl : qf [(1324, 999)] χ (am_wI χ 1324 0 (108 + 9 * c + 0) (Int32.ofInt 0))) (by decide +kernel))).2.2.1
    refine ⟨_, ?_, B2, (Y.wI (zY_t (zV_w (by omega)))).wI (zY_t (zV_w (by omega)))⟩
    rw [T, Option.bind_some, bd_must B1, Option.bind_some, bd_count B1, Option.bind_some]
    exact msM_bd B2 _ _
  rcases tk_takes hκ gρ (by omega : 1 < 22) with ⟨wt, τ1, τ2, s3, p3, e3, t1, t2, t3, t4, t5, t6, t7⟩ | ⟨q, qb, t1, t2⟩
  rotate_left
  · right
    have B : bd (FM ρ2 q p1) q p1 := FM_b qb
    have cb := bd_count B (Int32.ofInt 1) (Int32.ofInt 9999)
    obtain ⟨τ, d1, d2, d3⟩ := dead κ (FM ρ2 q p1) q p1 s1 p1 e1 (hκ.q (qf.rf (l := [])) (by decide +kernel) ((qf.rf.wI rfl).wI rfl : qf [(12, 12), (12, 13)] ρ2 (FM ρ2 q p1)) (by decide +kernel)) B (Yρ.tr (FM_q.z (fun _ _ _ z => zY_t (zV_t z))))
    refine ⟨ρ1, κ, FC κ q p1, τ, a1, a5, c1, Or.inl ?_, ?_, ⟨q, p1, FC_f, d2⟩, Xκ.tr (FC_q.z (fun _ _ _ z => zX_t (zW_t z))), d3⟩
    · simp (disch := omega) only [f_X3_readsTurns, t1, Option.bind_some, qi, ql, qI_lt, qI_le, qI_eq, qI_L, qI_ix, qL_lt, qL_eq, q_nat, q_cs, ← Int32.ofInt_add, ← Int32.ofInt_sub, ← Int32.ofInt_mul, ← Int32.ofInt_neg, ← Int64.ofInt_add, ← Int64.ofInt_sub, ← Int64.ofInt_mul, ← Int64.ofInt_neg, pL_I, q_mx, q_mn, q_ab, q_abL, q_mnL, q_nn0, q_nn1, q_rr, q_b1, q_b0, q_T, q_F, q_iT, q_iF, q_d, q_in, q_wi, q_hC, q_hM, pT_i, pU_i, pS_i, pS_j, pS_0, Sum.elim_inl, Sum.elim_inr, if_pos, if_neg]
    · refine Eq.trans ?_ d1
      simp (disch := omega) only [f_X12_readWave_66, f_X12_cell, g', z2, w2, Option.bind_some, qi, ql, qI_lt, qI_le, qI_eq, qI_L, qI_ix, qL_lt, qL_eq, q_nat, q_cs, ← Int32.ofInt_add, ← Int32.ofInt_sub, ← Int32.ofInt_mul, ← Int32.ofInt_neg, ← Int64.ofInt_add, ← Int64.ofInt_sub, ← Int64.ofInt_mul, ← Int64.ofInt_neg, pL_I, q_mx, q_mn, q_ab, q_abL, q_mnL, q_nn0, q_nn1, q_rr, q_b1, q_b0, q_T, q_F, q_iT, q_iF, q_d, q_in, q_wi, q_hC, q_hM, pT_i, pU_i, pS_i, pS_j, pS_0, Sum.elim_inl, Sum.elim_inr, if_pos, if_neg]
      rw [← hμ, l93]
      simp (disch := omega) only [a2, Tρ, t2, cb, i0, i1, Option.bind_some, qi, ql, qI_lt, qI_le, qI_eq, qI_L, qI_ix, qL_lt, qL_eq, q_nat, q_cs, ← Int32.ofInt_add, ← Int32.ofInt_sub, ← Int32.ofInt_mul, ← Int32.ofInt_neg, ← Int64.ofInt_add, ← Int64.ofInt_sub, ← Int64.ofInt_mul, ← Int64.ofInt_neg, pL_I, q_mx, q_mn, q_ab, q_abL, q_mnL, q_nn0, q_nn1, q_rr, q_b1, q_b0, q_T, q_F, q_iT, q_iF, q_d, q_in, q_wi, q_hC, q_hM, pT_i, pU_i, pS_i, pS_j, pS_0, Sum.elim_inl, Sum.elim_inr, if_pos, if_neg]
      rfl
  -- TURNS
  have Zτ : qz (zX R) σ1 τ1 := Xκ.tr (t6.z (fun _ _ _ z => zX_t (zW_t z)))
  have Yτ : qz (zY c) σ2 τ2 := Yρ.tr (t7.z (fun _ _ _ z => zY_t (zV_t z)))
  rcases tk_num2 t3 t4 (lo := 1) (hi := 9999) (by omega) (by omega) with ⟨v, sv, vb, k6, n1, n2, n3⟩ | ⟨q, qb, n1, n2, n3⟩
  rotate_left
  · right
    have B : bd (FM τ2 q p3) q p3 := FM_b qb
    obtain ⟨τ, d1, d2, d3⟩ := dead τ1 (FM τ2 q p3) q p3 s3 p3 e3 (t3.q (qf.rf (l := [])) (by decide +kernel) ((qf.rf.wI rfl).wI rfl : qf [(12, 12), (12, 13)] τ2 (FM τ2 q p3)) (by decide +kernel)) B (Yτ.tr (FM_q.z (fun _ _ _ z => zY_t (zV_t z))))
    refine ⟨ρ1, κ, FC τ1 q p3, τ, a1, a5, c1, Or.inl ?_, ?_, ⟨q, p3, FC_f, d2⟩, Zτ.tr (FC_q.z (fun _ _ _ z => zX_t (zW_t z))), d3⟩
    · simp (disch := omega) only [f_X3_readsTurns, t1, n1, Option.bind_some, qi, ql, qI_lt, qI_le, qI_eq, qI_L, qI_ix, qL_lt, qL_eq, q_nat, q_cs, ← Int32.ofInt_add, ← Int32.ofInt_sub, ← Int32.ofInt_mul, ← Int32.ofInt_neg, ← Int64.ofInt_add, ← Int64.ofInt_sub, ← Int64.ofInt_mul, ← Int64.ofInt_neg, pL_I, q_mx, q_mn, q_ab, q_abL, q_mnL, q_nn0, q_nn1, q_rr, q_b1, q_b0, q_T, q_F, q_iT, q_iF, q_d, q_in, q_wi, q_hC, q_hM, pT_i, pU_i, pS_i, pS_j, pS_0, Sum.elim_inl, Sum.elim_inr, if_pos, if_neg]
    · refine Eq.trans ?_ d1
      simp (disch := omega) only [f_X12_readWave_66, f_X12_cell, g', z2, w2, Option.bind_some, qi, ql, qI_lt, qI_le, qI_eq, qI_L, qI_ix, qL_lt, qL_eq, q_nat, q_cs, ← Int32.ofInt_add, ← Int32.ofInt_sub, ← Int32.ofInt_mul, ← Int32.ofInt_neg, ← Int64.ofInt_add, ← Int64.ofInt_sub, ← Int64.ofInt_mul, ← Int64.ofInt_neg, pL_I, q_mx, q_mn, q_ab, q_abL, q_mnL, q_nn0, q_nn1, q_rr, q_b1, q_b0, q_T, q_F, q_iT, q_iF, q_d, q_in, q_wi, q_hC, q_hM, pT_i, pU_i, pS_i, pS_j, pS_0, Sum.elim_inl, Sum.elim_inr, if_pos, if_neg]
      rw [← hμ, l93]
      simp (disch := omega) only [a2, Tρ, t2, n3, i0, i1, Option.bind_some, qi, ql, qI_lt, qI_le, qI_eq, qI_L, qI_ix, qL_lt, qL_eq, q_nat, q_cs, ← Int32.ofInt_add, ← Int32.ofInt_sub, ← Int32.ofInt_mul, ← Int32.ofInt_neg, ← Int64.ofInt_add, ← Int64.ofInt_sub, ← Int64.ofInt_mul, ← Int64.ofInt_neg, pL_I, q_mx, q_mn, q_ab, q_abL, q_mnL, q_nn0, q_nn1, q_rr, q_b1, q_b0, q_T, q_F, q_iT, q_iF, q_d, q_in, q_wi, q_hC, q_hM, pT_i, pU_i, pS_i, pS_j, pS_0, Sum.elim_inl, Sum.elim_inr, if_pos, if_neg]
      rfl
  have Q3 : qf [(10, 1)] τ1 (am_wI τ1 10 R 1 (Int32.ofInt v)) := qf.rf.wI rfl
  obtain ⟨τ3, τ4, s5, p5, e5, x1, x2, x3, x4, x5, x6, x7, x8⟩ := n3 _ (t3.q Q3 (by decide +kernel) (qf.rf (l := [])) (by decide +kernel))
  obtain ⟨τ5, h5⟩ : ∃ τ5 : am_H, τ5 = am_wI τ4 1324 0 (108 + 9 * c + 0) (Int32.ofInt v) := ⟨_, rfl⟩
  have Q5 : qf [(1324, 999)] τ4 τ5 := by rw [h5]; exact qf.rf.wI rfl
  have y4 := x4.q (qf.rf (l := [])) (by decide +kernel) Q5 (by decide +kernel)
  have y5 : gd τ5 := ((Q5 12 0 12 rfl).1).trans x5
  have Zτ3 : qz (zX R) σ1 τ3 := (Zτ.wI zX_w.1).tr (x7.z (fun _ _ _ z => zX_t (zW_t z)))
  have Yτ5 : qz (zY c) σ2 τ5 := by rw [h5]; exact (Yτ.tr (x8.z (fun _ _ _ z => zY_t (zV_t z)))).wI (zY_t (zV_w (by omega)))
  have C3 : pw_C τ3 R (up w0C 0 v) := sw_C x7 (by decide +kernel) ((sw_C t6 (by decide +kernel) c5).n (j := 0) (by omega))
  have M5 : pw_M τ5 2 c (up w0M 0 v) := by rw [h5]; exact (sw_M x8 (by decide +kernel) (sw_M t7 (by decide +kernel) Mρ)).w (by omega)
  have Tin := (tk_ref y4).2.2.1
  rcases tk_takes y4 y5 (by omega : 2 < 22) with ⟨wi, τ6, τ7, s7, p7, e7, u1, u2, u3, u4, u5, u6, u7⟩ | ⟨q, qb, u1, u2⟩
  rotate_left
  · right
    have B1 : bd (am_wI (FM τ5 q p5) 1324 0 (108 + 9 * c + 1) (Int32.ofInt 0)) q p5 := ⟨qb, rfl, rfl⟩
    have cb := bd_count (FM_b qb : bd (FM τ5 q p5) q p5) (Int32.ofInt 1) (Int32.ofInt 9999)
    have d1 := msM_bd B1 (Int32.ofInt (c : Int)) (Int32.ofInt 0)
    refine ⟨ρ1, κ, FC τ3 q p5, am_wI (FM τ5 q p5) 1324 0 (108 + 9 * c + 1) (Int32.ofInt 0), a1, a5, c1, Or.inl ?_, ?_, ⟨q, p5, FC_f, B1⟩, Zτ3.tr (FC_q.z (fun _ _ _ z => zX_t (zW_t z))), (Yτ5.tr (FM_q.z (fun _ _ _ z => zY_t (zV_t z)))).wI (zY_t (zV_w (by omega)))⟩
    · simp (disch := omega) only [f_X3_readsTurns, t1, n1, k6, x1, u1, Option.bind_some, qi, ql, qI_lt, qI_le, qI_eq, qI_L, qI_ix, qL_lt, qL_eq, q_nat, q_cs, ← Int32.ofInt_add, ← Int32.ofInt_sub, ← Int32.ofInt_mul, ← Int32.ofInt_neg, ← Int64.ofInt_add, ← Int64.ofInt_sub, ← Int64.ofInt_mul, ← Int64.ofInt_neg, pL_I, q_mx, q_mn, q_ab, q_abL, q_mnL, q_nn0, q_nn1, q_rr, q_b1, q_b0, q_T, q_F, q_iT, q_iF, q_d, q_in, q_wi, q_hC, q_hM, pT_i, pU_i, pS_i, pS_j, pS_0, Sum.elim_inl, Sum.elim_inr, if_pos, if_neg]
    · refine Eq.trans ?_ d1
      simp (disch := omega) only [f_X12_readWave_66, f_X12_cell, g', z2, w2, Option.bind_some, qi, ql, qI_lt, qI_le, qI_eq, qI_L, qI_ix, qL_lt, qL_eq, q_nat, q_cs, ← Int32.ofInt_add, ← Int32.ofInt_sub, ← Int32.ofInt_mul, ← Int32.ofInt_neg, ← Int64.ofInt_add, ← Int64.ofInt_sub, ← Int64.ofInt_mul, ← Int64.ofInt_neg, pL_I, q_mx, q_mn, q_ab, q_abL, q_mnL, q_nn0, q_nn1, q_rr, q_b1, q_b0, q_T, q_F, q_iT, q_iF, q_d, q_in, q_wi, q_hC, q_hM, pT_i, pU_i, pS_i, pS_j, pS_0, Sum.elim_inl, Sum.elim_inr, if_pos, if_neg]
      rw [← hμ, l93]
      simp (disch := omega) only [a2, Tρ, t2, x2, i0, i1, Option.bind_some, qi, ql, qI_lt, qI_le, qI_eq, qI_L, qI_ix, qL_lt, qL_eq, q_nat, q_cs, ← Int32.ofInt_add, ← Int32.ofInt_sub, ← Int32.ofInt_mul, ← Int32.ofInt_neg, ← Int64.ofInt_add, ← Int64.ofInt_sub, ← Int64.ofInt_mul, ← Int64.ofInt_neg, pL_I, q_mx, q_mn, q_ab, q_abL, q_mnL, q_nn0, q_nn1, q_rr, q_b1, q_b0, q_T, q_F, q_iT, q_iF, q_d, q_in, q_wi, q_hC, q_hM, pT_i, pU_i, pS_i, pS_j, pS_0, Sum.elim_inl, Sum.elim_inr, if_pos, if_neg]
      rw [← h5]
      simp (disch := omega) only [Tin, u2, cb, i1, Option.bind_some, qi, ql, qI_lt, qI_le, qI_eq, qI_L, qI_ix, qL_lt, qL_eq, q_nat, q_cs, ← Int32.ofInt_add, ← Int32.ofInt_sub, ← Int32.ofInt_mul, ← Int32.ofInt_neg, ← Int64.ofInt_add, ← Int64.ofInt_sub, ← Int64.ofInt_mul, ← Int64.ofInt_neg, pL_I, q_mx, q_mn, q_ab, q_abL, q_mnL, q_nn0, q_nn1, q_rr, q_b1, q_b0, q_T, q_F, q_iT, q_iF, q_d, q_in, q_wi, q_hC, q_hM, pT_i, pU_i, pS_i, pS_j, pS_0, Sum.elim_inl, Sum.elim_inr, if_pos, if_neg]
      rfl
  have Zτ6 : qz (zX R) σ1 τ6 := Zτ3.tr (u6.z (fun _ _ _ z => zX_t (zW_t z)))
  have Yτ7 : qz (zY c) σ2 τ7 := Yτ5.tr (u7.z (fun _ _ _ z => zY_t (zV_t z)))
  rcases tk_num2 u3 u4 (lo := 1) (hi := 9999) (by omega) (by omega) with ⟨v', sv', vb', k6', n1', n2', n3'⟩ | ⟨q, qb, n1', n2', n3'⟩
  rotate_left
  · right
    have B1 : bd (am_wI (FM τ7 q p7) 1324 0 (108 + 9 * c + 1) (Int32.ofInt 0)) q p7 := ⟨qb, rfl, rfl⟩
    have d1 := msM_bd B1 (Int32.ofInt (c : Int)) (Int32.ofInt 0)
    refine ⟨ρ1, κ, FC τ6 q p7, am_wI (FM τ7 q p7) 1324 0 (108 + 9 * c + 1) (Int32.ofInt 0), a1, a5, c1, Or.inl ?_, ?_, ⟨q, p7, FC_f, B1⟩, Zτ6.tr (FC_q.z (fun _ _ _ z => zX_t (zW_t z))), (Yτ7.tr (FM_q.z (fun _ _ _ z => zY_t (zV_t z)))).wI (zY_t (zV_w (by omega)))⟩
    · simp (disch := omega) only [f_X3_readsTurns, t1, n1, k6, x1, u1, n1', Option.bind_some, qi, ql, qI_lt, qI_le, qI_eq, qI_L, qI_ix, qL_lt, qL_eq, q_nat, q_cs, ← Int32.ofInt_add, ← Int32.ofInt_sub, ← Int32.ofInt_mul, ← Int32.ofInt_neg, ← Int64.ofInt_add, ← Int64.ofInt_sub, ← Int64.ofInt_mul, ← Int64.ofInt_neg, pL_I, q_mx, q_mn, q_ab, q_abL, q_mnL, q_nn0, q_nn1, q_rr, q_b1, q_b0, q_T, q_F, q_iT, q_iF, q_d, q_in, q_wi, q_hC, q_hM, pT_i, pU_i, pS_i, pS_j, pS_0, Sum.elim_inl, Sum.elim_inr, if_pos, if_neg]
    · refine Eq.trans ?_ d1
      simp (disch := omega) only [f_X12_readWave_66, f_X12_cell, g', z2, w2, Option.bind_some, qi, ql, qI_lt, qI_le, qI_eq, qI_L, qI_ix, qL_lt, qL_eq, q_nat, q_cs, ← Int32.ofInt_add, ← Int32.ofInt_sub, ← Int32.ofInt_mul, ← Int32.ofInt_neg, ← Int64.ofInt_add, ← Int64.ofInt_sub, ← Int64.ofInt_mul, ← Int64.ofInt_neg, pL_I, q_mx, q_mn, q_ab, q_abL, q_mnL, q_nn0, q_nn1, q_rr, q_b1, q_b0, q_T, q_F, q_iT, q_iF, q_d, q_in, q_wi, q_hC, q_hM, pT_i, pU_i, pS_i, pS_j, pS_0, Sum.elim_inl, Sum.elim_inr, if_pos, if_neg]
      rw [← hμ, l93]
      simp (disch := omega) only [a2, Tρ, t2, x2, i0, i1, Option.bind_some, qi, ql, qI_lt, qI_le, qI_eq, qI_L, qI_ix, qL_lt, qL_eq, q_nat, q_cs, ← Int32.ofInt_add, ← Int32.ofInt_sub, ← Int32.ofInt_mul, ← Int32.ofInt_neg, ← Int64.ofInt_add, ← Int64.ofInt_sub, ← Int64.ofInt_mul, ← Int64.ofInt_neg, pL_I, q_mx, q_mn, q_ab, q_abL, q_mnL, q_nn0, q_nn1, q_rr, q_b1, q_b0, q_T, q_F, q_iT, q_iF, q_d, q_in, q_wi, q_hC, q_hM, pT_i, pU_i, pS_i, pS_j, pS_0, Sum.elim_inl, Sum.elim_inr, if_pos, if_neg]
      rw [← h5]
      simp (disch := omega) only [Tin, u2, n3', i1, Option.bind_some, qi, ql, qI_lt, qI_le, qI_eq, qI_L, qI_ix, qL_lt, qL_eq, q_nat, q_cs, ← Int32.ofInt_add, ← Int32.ofInt_sub, ← Int32.ofInt_mul, ← Int32.ofInt_neg, ← Int64.ofInt_add, ← Int64.ofInt_sub, ← Int64.ofInt_mul, ← Int64.ofInt_neg, pL_I, q_mx, q_mn, q_ab, q_abL, q_mnL, q_nn0, q_nn1, q_rr, q_b1, q_b0, q_T, q_F, q_iT, q_iF, q_d, q_in, q_wi, q_hC, q_hM, pT_i, pU_i, pS_i, pS_j, pS_0, Sum.elim_inl, Sum.elim_inr, if_pos, if_neg]
      rfl
  -- HOURS
  have Q7 : qf [(10, 2)] τ6 (am_wI τ6 10 R 2 (Int32.ofInt v')) := qf.rf.wI rfl
  obtain ⟨τ8, τ9, s9, p9, e9, x1', x2', x3', x4', x5', x6', x7', x8'⟩ := n3' _ (u3.q Q7 (by decide +kernel) (qf.rf (l := [])) (by decide +kernel))
  obtain ⟨τ10, h10⟩ : ∃ τ10 : am_H, τ10 = am_wI τ9 1324 0 (108 + 9 * c + 1) (Int32.ofInt v') := ⟨_, rfl⟩
  have Q10 : qf [(1324, 999)] τ9 τ10 := by rw [h10]; exact qf.rf.wI rfl
  have y8 := x4'.q (qf.rf (l := [])) (by decide +kernel) Q10 (by decide +kernel)
  have y9 : gd τ10 := ((Q10 12 0 12 rfl).1).trans x5'
  have Zτ8 : qz (zX R) σ1 τ8 := (Zτ6.wI zX_w.1).tr (x7'.z (fun _ _ _ z => zX_t (zW_t z)))
  have Yτ10 : qz (zY c) σ2 τ10 := by rw [h10]; exact (Yτ7.tr (x8'.z (fun _ _ _ z => zY_t (zV_t z)))).wI (zY_t (zV_w (by omega)))
  have C8 : pw_C τ8 R (up (up w0C 0 v) 1 v') := sw_C x7' (by decide +kernel) ((sw_C u6 (by decide +kernel) C3).n (j := 1) (by omega))
  have M10 : pw_M τ10 2 c (up (up w0M 0 v) 1 v') := by rw [h10]; exact (sw_M x8' (by decide +kernel) (sw_M u7 (by decide +kernel) M5)).w (by omega)
  have W10 : wv τ8 τ10 R c (up (up w0M 0 v) 1 v') := ⟨C8.cg (fun k hk => by
    rcases (by omega : k = 0 ∨ k = 1 ∨ k = 2 ∨ k = 3 ∨ k = 4 ∨ k = 5 ∨ k = 6 ∨ k = 7 ∨ k = 8) with z | z | z | z | z | z | z | z | z <;> subst z <;> rfl), M10, ⟨vb, vb', (by show 0 ≤ (0 : Int) ∧ (0 : Int) ≤ 99; omega), (by show 0 ≤ (0 : Int) ∧ (0 : Int) ≤ 23; omega), (by show 0 ≤ (0 : Int) ∧ (0 : Int) ≤ 2; omega), (by show 1 ≤ (1 : Int) ∧ (1 : Int) ≤ 200; omega), (by show 1 ≤ (1 : Int) ∧ (1 : Int) ≤ 200; omega), (by show 1 ≤ (1 : Int) ∧ (1 : Int) ≤ 200; omega), (by show 1 ≤ (1 : Int) ∧ (1 : Int) ≤ 200; omega)⟩, fun k hk => by
    have hk : (k : Int) < 2 * 0 := hk
    omega⟩
  have N8 : τ8.2.1 10 R 0 = nm := by
    rw [(x7' 10 R 0 rfl).2.1]
    show τ6.2.1 10 R 0 = nm
    rw [(u6 10 R 0 rfl).2.1, (x7 10 R 0 rfl).2.1]
    show τ1.2.1 10 R 0 = nm
    rw [(t6 10 R 0 rfl).2.1]
    exact c4
  have N10 : τ10.2.1 1326 0 c = σ2.2.1 12 0 19 := by
    rw [(Q10 1326 0 c rfl).2.1, (x8' 1326 0 c rfl).2.1, (u7 1326 0 c rfl).2.1, (Q5 1326 0 c rfl).2.1, (x8 1326 0 c rfl).2.1, (t7 1326 0 c rfl).2.1]
    exact Nρ
  have turns : f_X3_readsTurns R κ = some (true, τ8) := by
    simp (disch := omega) only [f_X3_readsTurns, t1, n1, k6, x1, u1, n1', k6', x1', Option.bind_some, qi, ql, qI_lt, qI_le, qI_eq, qI_L, qI_ix, qL_lt, qL_eq, q_nat, q_cs, ← Int32.ofInt_add, ← Int32.ofInt_sub, ← Int32.ofInt_mul, ← Int32.ofInt_neg, ← Int64.ofInt_add, ← Int64.ofInt_sub, ← Int64.ofInt_mul, ← Int64.ofInt_neg, pL_I, q_mx, q_mn, q_ab, q_abL, q_mnL, q_nn0, q_nn1, q_rr, q_b1, q_b0, q_T, q_F, q_iT, q_iF, q_d, q_in, q_wi, q_hC, q_hM, pT_i, pU_i, pS_i, pS_j, pS_0, Sum.elim_inl, Sum.elim_inr, if_pos, if_neg]
  have r66 : f_X12_readWave_66 σ2 = msM (Int32.ofInt (c : Int)) (Int32.ofInt 0) τ10 := by
    simp (disch := omega) only [f_X12_readWave_66, f_X12_cell, g', z2, w2, Option.bind_some, qi, ql, qI_lt, qI_le, qI_eq, qI_L, qI_ix, qL_lt, qL_eq, q_nat, q_cs, ← Int32.ofInt_add, ← Int32.ofInt_sub, ← Int32.ofInt_mul, ← Int32.ofInt_neg, ← Int64.ofInt_add, ← Int64.ofInt_sub, ← Int64.ofInt_mul, ← Int64.ofInt_neg, pL_I, q_mx, q_mn, q_ab, q_abL, q_mnL, q_nn0, q_nn1, q_rr, q_b1, q_b0, q_T, q_F, q_iT, q_iF, q_d, q_in, q_wi, q_hC, q_hM, pT_i, pU_i, pS_i, pS_j, pS_0, Sum.elim_inl, Sum.elim_inr, if_pos, if_neg]
    rw [← hμ, l93]
    simp (disch := omega) only [a2, Tρ, t2, x2, i0, i1, Option.bind_some, qi, ql, qI_lt, qI_le, qI_eq, qI_L, qI_ix, qL_lt, qL_eq, q_nat, q_cs, ← Int32.ofInt_add, ← Int32.ofInt_sub, ← Int32.ofInt_mul, ← Int32.ofInt_neg, ← Int64.ofInt_add, ← Int64.ofInt_sub, ← Int64.ofInt_mul, ← Int64.ofInt_neg, pL_I, q_mx, q_mn, q_ab, q_abL, q_mnL, q_nn0, q_nn1, q_rr, q_b1, q_b0, q_T, q_F, q_iT, q_iF, q_d, q_in, q_wi, q_hC, q_hM, pT_i, pU_i, pS_i, pS_j, pS_0, Sum.elim_inl, Sum.elim_inr, if_pos, if_neg]
    rw [← h5]
    simp (disch := omega) only [Tin, u2, x2', i1, Option.bind_some, qi, ql, qI_lt, qI_le, qI_eq, qI_L, qI_ix, qL_lt, qL_eq, q_nat, q_cs, ← Int32.ofInt_add, ← Int32.ofInt_sub, ← Int32.ofInt_mul, ← Int32.ofInt_neg, ← Int64.ofInt_add, ← Int64.ofInt_sub, ← Int64.ofInt_mul, ← Int64.ofInt_neg, pL_I, q_mx, q_mn, q_ab, q_abL, q_mnL, q_nn0, q_nn1, q_rr, q_b1, q_b0, q_T, q_F, q_iT, q_iF, q_d, q_in, q_wi, q_hC, q_hM, pT_i, pU_i, pS_i, pS_j, pS_0, Sum.elim_inl, Sum.elim_inr, if_pos, if_neg]
    rw [← h10]
    rfl
  have zf : zW R 10 R 0 = false := by
    unfold zW
    simp
    decide
  have yf : zV c 1326 0 c = false := by
    unfold zV
    simp
    rfl
  rcases mt_settings (b := b) (R := R) hc (n + 1) τ8 τ10 s9 p9 e9 _ 0 0 (by omega) y8 y9 W10 (by omega) (by omega) with ⟨φ1, φ2, s', p', e', w', d1, d2, d3, d4, d5, d6, d7, d8⟩ | ⟨φ1, φ2, d1, d2, d3, d7, d8⟩
  · left
    refine ⟨ρ1, κ, τ8, φ1, φ2, s', p', e', w', a1, a5, c1, turns, d1, r66.trans d2, d3, d4, by omega, d6, ?_, ?_, Zτ8.tr (d7.mo (fun _ _ _ => zX_t)), Yτ10.tr (d8.mo (fun _ _ _ => zY_t))⟩
    · rw [(d7 10 R 0 zf).2.1]
      exact N8
    · rw [(d8 1326 0 c yf).2.1]
      exact N10
  · right
    exact ⟨ρ1, κ, φ1, φ2, a1, a5, c1, Or.inr ⟨τ8, turns, d1⟩, r66.trans d2, d3, Zτ8.tr (d7.mo (fun _ _ _ => zX_t)), Yτ10.tr (d8.mo (fun _ _ _ => zY_t))⟩
