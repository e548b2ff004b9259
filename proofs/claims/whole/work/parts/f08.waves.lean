/-! ===== MACHINE: a TRAIN ===== -/
theorem bd_q {σ τ : am_H} {k : Int} {p : Nat} {l : List (Nat × Nat)} (h : bd σ k p) (q : qf l σ τ) (hd : qf_dj l [(12, 12), (12, 13)] = true) : bd τ k p := by
  have g := q.a hd
  exact ⟨h.1, (g.i (k := 12) (j := 12) rfl 0).trans h.2.1, (g.i (k := 12) (j := 13) rfl 0).trans h.2.2⟩
theorem mt_train {σ1 σ2 : am_H} {n : Nat} {b : Nat → Int} {s p e R c : Nat} {w : Nat → Int} (hc : c < 6) (h : tk σ1 σ2 n b s p e) (g : gd σ2) (W : wv σ1 σ2 R c w) : (∃ (τ1 τ2 : am_H) (s' p' e' : Nat) (w' : Nat → Int), f_X3_readsTrain R σ1 = some (true, τ1) ∧ f_X12_readTrain (Int32.ofInt (c : Int)) σ2 = some τ2 ∧ tk τ1 τ2 n b s' p' e' ∧ gd τ2 ∧ p < p' ∧ wv τ1 τ2 R c w' ∧ qz (zW R) σ1 τ1 ∧ qz (zV c) σ2 τ2) ∨ (∃ τ1 τ2 : am_H, f_X3_readsTrain R σ1 = some (false, τ1) ∧ f_X12_readTrain (Int32.ofInt (c : Int)) σ2 = some τ2 ∧ oN (zW R) (zV c) σ1 σ2 τ1 τ2) := by
  obtain ⟨Cw, Mw, ok, tr⟩ := W
  have g' : σ2.1 12 0 12 = Int32.ofInt 0 := g
  have i4 : (54 * 2 + 9 * (c : Int) + 4).toNat = 108 + 9 * c + 4 := by omega
  have i5 : (54 * 2 + 9 * (c : Int) + 5).toNat = 108 + 9 * c + 5 := by omega
  have i6 : (54 * 2 + 9 * (c : Int) + 6).toNat = 108 + 9 * c + 6 := by omega
  have i7 : (54 * 2 + 9 * (c : Int) + 7).toNat = 108 + 9 * c + 7 := by omega
  have i8 : (54 * 2 + 9 * (c : Int) + 8).toNat = 108 + 9 * c + 8 := by omega
  -- the reference says one couple first
  have Qa : qf [(1324, 999)] σ2 (am_wI σ2 1324 0 (108 + 9 * c + 4) (Int32.ofInt 1)) := qf.rf.wI rfl
  have Za : qz (zV c) σ2 (am_wI σ2 1324 0 (108 + 9 * c + 4) (Int32.ofInt 1)) := qz.rf.wI (zV_w (by omega))
  have ha := h.q (qf.rf (l := [])) (by decide +kernel) Qa (by decide +kernel)
  have ga : gd (am_wI σ2 1324 0 (108 + 9 * c + 4) (Int32.ofInt 1)) := g
  have Ma := Mw.w (k := 4) (v := 1) (by omega)
  rcases mt_tooth (k := 0) (R := R) (c := c) ha ga (by omega) Cw.d Ma with ⟨v0, τ1, τ2, s1, p1, e1, vb0, s2, t0, r0, h1, g1, pp1, D1, M1, Z1, Y1⟩ | ⟨q, qb, t0, r0⟩
  rotate_left
  · right
    have t0' : f_X3_readsTrain_22 R (Int32.ofInt 0) σ1 = some (.inr (.inr (.inl (FC σ1 q p)))) := t0
    have lp : am_loop (fun t : Int32 × am_H => f_X3_readsTrain_2 R t.1 t.2) (Int32.ofInt 0, σ1) = some (.inr (.inl (FC σ1 q p))) := am_loop_out (by simp (disch := omega) only [f_X3_readsTrain_2, t0', Option.bind_some, qi, ql, qI_lt, qI_le, qI_eq, qI_L, qI_ix, qL_lt, qL_eq, q_nat, q_cs, ← Int32.ofInt_add, ← Int32.ofInt_sub, ← Int32.ofInt_mul, ← Int32.ofInt_neg, ← Int64.ofInt_add, ← Int64.ofInt_sub, ← Int64.ofInt_mul, ← Int64.ofInt_neg, pL_I, q_mx, q_mn, q_ab, q_abL, q_mnL, q_nn0, q_nn1, q_rr, q_b1, q_b0, q_T, q_F, q_iT, q_iF, q_d, q_in, q_wi, q_hC, q_hM, pT_i, pU_i, pS_i, pS_j, pS_0, Sum.elim_inl, Sum.elim_inr, if_pos, if_neg])
    have B0 : bd (FM (am_wI σ2 1324 0 (108 + 9 * c + 4) (Int32.ofInt 1)) q p) q p := FM_b qb
    have B1 : bd (am_wI (FM (am_wI σ2 1324 0 (108 + 9 * c + 4) (Int32.ofInt 1)) q p) 1324 0 (108 + 9 * c + 5) (Int32.ofInt 0)) q p := B0
    have B2 : bd (am_wI (am_wI (FM (am_wI σ2 1324 0 (108 + 9 * c + 4) (Int32.ofInt 1)) q p) 1324 0 (108 + 9 * c + 5) (Int32.ofInt 0)) 1324 0 (108 + 9 * c + 6) (Int32.ofInt 0)) q p := B1
    have c1 := bd_count B1 (Int32.ofInt 5) (Int32.ofInt 200)
    have b12 := B2.2.1
    refine ⟨FC σ1 q p, am_wI (am_wI (FM (am_wI σ2 1324 0 (108 + 9 * c + 4) (Int32.ofInt 1)) q p) 1324 0 (108 + 9 * c + 5) (Int32.ofInt 0)) 1324 0 (108 + 9 * c + 6) (Int32.ofInt 0), ?_, ?_, ⟨q, p, FC_f, B2⟩, FC_q.z (fun _ _ _ => zW_t), ((Za.tr (FM_q.z (fun _ _ _ => zV_t))).wI (zV_w (by omega))).wI (zV_w (by omega))⟩
    · simp (disch := omega) only [f_X3_readsTrain, lp, Option.bind_some, qi, ql, qI_lt, qI_le, qI_eq, qI_L, qI_ix, qL_lt, qL_eq, q_nat, q_cs, ← Int32.ofInt_add, ← Int32.ofInt_sub, ← Int32.ofInt_mul, ← Int32.ofInt_neg, ← Int64.ofInt_add, ← Int64.ofInt_sub, ← Int64.ofInt_mul, ← Int64.ofInt_neg, pL_I, q_mx, q_mn, q_ab, q_abL, q_mnL, q_nn0, q_nn1, q_rr, q_b1, q_b0, q_T, q_F, q_iT, q_iF, q_d, q_in, q_wi, q_hC, q_hM, pT_i, pU_i, pS_i, pS_j, pS_0, Sum.elim_inl, Sum.elim_inr, if_pos, if_neg]
    · simp (disch := omega) only [f_X12_readTrain, f_X12_cell, i4, i5, i6, r0, c1, b12, Option.bind_some, qi, ql, qI_lt, qI_le, qI_eq, qI_L, qI_ix, qL_lt, qL_eq, q_nat, q_cs, ← Int32.ofInt_add, ← Int32.ofInt_sub, ← Int32.ofInt_mul, ← Int32.ofInt_neg, ← Int64.ofInt_add, ← Int64.ofInt_sub, ← Int64.ofInt_mul, ← Int64.ofInt_neg, pL_I, q_mx, q_mn, q_ab, q_abL, q_mnL, q_nn0, q_nn1, q_rr, q_b1, q_b0, q_T, q_F, q_iT, q_iF, q_d, q_in, q_wi, q_hC, q_hM, pT_i, pU_i, pS_i, pS_j, pS_0, Sum.elim_inl, Sum.elim_inr, if_pos, if_neg]
  have t0' : f_X3_readsTrain_22 R (Int32.ofInt 0) σ1 = some (.inl (Int32.ofInt 1, τ1)) := t0
  have x0 : f_X3_readsTrain_2 R (Int32.ofInt 0) σ1 = some (.inl (Int32.ofInt 1, τ1)) := by simp (disch := omega) only [f_X3_readsTrain_2, t0', Option.bind_some, qi, ql, qI_lt, qI_le, qI_eq, qI_L, qI_ix, qL_lt, qL_eq, q_nat, q_cs, ← Int32.ofInt_add, ← Int32.ofInt_sub, ← Int32.ofInt_mul, ← Int32.ofInt_neg, ← Int64.ofInt_add, ← Int64.ofInt_sub, ← Int64.ofInt_mul, ← Int64.ofInt_neg, pL_I, q_mx, q_mn, q_ab, q_abL, q_mnL, q_nn0, q_nn1, q_rr, q_b1, q_b0, q_T, q_F, q_iT, q_iF, q_d, q_in, q_wi, q_hC, q_hM, pT_i, pU_i, pS_i, pS_j, pS_0, Sum.elim_inl, Sum.elim_inr, if_pos, if_neg]
  have Z0 := Z1
  have Y0 := Za.tr Y1
  rcases mt_tooth (k := 1) (R := R) (c := c) h1 g1 (by omega) D1 M1 with ⟨v1, τ3, τ4, s3, p3, e3, vb1, s4, t1, r1, h3, g3, pp3, D3, M3, Z3, Y3⟩ | ⟨q, qb, t1, r1⟩
  rotate_left
  · right
    have t1' : f_X3_readsTrain_22 R (Int32.ofInt 1) τ1 = some (.inr (.inr (.inl (FC τ1 q p1)))) := t1
    have lp : am_loop (fun t : Int32 × am_H => f_X3_readsTrain_2 R t.1 t.2) (Int32.ofInt 0, σ1) = some (.inr (.inl (FC τ1 q p1))) := (am_loop_in (s' := (Int32.ofInt 1, τ1)) x0).trans (am_loop_out (by simp (disch := omega) only [f_X3_readsTrain_2, t1', Option.bind_some, qi, ql, qI_lt, qI_le, qI_eq, qI_L, qI_ix, qL_lt, qL_eq, q_nat, q_cs, ← Int32.ofInt_add, ← Int32.ofInt_sub, ← Int32.ofInt_mul, ← Int32.ofInt_neg, ← Int64.ofInt_add, ← Int64.ofInt_sub, ← Int64.ofInt_mul, ← Int64.ofInt_neg, pL_I, q_mx, q_mn, q_ab, q_abL, q_mnL, q_nn0, q_nn1, q_rr, q_b1, q_b0, q_T, q_F, q_iT, q_iF, q_d, q_in, q_wi, q_hC, q_hM, pT_i, pU_i, pS_i, pS_j, pS_0, Sum.elim_inl, Sum.elim_inr, if_pos, if_neg]))
    have B2 : bd (am_wI (FM (am_wI τ2 1324 0 (108 + 9 * c + (5 + 0)) (Int32.ofInt v0)) q p1) 1324 0 (108 + 9 * c + 6) (Int32.ofInt 0)) q p1 := ⟨qb, rfl, rfl⟩
    have b12 := B2.2.1
    refine ⟨FC τ1 q p1, am_wI (FM (am_wI τ2 1324 0 (108 + 9 * c + (5 + 0)) (Int32.ofInt v0)) q p1) 1324 0 (108 + 9 * c + 6) (Int32.ofInt 0), ?_, ?_, ⟨q, p1, FC_f, B2⟩, Z0.tr (FC_q.z (fun _ _ _ => zW_t)), (Y0.tr (FM_q.z (fun _ _ _ => zV_t))).wI (zV_w (by omega))⟩
    · simp (disch := omega) only [f_X3_readsTrain, lp, Option.bind_some, qi, ql, qI_lt, qI_le, qI_eq, qI_L, qI_ix, qL_lt, qL_eq, q_nat, q_cs, ← Int32.ofInt_add, ← Int32.ofInt_sub, ← Int32.ofInt_mul, ← Int32.ofInt_neg, ← Int64.ofInt_add, ← Int64.ofInt_sub, ← Int64.ofInt_mul, ← Int64.ofInt_neg, pL_I, q_mx, q_mn, q_ab, q_abL, q_mnL, q_nn0, q_nn1, q_rr, q_b1, q_b0, q_T, q_F, q_iT, q_iF, q_d, q_in, q_wi, q_hC, q_hM, pT_i, pU_i, pS_i, pS_j, pS_0, Sum.elim_inl, Sum.elim_inr, if_pos, if_neg]
    · have r1' : f_X12_count (Int32.ofInt 5) (Int32.ofInt 200) (am_wI τ2 1324 0 (108 + 9 * c + 5) (Int32.ofInt v0)) = some (Int32.ofInt 0, FM (am_wI τ2 1324 0 (108 + 9 * c + (5 + 0)) (Int32.ofInt v0)) q p1) := r1
      simp (disch := omega) only [f_X12_readTrain, f_X12_cell, i4, i5, i6, r0, r1', b12, Option.bind_some, qi, ql, qI_lt, qI_le, qI_eq, qI_L, qI_ix, qL_lt, qL_eq, q_nat, q_cs, ← Int32.ofInt_add, ← Int32.ofInt_sub, ← Int32.ofInt_mul, ← Int32.ofInt_neg, ← Int64.ofInt_add, ← Int64.ofInt_sub, ← Int64.ofInt_mul, ← Int64.ofInt_neg, pL_I, q_mx, q_mn, q_ab, q_abL, q_mnL, q_nn0, q_nn1, q_rr, q_b1, q_b0, q_T, q_F, q_iT, q_iF, q_d, q_in, q_wi, q_hC, q_hM, pT_i, pU_i, pS_i, pS_j, pS_0, Sum.elim_inl, Sum.elim_inr, if_pos, if_neg]
  have t1' : f_X3_readsTrain_22 R (Int32.ofInt 1) τ1 = some (.inl (Int32.ofInt 2, τ3)) := t1
  have x1 : f_X3_readsTrain_2 R (Int32.ofInt 1) τ1 = some (.inl (Int32.ofInt 2, τ3)) := by simp (disch := omega) only [f_X3_readsTrain_2, t1', Option.bind_some, qi, ql, qI_lt, qI_le, qI_eq, qI_L, qI_ix, qL_lt, qL_eq, q_nat, q_cs, ← Int32.ofInt_add, ← Int32.ofInt_sub, ← Int32.ofInt_mul, ← Int32.ofInt_neg, ← Int64.ofInt_add, ← Int64.ofInt_sub, ← Int64.ofInt_mul, ← Int64.ofInt_neg, pL_I, q_mx, q_mn, q_ab, q_abL, q_mnL, q_nn0, q_nn1, q_rr, q_b1, q_b0, q_T, q_F, q_iT, q_iF, q_d, q_in, q_wi, q_hC, q_hM, pT_i, pU_i, pS_i, pS_j, pS_0, Sum.elim_inl, Sum.elim_inr, if_pos, if_neg]
  have r1' : f_X12_count (Int32.ofInt 5) (Int32.ofInt 200) (am_wI τ2 1324 0 (108 + 9 * c + 5) (Int32.ofInt v0)) = some (Int32.ofInt v1, τ4) := r1
  generalize hρ : am_wI τ4 1324 0 (108 + 9 * c + (5 + 1)) (Int32.ofInt v1) = ρ at h3 g3 M3 Y3
  have hρ' : am_wI τ4 1324 0 (108 + 9 * c + 6) (Int32.ofInt v1) = ρ := hρ
  have Z13 := Z0.tr Z3
  have Y13 := Y0.tr Y3
  have k3 := h3.2.2.1.1
  have m14 := h3.2.2.2.1.1
  have g3' : ρ.1 12 0 12 = Int32.ofInt 0 := g3
  have s5b := h3.2.2.2.2.2.1
  obtain ⟨ok0, ok1, ok2, ok3, ok4, ok5, ok6, ok7, ok8⟩ := id ok
  by_cases c2 : s3 = 2
  rotate_left
  · left
    have okw : pw_ok (up (up (up w 4 1) 5 v0) 6 v1) := ⟨ok0, ok1, ok2, ok3, by show 0 ≤ (1 : Int) ∧ (1 : Int) ≤ 2; omega, by show 1 ≤ v0 ∧ v0 ≤ 200; omega, by show 1 ≤ v1 ∧ v1 ≤ 200; omega, ok7, ok8⟩
    have trw : pw_tr (up (up (up w 4 1) 5 v0) 6 v1) := fun k hk => by
      have hk : (k : Int) < 2 * 1 := hk
      rcases (by omega : k = 0 ∨ k = 1) with z | z
      · subst z
        show 5 ≤ v0
        omega
      · subst z
        show 5 ≤ v1
        omega
    obtain ⟨κ, u1, u2, u3, u4⟩ := mt_mul (D3.c (w' := up (up (up w 4 1) 5 v0) 6 v1) (fun k hk => by
      rcases (by omega : k = 0 ∨ k = 1 ∨ k = 2 ∨ k = 3 ∨ k = 4 ∨ k = 5 ∨ k = 6 ∨ k = 7 ∨ k = 8) with z | z | z | z | z | z | z | z | z <;> subst z <;> rfl)) okw
    have nn : f_X5_isNumber τ3 = some false := by simp (disch := omega) only [f_X5_isNumber, k3, Option.bind_some, qi, ql, qI_lt, qI_le, qI_eq, qI_L, qI_ix, qL_lt, qL_eq, q_nat, q_cs, ← Int32.ofInt_add, ← Int32.ofInt_sub, ← Int32.ofInt_mul, ← Int32.ofInt_neg, ← Int64.ofInt_add, ← Int64.ofInt_sub, ← Int64.ofInt_mul, ← Int64.ofInt_neg, pL_I, q_mx, q_mn, q_ab, q_abL, q_mnL, q_nn0, q_nn1, q_rr, q_b1, q_b0, q_T, q_F, q_iT, q_iF, q_d, q_in, q_wi, q_hC, q_hM, pT_i, pU_i, pS_i, pS_j, pS_0, Sum.elim_inl, Sum.elim_inr, if_pos, if_neg]
    have lp : am_loop (fun t : Int32 × am_H => f_X3_readsTrain_2 R t.1 t.2) (Int32.ofInt 0, σ1) = some (.inl τ3) := (am_loop_in (s' := (Int32.ofInt 1, τ1)) x0).trans ((am_loop_in (s' := (Int32.ofInt 2, τ3)) x1).trans (am_loop_out (by simp (disch := omega) only [f_X3_readsTrain_2, nn, Option.bind_some, qi, ql, qI_lt, qI_le, qI_eq, qI_L, qI_ix, qL_lt, qL_eq, q_nat, q_cs, ← Int32.ofInt_add, ← Int32.ofInt_sub, ← Int32.ofInt_mul, ← Int32.ofInt_neg, ← Int64.ofInt_add, ← Int64.ofInt_sub, ← Int64.ofInt_mul, ← Int64.ofInt_neg, pL_I, q_mx, q_mn, q_ab, q_abL, q_mnL, q_nn0, q_nn1, q_rr, q_b1, q_b0, q_T, q_F, q_iT, q_iF, q_d, q_in, q_wi, q_hC, q_hM, pT_i, pU_i, pS_i, pS_j, pS_0, Sum.elim_inl, Sum.elim_inr, if_pos, if_neg])))
    refine ⟨κ, ρ, s3, p3, e3, _, ?_, ?_, h3.q u2 (by decide +kernel) (qf.rf (l := [])) (by decide +kernel), g3, by omega, ⟨u4, M3, okw, trw⟩, Z13.tr u3, Y13⟩
    · simp (disch := omega) only [f_X3_readsTrain, f_X3_readsTrain_64, lp, u1, Option.bind_some, qi, ql, qI_lt, qI_le, qI_eq, qI_L, qI_ix, qL_lt, qL_eq, q_nat, q_cs, ← Int32.ofInt_add, ← Int32.ofInt_sub, ← Int32.ofInt_mul, ← Int32.ofInt_neg, ← Int64.ofInt_add, ← Int64.ofInt_sub, ← Int64.ofInt_mul, ← Int64.ofInt_neg, pL_I, q_mx, q_mn, q_ab, q_abL, q_mnL, q_nn0, q_nn1, q_rr, q_b1, q_b0, q_T, q_F, q_iT, q_iF, q_d, q_in, q_wi, q_hC, q_hM, pT_i, pU_i, pS_i, pS_j, pS_0, Sum.elim_inl, Sum.elim_inr, if_pos, if_neg]
    · simp (disch := omega) only [f_X12_readTrain, f_X12_cell, i4, i5, i6, r0, r1', hρ', g3', m14, Option.bind_some, qi, ql, qI_lt, qI_le, qI_eq, qI_L, qI_ix, qL_lt, qL_eq, q_nat, q_cs, ← Int32.ofInt_add, ← Int32.ofInt_sub, ← Int32.ofInt_mul, ← Int32.ofInt_neg, ← Int64.ofInt_add, ← Int64.ofInt_sub, ← Int64.ofInt_mul, ← Int64.ofInt_neg, pL_I, q_mx, q_mn, q_ab, q_abL, q_mnL, q_nn0, q_nn1, q_rr, q_b1, q_b0, q_T, q_F, q_iT, q_iF, q_d, q_in, q_wi, q_hC, q_hM, pT_i, pU_i, pS_i, pS_j, pS_0, Sum.elim_inl, Sum.elim_inr, if_pos, if_neg]
  -- four wheels
  have nn : f_X5_isNumber τ3 = some true := by simp (disch := omega) only [f_X5_isNumber, k3, Option.bind_some, qi, ql, qI_lt, qI_le, qI_eq, qI_L, qI_ix, qL_lt, qL_eq, q_nat, q_cs, ← Int32.ofInt_add, ← Int32.ofInt_sub, ← Int32.ofInt_mul, ← Int32.ofInt_neg, ← Int64.ofInt_add, ← Int64.ofInt_sub, ← Int64.ofInt_mul, ← Int64.ofInt_neg, pL_I, q_mx, q_mn, q_ab, q_abL, q_mnL, q_nn0, q_nn1, q_rr, q_b1, q_b0, q_T, q_F, q_iT, q_iF, q_d, q_in, q_wi, q_hC, q_hM, pT_i, pU_i, pS_i, pS_j, pS_0, Sum.elim_inl, Sum.elim_inr, if_pos, if_neg]
  have Qb : qf [(1324, 999)] ρ (am_wI ρ 1324 0 (108 + 9 * c + 4) (Int32.ofInt 2)) := qf.rf.wI rfl
  have Zb : qz (zV c) ρ (am_wI ρ 1324 0 (108 + 9 * c + 4) (Int32.ofInt 2)) := qz.rf.wI (zV_w (by omega))
  have hb := h3.q (qf.rf (l := [])) (by decide +kernel) Qb (by decide +kernel)
  have gb : gd (am_wI ρ 1324 0 (108 + 9 * c + 4) (Int32.ofInt 2)) := g3
  have Mb := M3.w (k := 4) (v := 2) (by omega)
  rcases mt_tooth (k := 2) (R := R) (c := c) hb gb (by omega) D3 Mb with ⟨v2, τ5, τ6, s5, p5, e5, vb2, s6, t2, r2, h5, g5, pp5, D5, M5, Z5, Y5⟩ | ⟨q, qb, t2, r2⟩
  rotate_left
  · right
    have t2' : f_X3_readsTrain_22 R (Int32.ofInt 2) τ3 = some (.inr (.inr (.inl (FC τ3 q p3)))) := t2
    have lp : am_loop (fun t : Int32 × am_H => f_X3_readsTrain_2 R t.1 t.2) (Int32.ofInt 0, σ1) = some (.inr (.inl (FC τ3 q p3))) := (am_loop_in (s' := (Int32.ofInt 1, τ1)) x0).trans ((am_loop_in (s' := (Int32.ofInt 2, τ3)) x1).trans (am_loop_out (by simp (disch := omega) only [f_X3_readsTrain_2, nn, t2', Option.bind_some, qi, ql, qI_lt, qI_le, qI_eq, qI_L, qI_ix, qL_lt, qL_eq, q_nat, q_cs, ← Int32.ofInt_add, ← Int32.ofInt_sub, ← Int32.ofInt_mul, ← Int32.ofInt_neg, ← Int64.ofInt_add, ← Int64.ofInt_sub, ← Int64.ofInt_mul, ← Int64.ofInt_neg, pL_I, q_mx, q_mn, q_ab, q_abL, q_mnL, q_nn0, q_nn1, q_rr, q_b1, q_b0, q_T, q_F, q_iT, q_iF, q_d, q_in, q_wi, q_hC, q_hM, pT_i, pU_i, pS_i, pS_j, pS_0, Sum.elim_inl, Sum.elim_inr, if_pos, if_neg])))
    have B1 : bd (am_wI (FM (am_wI ρ 1324 0 (108 + 9 * c + 4) (Int32.ofInt 2)) q p3) 1324 0 (108 + 9 * c + 7) (Int32.ofInt 0)) q p3 := ⟨qb, rfl, rfl⟩
    have c1 := bd_count B1 (Int32.ofInt 5) (Int32.ofInt 200)
    refine ⟨FC τ3 q p3, am_wI (am_wI (FM (am_wI ρ 1324 0 (108 + 9 * c + 4) (Int32.ofInt 2)) q p3) 1324 0 (108 + 9 * c + 7) (Int32.ofInt 0)) 1324 0 (108 + 9 * c + 8) (Int32.ofInt 0), ?_, ?_, ⟨q, p3, FC_f, B1⟩, Z13.tr (FC_q.z (fun _ _ _ => zW_t)), ((Y13.tr (Zb.tr (FM_q.z (fun _ _ _ => zV_t)))).wI (zV_w (by omega))).wI (zV_w (by omega))⟩
    · simp (disch := omega) only [f_X3_readsTrain, lp, Option.bind_some, qi, ql, qI_lt, qI_le, qI_eq, qI_L, qI_ix, qL_lt, qL_eq, q_nat, q_cs, ← Int32.ofInt_add, ← Int32.ofInt_sub, ← Int32.ofInt_mul, ← Int32.ofInt_neg, ← Int64.ofInt_add, ← Int64.ofInt_sub, ← Int64.ofInt_mul, ← Int64.ofInt_neg, pL_I, q_mx, q_mn, q_ab, q_abL, q_mnL, q_nn0, q_nn1, q_rr, q_b1, q_b0, q_T, q_F, q_iT, q_iF, q_d, q_in, q_wi, q_hC, q_hM, pT_i, pU_i, pS_i, pS_j, pS_0, Sum.elim_inl, Sum.elim_inr, if_pos, if_neg]
    · simp (disch := omega) only [f_X12_readTrain, f_X12_cell, i4, i5, i6, i7, i8, r0, r1', hρ', g3', m14, r2, c1, Option.bind_some, qi, ql, qI_lt, qI_le, qI_eq, qI_L, qI_ix, qL_lt, qL_eq, q_nat, q_cs, ← Int32.ofInt_add, ← Int32.ofInt_sub, ← Int32.ofInt_mul, ← Int32.ofInt_neg, ← Int64.ofInt_add, ← Int64.ofInt_sub, ← Int64.ofInt_mul, ← Int64.ofInt_neg, pL_I, q_mx, q_mn, q_ab, q_abL, q_mnL, q_nn0, q_nn1, q_rr, q_b1, q_b0, q_T, q_F, q_iT, q_iF, q_d, q_in, q_wi, q_hC, q_hM, pT_i, pU_i, pS_i, pS_j, pS_0, Sum.elim_inl, Sum.elim_inr, if_pos, if_neg]
  have t2' : f_X3_readsTrain_22 R (Int32.ofInt 2) τ3 = some (.inl (Int32.ofInt 3, τ5)) := t2
  have x2 : f_X3_readsTrain_2 R (Int32.ofInt 2) τ3 = some (.inl (Int32.ofInt 3, τ5)) := by simp (disch := omega) only [f_X3_readsTrain_2, nn, t2', Option.bind_some, qi, ql, qI_lt, qI_le, qI_eq, qI_L, qI_ix, qL_lt, qL_eq, q_nat, q_cs, ← Int32.ofInt_add, ← Int32.ofInt_sub, ← Int32.ofInt_mul, ← Int32.ofInt_neg, ← Int64.ofInt_add, ← Int64.ofInt_sub, ← Int64.ofInt_mul, ← Int64.ofInt_neg, pL_I, q_mx, q_mn, q_ab, q_abL, q_mnL, q_nn0, q_nn1, q_rr, q_b1, q_b0, q_T, q_F, q_iT, q_iF, q_d, q_in, q_wi, q_hC, q_hM, pT_i, pU_i, pS_i, pS_j, pS_0, Sum.elim_inl, Sum.elim_inr, if_pos, if_neg]
  have Z15 := Z13.tr Z5
  have Y15 := (Y13.tr Zb).tr Y5
  rcases mt_tooth (k := 3) (R := R) (c := c) h5 g5 (by omega) D5 M5 with ⟨v3, τ7, τ8, s7, p7, e7, vb3, s8, t3, r3, h7, g7, pp7, D7, M7, Z7, Y7⟩ | ⟨q, qb, t3, r3⟩
  rotate_left
  · right
    have t3' : f_X3_readsTrain_22 R (Int32.ofInt 3) τ5 = some (.inr (.inr (.inl (FC τ5 q p5)))) := t3
    have lp : am_loop (fun t : Int32 × am_H => f_X3_readsTrain_2 R t.1 t.2) (Int32.ofInt 0, σ1) = some (.inr (.inl (FC τ5 q p5))) := (am_loop_in (s' := (Int32.ofInt 1, τ1)) x0).trans ((am_loop_in (s' := (Int32.ofInt 2, τ3)) x1).trans ((am_loop_in (s' := (Int32.ofInt 3, τ5)) x2).trans (am_loop_out (by simp (disch := omega) only [f_X3_readsTrain_2, t3', Option.bind_some, qi, ql, qI_lt, qI_le, qI_eq, qI_L, qI_ix, qL_lt, qL_eq, q_nat, q_cs, ← Int32.ofInt_add, ← Int32.ofInt_sub, ← Int32.ofInt_mul, ← Int32.ofInt_neg, ← Int64.ofInt_add, ← Int64.ofInt_sub, ← Int64.ofInt_mul, ← Int64.ofInt_neg, pL_I, q_mx, q_mn, q_ab, q_abL, q_mnL, q_nn0, q_nn1, q_rr, q_b1, q_b0, q_T, q_F, q_iT, q_iF, q_d, q_in, q_wi, q_hC, q_hM, pT_i, pU_i, pS_i, pS_j, pS_0, Sum.elim_inl, Sum.elim_inr, if_pos, if_neg]))))
    have r3' : f_X12_count (Int32.ofInt 5) (Int32.ofInt 200) (am_wI τ6 1324 0 (108 + 9 * c + 7) (Int32.ofInt v2)) = some (Int32.ofInt 0, FM (am_wI τ6 1324 0 (108 + 9 * c + (5 + 2)) (Int32.ofInt v2)) q p5) := r3
    have B1 : bd (am_wI (FM (am_wI τ6 1324 0 (108 + 9 * c + (5 + 2)) (Int32.ofInt v2)) q p5) 1324 0 (108 + 9 * c + 8) (Int32.ofInt 0)) q p5 := ⟨qb, rfl, rfl⟩
    refine ⟨FC τ5 q p5, am_wI (FM (am_wI τ6 1324 0 (108 + 9 * c + (5 + 2)) (Int32.ofInt v2)) q p5) 1324 0 (108 + 9 * c + 8) (Int32.ofInt 0), ?_, ?_, ⟨q, p5, FC_f, B1⟩, Z15.tr (FC_q.z (fun _ _ _ => zW_t)), (Y15.tr (FM_q.z (fun _ _ _ => zV_t))).wI (zV_w (by omega))⟩
    · simp (disch := omega) only [f_X3_readsTrain, lp, Option.bind_some, qi, ql, qI_lt, qI_le, qI_eq, qI_L, qI_ix, qL_lt, qL_eq, q_nat, q_cs, ← Int32.ofInt_add, ← Int32.ofInt_sub, ← Int32.ofInt_mul, ← Int32.ofInt_neg, ← Int64.ofInt_add, ← Int64.ofInt_sub, ← Int64.ofInt_mul, ← Int64.ofInt_neg, pL_I, q_mx, q_mn, q_ab, q_abL, q_mnL, q_nn0, q_nn1, q_rr, q_b1, q_b0, q_T, q_F, q_iT, q_iF, q_d, q_in, q_wi, q_hC, q_hM, pT_i, pU_i, pS_i, pS_j, pS_0, Sum.elim_inl, Sum.elim_inr, if_pos, if_neg]
    · simp (disch := omega) only [f_X12_readTrain, f_X12_cell, i4, i5, i6, i7, i8, r0, r1', hρ', g3', m14, r2, r3', Option.bind_some, qi, ql, qI_lt, qI_le, qI_eq, qI_L, qI_ix, qL_lt, qL_eq, q_nat, q_cs, ← Int32.ofInt_add, ← Int32.ofInt_sub, ← Int32.ofInt_mul, ← Int32.ofInt_neg, ← Int64.ofInt_add, ← Int64.ofInt_sub, ← Int64.ofInt_mul, ← Int64.ofInt_neg, pL_I, q_mx, q_mn, q_ab, q_abL, q_mnL, q_nn0, q_nn1, q_rr, q_b1, q_b0, q_T, q_F, q_iT, q_iF, q_d, q_in, q_wi, q_hC, q_hM, pT_i, pU_i, pS_i, pS_j, pS_0, Sum.elim_inl, Sum.elim_inr, if_pos, if_neg]
  left
  have t3' : f_X3_readsTrain_22 R (Int32.ofInt 3) τ5 = some (.inl (Int32.ofInt 4, τ7)) := t3
  have x3 : f_X3_readsTrain_2 R (Int32.ofInt 3) τ5 = some (.inl (Int32.ofInt 4, τ7)) := by simp (disch := omega) only [f_X3_readsTrain_2, t3', Option.bind_some, qi, ql, qI_lt, qI_le, qI_eq, qI_L, qI_ix, qL_lt, qL_eq, q_nat, q_cs, ← Int32.ofInt_add, ← Int32.ofInt_sub, ← Int32.ofInt_mul, ← Int32.ofInt_neg, ← Int64.ofInt_add, ← Int64.ofInt_sub, ← Int64.ofInt_mul, ← Int64.ofInt_neg, pL_I, q_mx, q_mn, q_ab, q_abL, q_mnL, q_nn0, q_nn1, q_rr, q_b1, q_b0, q_T, q_F, q_iT, q_iF, q_d, q_in, q_wi, q_hC, q_hM, pT_i, pU_i, pS_i, pS_j, pS_0, Sum.elim_inl, Sum.elim_inr, if_pos, if_neg]
  have r3' : f_X12_count (Int32.ofInt 5) (Int32.ofInt 200) (am_wI τ6 1324 0 (108 + 9 * c + 7) (Int32.ofInt v2)) = some (Int32.ofInt v3, τ8) := r3
  have lp : am_loop (fun t : Int32 × am_H => f_X3_readsTrain_2 R t.1 t.2) (Int32.ofInt 0, σ1) = some (.inr (.inr τ7)) := (am_loop_in (s' := (Int32.ofInt 1, τ1)) x0).trans ((am_loop_in (s' := (Int32.ofInt 2, τ3)) x1).trans ((am_loop_in (s' := (Int32.ofInt 3, τ5)) x2).trans ((am_loop_in (s' := (Int32.ofInt 4, τ7)) x3).trans (am_loop_out (by simp (disch := omega) only [f_X3_readsTrain_2, Option.bind_some, qi, ql, qI_lt, qI_le, qI_eq, qI_L, qI_ix, qL_lt, qL_eq, q_nat, q_cs, ← Int32.ofInt_add, ← Int32.ofInt_sub, ← Int32.ofInt_mul, ← Int32.ofInt_neg, ← Int64.ofInt_add, ← Int64.ofInt_sub, ← Int64.ofInt_mul, ← Int64.ofInt_neg, pL_I, q_mx, q_mn, q_ab, q_abL, q_mnL, q_nn0, q_nn1, q_rr, q_b1, q_b0, q_T, q_F, q_iT, q_iF, q_d, q_in, q_wi, q_hC, q_hM, pT_i, pU_i, pS_i, pS_j, pS_0, Sum.elim_inl, Sum.elim_inr, if_pos, if_neg])))))
  have okw : pw_ok (up (up (up (up (up (up w 4 1) 5 v0) 6 v1) 4 2) 7 v2) 8 v3) := ⟨ok0, ok1, ok2, ok3, by show 0 ≤ (2 : Int) ∧ (2 : Int) ≤ 2; omega, by show 1 ≤ v0 ∧ v0 ≤ 200; omega, by show 1 ≤ v1 ∧ v1 ≤ 200; omega, by show 1 ≤ v2 ∧ v2 ≤ 200; omega, by show 1 ≤ v3 ∧ v3 ≤ 200; omega⟩
  have trw : pw_tr (up (up (up (up (up (up w 4 1) 5 v0) 6 v1) 4 2) 7 v2) 8 v3) := fun k hk => by
    have hk : (k : Int) < 2 * 2 := hk
    rcases (by omega : k = 0 ∨ k = 1 ∨ k = 2 ∨ k = 3) with z | z | z | z
    · subst z
      show 5 ≤ v0
      omega
    · subst z
      show 5 ≤ v1
      omega
    · subst z
      show 5 ≤ v2
      omega
    · subst z
      show 5 ≤ v3
      omega
  obtain ⟨κ, u1, u2, u3, u4⟩ := mt_mul (D7.c (w' := up (up (up (up (up (up w 4 1) 5 v0) 6 v1) 4 2) 7 v2) 8 v3) (fun k hk => by
    rcases (by omega : k = 0 ∨ k = 1 ∨ k = 2 ∨ k = 3 ∨ k = 4 ∨ k = 5 ∨ k = 6 ∨ k = 7 ∨ k = 8) with z | z | z | z | z | z | z | z | z <;> subst z <;> rfl)) okw
  refine ⟨κ, am_wI τ8 1324 0 (108 + 9 * c + (5 + 3)) (Int32.ofInt v3), s7, p7, e7, _, ?_, ?_, h7.q u2 (by decide +kernel) (qf.rf (l := [])) (by decide +kernel), g7, by omega, ⟨u4, M7, okw, trw⟩, (Z15.tr Z7).tr u3, Y15.tr Y7⟩
  · simp (disch := omega) only [f_X3_readsTrain, f_X3_readsTrain_64, lp, u1, Option.bind_some, qi, ql, qI_lt, qI_le, qI_eq, qI_L, qI_ix, qL_lt, qL_eq, q_nat, q_cs, ← Int32.ofInt_add, ← Int32.ofInt_sub, ← Int32.ofInt_mul, ← Int32.ofInt_neg, ← Int64.ofInt_add, ← Int64.ofInt_sub, ← Int64.ofInt_mul, ← Int64.ofInt_neg, pL_I, q_mx, q_mn, q_ab, q_abL, q_mnL, q_nn0, q_nn1, q_rr, q_b1, q_b0, q_T, q_F, q_iT, q_iF, q_d, q_in, q_wi, q_hC, q_hM, pT_i, pU_i, pS_i, pS_j, pS_0, Sum.elim_inl, Sum.elim_inr, if_pos, if_neg]
  · simp (disch := omega) only [f_X12_readTrain, f_X12_cell, i4, i5, i6, i7, i8, r0, r1', hρ', g3', m14, r2, r3', Option.bind_some, qi, ql, qI_lt, qI_le, qI_eq, qI_L, qI_ix, qL_lt, qL_eq, q_nat, q_cs, ← Int32.ofInt_add, ← Int32.ofInt_sub, ← Int32.ofInt_mul, ← Int32.ofInt_neg, ← Int64.ofInt_add, ← Int64.ofInt_sub, ← Int64.ofInt_mul, ← Int64.ofInt_neg, pL_I, q_mx, q_mn, q_ab, q_abL, q_mnL, q_nn0, q_nn1, q_rr, q_b1, q_b0, q_T, q_F, q_iT, q_iF, q_d, q_in, q_wi, q_hC, q_hM, pT_i, pU_i, pS_i, pS_j, pS_0, Sum.elim_inl, Sum.elim_inr, if_pos, if_neg]
