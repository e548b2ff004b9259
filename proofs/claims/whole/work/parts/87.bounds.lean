/-! ===== BOUNDS, LANDING, RANGE, TABLE ===== -/
theorem q_cos {σ : am_H} {p : Int} (h1 : -9000000000000000000 ≤ p) (h2 : p ≤ 9000000000000000000) : f_X11_cosOf (Int64.ofInt p) σ = some (Int32.ofInt (pc_cos p)) := pc_cosOf ⟨by omega, by omega⟩
theorem pc_24 (p : Int) : pc_cos (p + 24) = pc_cos p := by
  unfold pc_cos
  rw [show (p + 24) % 24 = p % 24 by omega]
theorem pc_mod (p : Int) : pc_cos (p % 24) = pc_cos p := by
  unfold pc_cos
  rw [show p % 24 % 24 = p % 24 by omega]
theorem pb_cos {σ1 σ2 : am_H} {v1 v2 v5 v6 : Int32} {p e : Int} (g : Bool) (p0 : 0 ≤ p) (p1 : p ≤ 23) (e0 : 0 ≤ e) (e1 : e ≤ 5) : ∃ c : Int, (-12 ≤ c ∧ c ≤ 12) ∧ f_X3_extremeCos (Int32.ofInt p) (Int32.ofInt e) g σ1 = some (Int32.ofInt c) ∧ am_loop (fun s : Int32 × Int32 => f_X12_bound_46 v1 v2 (Int32.ofInt e) g v5 v6 (Int32.ofInt p) s.1 s.2 σ2) (Int32.ofInt (pc_cos p), Int32.ofInt (-e)) = some (Int32.ofInt c) := by
  have hp := pc_b p
  obtain ⟨r1, r2, k1, k2, c, e1', e2', cb⟩ := am_loop_2 (B1 := fun s : Int32 × Int32 => f_X3_extremeCos_10 (Int32.ofInt p) (Int32.ofInt e) g s.1 s.2 σ1) (B2 := fun s : Int32 × Int32 => f_X12_bound_46 v1 v2 (Int32.ofInt e) g v5 v6 (Int32.ofInt p) s.1 s.2 σ2) (fun n s1 s2 => ∃ f d : Int, s1 = (Int32.ofInt f, Int32.ofInt d) ∧ s2 = (Int32.ofInt f, Int32.ofInt d) ∧ (-12 ≤ f ∧ f ≤ 12) ∧ (-e ≤ d ∧ d ≤ e + 1) ∧ n = (e + 1 - d).toNat) (fun r1 r2 => ∃ c : Int, r1 = Int32.ofInt c ∧ r2 = Int32.ofInt c ∧ (-12 ≤ c ∧ c ≤ 12)) (by
    rintro n s1 s2 ⟨f, d, rfl, rfl, fb, db, rfl⟩
    by_cases ce : e < d
    · left
      refine ⟨Int32.ofInt f, Int32.ofInt f, ?_, ?_, f, rfl, rfl, fb⟩
      · simp (disch := omega) only [f_X3_extremeCos_10, Option.bind_some, qi, ql, qI_lt, qI_le, qI_eq, qI_L, qI_ix, qL_lt, qL_eq, q_nat, q_cs, ← Int32.ofInt_add, ← Int32.ofInt_sub, ← Int32.ofInt_mul, ← Int32.ofInt_neg, ← Int64.ofInt_add, ← Int64.ofInt_sub, ← Int64.ofInt_mul, ← Int64.ofInt_neg, pL_I, q_mx, q_mn, q_ab, q_abL, q_mnL, q_nn0, q_nn1, q_rr, q_b1, q_b0, q_T, q_F, q_iT, q_iF, q_d, q_in, q_wi, q_hC, q_hM, pT_i, pU_i, pS_i, pS_j, pS_0, Sum.elim_inl, Sum.elim_inr, if_pos, if_neg]
      · simp (disch := omega) only [f_X12_bound_46, Option.bind_some, qi, ql, qI_lt, qI_le, qI_eq, qI_L, qI_ix, qL_lt, qL_eq, q_nat, q_cs, ← Int32.ofInt_add, ← Int32.ofInt_sub, ← Int32.ofInt_mul, ← Int32.ofInt_neg, ← Int64.ofInt_add, ← Int64.ofInt_sub, ← Int64.ofInt_mul, ← Int64.ofInt_neg, pL_I, q_mx, q_mn, q_ab, q_abL, q_mnL, q_nn0, q_nn1, q_rr, q_b1, q_b0, q_T, q_F, q_iT, q_iF, q_d, q_in, q_wi, q_hC, q_hM, pT_i, pU_i, pS_i, pS_j, pS_0, Sum.elim_inl, Sum.elim_inr, if_pos, if_neg]
    · right
      have hc := pc_b (p + d)
      have em : (p + d + 24).tmod 24 = (p + d + 24) % 24 := Int.tmod_eq_emod_of_nonneg (by omega)
      have ec : f_X12_cosine (Int32.ofInt ((p + d + 24) % 24)) σ2 = some (Int32.ofInt (pc_cos (p + d))) := by
        rw [pm_cosine (by omega) (by omega), pc_mod, pc_24]
      cases g with
      | true =>
        refine ⟨(Int32.ofInt (max f (pc_cos (p + d))), Int32.ofInt (d + 1)), (Int32.ofInt (max f (pc_cos (p + d))), Int32.ofInt (d + 1)), (e + 1 - (d + 1)).toNat, ?_, ?_, by omega, _, _, rfl, rfl, by omega, by omega, rfl⟩
        · simp (disch := omega) only [f_X3_extremeCos_10, q_cos, Option.bind_some, qi, ql, qI_lt, qI_le, qI_eq, qI_L, qI_ix, qL_lt, qL_eq, q_nat, q_cs, ← Int32.ofInt_add, ← Int32.ofInt_sub, ← Int32.ofInt_mul, ← Int32.ofInt_neg, ← Int64.ofInt_add, ← Int64.ofInt_sub, ← Int64.ofInt_mul, ← Int64.ofInt_neg, pL_I, q_mx, q_mn, q_ab, q_abL, q_mnL, q_nn0, q_nn1, q_rr, q_b1, q_b0, q_T, q_F, q_iT, q_iF, q_d, q_in, q_wi, q_hC, q_hM, pT_i, pU_i, pS_i, pS_j, pS_0, Sum.elim_inl, Sum.elim_inr, if_pos, if_neg]
        · simp (disch := omega) only [f_X12_bound_46, qI_rem, em, ec, Option.bind_some, qi, ql, qI_lt, qI_le, qI_eq, qI_L, qI_ix, qL_lt, qL_eq, q_nat, q_cs, ← Int32.ofInt_add, ← Int32.ofInt_sub, ← Int32.ofInt_mul, ← Int32.ofInt_neg, ← Int64.ofInt_add, ← Int64.ofInt_sub, ← Int64.ofInt_mul, ← Int64.ofInt_neg, pL_I, q_mx, q_mn, q_ab, q_abL, q_mnL, q_nn0, q_nn1, q_rr, q_b1, q_b0, q_T, q_F, q_iT, q_iF, q_d, q_in, q_wi, q_hC, q_hM, pT_i, pU_i, pS_i, pS_j, pS_0, Sum.elim_inl, Sum.elim_inr, if_pos, if_neg]
      | false =>
        refine ⟨(Int32.ofInt (min f (pc_cos (p + d))), Int32.ofInt (d + 1)), (Int32.ofInt (min f (pc_cos (p + d))), Int32.ofInt (d + 1)), (e + 1 - (d + 1)).toNat, ?_, ?_, by omega, _, _, rfl, rfl, by omega, by omega, rfl⟩
        · simp (disch := omega) only [f_X3_extremeCos_10, q_cos, Option.bind_some, qi, ql, qI_lt, qI_le, qI_eq, qI_L, qI_ix, qL_lt, qL_eq, q_nat, q_cs, ← Int32.ofInt_add, ← Int32.ofInt_sub, ← Int32.ofInt_mul, ← Int32.ofInt_neg, ← Int64.ofInt_add, ← Int64.ofInt_sub, ← Int64.ofInt_mul, ← Int64.ofInt_neg, pL_I, q_mx, q_mn, q_ab, q_abL, q_mnL, q_nn0, q_nn1, q_rr, q_b1, q_b0, q_T, q_F, q_iT, q_iF, q_d, q_in, q_wi, q_hC, q_hM, pT_i, pU_i, pS_i, pS_j, pS_0, Sum.elim_inl, Sum.elim_inr, if_pos, if_neg]
        · simp (disch := omega) only [f_X12_bound_46, qI_rem, em, ec, Option.bind_some, qi, ql, qI_lt, qI_le, qI_eq, qI_L, qI_ix, qL_lt, qL_eq, q_nat, q_cs, ← Int32.ofInt_add, ← Int32.ofInt_sub, ← Int32.ofInt_mul, ← Int32.ofInt_neg, ← Int64.ofInt_add, ← Int64.ofInt_sub, ← Int64.ofInt_mul, ← Int64.ofInt_neg, pL_I, q_mx, q_mn, q_ab, q_abL, q_mnL, q_nn0, q_nn1, q_rr, q_b1, q_b0, q_T, q_F, q_iT, q_iF, q_d, q_in, q_wi, q_hC, q_hM, pT_i, pU_i, pS_i, pS_j, pS_0, Sum.elim_inl, Sum.elim_inr, if_pos, if_neg]) _ (Int32.ofInt (pc_cos p), Int32.ofInt (-e)) (Int32.ofInt (pc_cos p), Int32.ofInt (-e)) ⟨_, _, rfl, rfl, hp, by omega, rfl⟩
  subst e1' e2'
  refine ⟨c, cb, ?_, k2⟩
  simp (disch := omega) only [f_X3_extremeCos, q_cos, k1, Option.bind_some, qi, ql, qI_lt, qI_le, qI_eq, qI_L, qI_ix, qL_lt, qL_eq, q_nat, q_cs, ← Int32.ofInt_add, ← Int32.ofInt_sub, ← Int32.ofInt_mul, ← Int32.ofInt_neg, ← Int64.ofInt_add, ← Int64.ofInt_sub, ← Int64.ofInt_mul, ← Int64.ofInt_neg, pL_I, q_mx, q_mn, q_ab, q_abL, q_mnL, q_nn0, q_nn1, q_rr, q_b1, q_b0, q_T, q_F, q_iT, q_iF, q_d, q_in, q_wi, q_hC, q_hM, pT_i, pU_i, pS_i, pS_j, pS_0, Sum.elim_inl, Sum.elim_inr, if_pos, if_neg]
theorem pr_B {σ1 σ2 : am_H} {m a : Nat} (hm : m < 3) (M : pr_mach σ1 σ2 m a) (g : Bool) {h e : Int} (h0 : 0 ≤ h) (h1 : h ≤ 200000) (e0 : 0 ≤ e) (e1 : e ≤ 5) : ∃ r : Int, (-9000 ≤ r ∧ r ≤ 9000) ∧ f_X3_boundAt a (Int64.ofInt h) (Int32.ofInt e) g σ1 = some (Int32.ofInt r) ∧ f_X12_bound (Int32.ofInt m) (Int32.ofInt h) (Int32.ofInt e) g σ2 = some (Int32.ofInt r) := by
  obtain ⟨wc, ws, zr, sl, kc, kw, kt, C, ⟨d1, d2, d3, d4, d5⟩, -⟩ := M
  have hz := ph_zero C
  obtain ⟨c1, c2, c3, ⟨c4, c4'⟩, c5⟩ := C
  obtain ⟨r1, r2, k1, k2, c, e1', e2', cb⟩ := am_loop_2 (B1 := fun s : Int32 × Int32 => f_X3_boundAt_9 a (Int64.ofInt h) (Int32.ofInt e) g s.1 s.2 σ1) (B2 := fun s : Int32 × Int32 => f_X12_bound_14 (Int32.ofInt m) (Int32.ofInt h) (Int32.ofInt e) g s.1 s.2 σ2) (fun n s1 s2 => ∃ (v : Int) (i : Nat), s1 = (Int32.ofInt v, Int32.ofInt i) ∧ s2 = (Int32.ofInt v, Int32.ofInt i) ∧ (-(1188 * i) ≤ v ∧ v ≤ 1188 + 1188 * i) ∧ i ≤ wc ∧ n = wc - i) (fun r1 r2 => ∃ c : Int, r1 = Int32.ofInt c ∧ r2 = Int32.ofInt c ∧ (-9000 ≤ c ∧ c ≤ 9000)) (by
    rintro n s1 s2 ⟨v, i, rfl, rfl, vb, ib, rfl⟩
    by_cases ce : i < wc
    · right
      obtain ⟨ok, Cw⟩ := c5 i ce
      obtain ⟨-, Mw⟩ := d5 i ce
      have pl := pw_placeAt (b := false) ok Cw h0 h1
      have pb := pw_place_b (b := false) ok h0 h1
      have pt := pm_truePlace ok Mw hm (by omega) h0 h1
      have cs := pm_cosine (σ := σ2) pb.1 pb.2
      obtain ⟨o0, o1, o2, -⟩ := pm_o Mw hm (by omega)
      have q2 : σ1.1 10 (6 * a + i) 3 = Int32.ofInt (ws i 2) := Cw.2.2.1
      obtain ⟨c, cb, x1, x2⟩ := pb_cos (σ1 := σ1) (σ2 := σ2) (v1 := Int32.ofInt m) (v2 := Int32.ofInt h) (v5 := Int32.ofInt v) (v6 := Int32.ofInt i) g pb.1 pb.2 e0 e1
      have z : 0 ≤ ws i 2 ∧ ws i 2 ≤ 99 := ok.2.2.1
      have m1 : ws i 2 * c ≤ ws i 2 * 12 := Int.mul_le_mul_of_nonneg_left cb.2 z.1
      have m2 : ws i 2 * (-12) ≤ ws i 2 * c := Int.mul_le_mul_of_nonneg_left cb.1 z.1
      refine ⟨(Int32.ofInt (v + ws i 2 * c), Int32.ofInt ((i : Int) + 1)), (Int32.ofInt (v + ws i 2 * c), Int32.ofInt ((i : Int) + 1)), wc - (i + 1), ?_, ?_, by omega, v + ws i 2 * c, i + 1, rfl, rfl, by omega, by omega, rfl⟩
      · simp (disch := omega) only [f_X3_boundAt_9, c2, pl, x1, q2, Option.bind_some, qi, ql, qI_lt, qI_le, qI_eq, qI_L, qI_ix, qL_lt, qL_eq, q_nat, q_cs, ← Int32.ofInt_add, ← Int32.ofInt_sub, ← Int32.ofInt_mul, ← Int32.ofInt_neg, ← Int64.ofInt_add, ← Int64.ofInt_sub, ← Int64.ofInt_mul, ← Int64.ofInt_neg, pL_I, q_mx, q_mn, q_ab, q_abL, q_mnL, q_nn0, q_nn1, q_rr, q_b1, q_b0, q_T, q_F, q_iT, q_iF, q_d, q_in, q_wi, q_hC, q_hM, pT_i, pU_i, pS_i, pS_j, pS_0, Sum.elim_inl, Sum.elim_inr, if_pos, if_neg]
      · simp (disch := omega) only [f_X12_bound_14, d2, pt, cs, x2, o2, Option.bind_some, qi, ql, qI_lt, qI_le, qI_eq, qI_L, qI_ix, qL_lt, qL_eq, q_nat, q_cs, ← Int32.ofInt_add, ← Int32.ofInt_sub, ← Int32.ofInt_mul, ← Int32.ofInt_neg, ← Int64.ofInt_add, ← Int64.ofInt_sub, ← Int64.ofInt_mul, ← Int64.ofInt_neg, pL_I, q_mx, q_mn, q_ab, q_abL, q_mnL, q_nn0, q_nn1, q_rr, q_b1, q_b0, q_T, q_F, q_iT, q_iF, q_d, q_in, q_wi, q_hC, q_hM, pT_i, pU_i, pS_i, pS_j, pS_0, Sum.elim_inl, Sum.elim_inr, if_pos, if_neg]
    · left
      refine ⟨Int32.ofInt v, Int32.ofInt v, ?_, ?_, v, rfl, rfl, by omega⟩
      · simp (disch := omega) only [f_X3_boundAt_9, c2, Option.bind_some, qi, ql, qI_lt, qI_le, qI_eq, qI_L, qI_ix, qL_lt, qL_eq, q_nat, q_cs, ← Int32.ofInt_add, ← Int32.ofInt_sub, ← Int32.ofInt_mul, ← Int32.ofInt_neg, ← Int64.ofInt_add, ← Int64.ofInt_sub, ← Int64.ofInt_mul, ← Int64.ofInt_neg, pL_I, q_mx, q_mn, q_ab, q_abL, q_mnL, q_nn0, q_nn1, q_rr, q_b1, q_b0, q_T, q_F, q_iT, q_iF, q_d, q_in, q_wi, q_hC, q_hM, pT_i, pU_i, pS_i, pS_j, pS_0, Sum.elim_inl, Sum.elim_inr, if_pos, if_neg]
      · simp (disch := omega) only [f_X12_bound_14, d2, Option.bind_some, qi, ql, qI_lt, qI_le, qI_eq, qI_L, qI_ix, qL_lt, qL_eq, q_nat, q_cs, ← Int32.ofInt_add, ← Int32.ofInt_sub, ← Int32.ofInt_mul, ← Int32.ofInt_neg, ← Int64.ofInt_add, ← Int64.ofInt_sub, ← Int64.ofInt_mul, ← Int64.ofInt_neg, pL_I, q_mx, q_mn, q_ab, q_abL, q_mnL, q_nn0, q_nn1, q_rr, q_b1, q_b0, q_T, q_F, q_iT, q_iF, q_d, q_in, q_wi, q_hC, q_hM, pT_i, pU_i, pS_i, pS_j, pS_0, Sum.elim_inl, Sum.elim_inr, if_pos, if_neg]) _ (Int32.ofInt (12 * max zr 0), Int32.ofInt 0) (Int32.ofInt (12 * max zr 0), Int32.ofInt 0) ⟨12 * max zr 0, 0, rfl, rfl, by omega, by omega, rfl⟩
  subst e1' e2'
  refine ⟨c, cb, ?_, ?_⟩
  · simp (disch := omega) only [f_X3_boundAt, hz, k1, Option.bind_some, qi, ql, qI_lt, qI_le, qI_eq, qI_L, qI_ix, qL_lt, qL_eq, q_nat, q_cs, ← Int32.ofInt_add, ← Int32.ofInt_sub, ← Int32.ofInt_mul, ← Int32.ofInt_neg, ← Int64.ofInt_add, ← Int64.ofInt_sub, ← Int64.ofInt_mul, ← Int64.ofInt_neg, pL_I, q_mx, q_mn, q_ab, q_abL, q_mnL, q_nn0, q_nn1, q_rr, q_b1, q_b0, q_T, q_F, q_iT, q_iF, q_d, q_in, q_wi, q_hC, q_hM, pT_i, pU_i, pS_i, pS_j, pS_0, Sum.elim_inl, Sum.elim_inr, if_pos, if_neg]
  · simp (disch := omega) only [f_X12_bound, d3, k2, Option.bind_some, qi, ql, qI_lt, qI_le, qI_eq, qI_L, qI_ix, qL_lt, qL_eq, q_nat, q_cs, ← Int32.ofInt_add, ← Int32.ofInt_sub, ← Int32.ofInt_mul, ← Int32.ofInt_neg, ← Int64.ofInt_add, ← Int64.ofInt_sub, ← Int64.ofInt_mul, ← Int64.ofInt_neg, pL_I, q_mx, q_mn, q_ab, q_abL, q_mnL, q_nn0, q_nn1, q_rr, q_b1, q_b0, q_T, q_F, q_iT, q_iF, q_d, q_in, q_wi, q_hC, q_hM, pT_i, pU_i, pS_i, pS_j, pS_0, Sum.elim_inl, Sum.elim_inr, if_pos, if_neg]
theorem po_30 : am_op_30 pr_Rel := by
  intro σ1 σ2 h v1 v2 v3 v4
  obtain ⟨x, x1, x2, rfl⟩ := q_ex v1
  obtain ⟨y, y1, y2, rfl⟩ := q_ex v2
  obtain ⟨e, e1, e2, rfl⟩ := q_ex v3
  obtain ⟨w, w1, w2, rfl⟩ := q_ex v4
  rcases pr_m (h.2.S 0) x1 x2 with ⟨c, f1, f2⟩ | ⟨m, a, hm, ha, rfl, hr, f1, f2, M⟩
  · refine pr_ro h (Int32.ofInt (-1)) 2 ?_ ?_
    · simp (disch := omega) only [f_X11_bounds, f_X11_none, f1, Option.bind_some, qi, ql, qI_lt, qI_le, qI_eq, qI_L, qI_ix, qL_lt, qL_eq, q_nat, q_cs, ← Int32.ofInt_add, ← Int32.ofInt_sub, ← Int32.ofInt_mul, ← Int32.ofInt_neg, ← Int64.ofInt_add, ← Int64.ofInt_sub, ← Int64.ofInt_mul, ← Int64.ofInt_neg, pL_I, q_mx, q_mn, q_ab, q_abL, q_mnL, q_nn0, q_nn1, q_rr, q_b1, q_b0, q_T, q_F, q_iT, q_iF, q_d, q_in, q_wi, q_hC, q_hM, pT_i, pU_i, pS_i, pS_j, pS_0, Sum.elim_inl, Sum.elim_inr, if_pos, if_neg]
    · simp (disch := omega) only [f_X12_bounds, f_X12_refuse, f2, Option.bind_some, qi, ql, qI_lt, qI_le, qI_eq, qI_L, qI_ix, qL_lt, qL_eq, q_nat, q_cs, ← Int32.ofInt_add, ← Int32.ofInt_sub, ← Int32.ofInt_mul, ← Int32.ofInt_neg, ← Int64.ofInt_add, ← Int64.ofInt_sub, ← Int64.ofInt_mul, ← Int64.ofInt_neg, pL_I, q_mx, q_mn, q_ab, q_abL, q_mnL, q_nn0, q_nn1, q_rr, q_b1, q_b0, q_T, q_F, q_iT, q_iF, q_d, q_in, q_wi, q_hC, q_hM, pT_i, pU_i, pS_i, pS_j, pS_0, Sum.elim_inl, Sum.elim_inr, if_pos, if_neg]
  · by_cases cy : 0 ≤ y ∧ y ≤ 99999
    · by_cases ce : 0 ≤ e ∧ e ≤ 5
      · by_cases cw : 0 ≤ w ∧ w ≤ 1
        · by_cases c1 : w = 1
          · obtain ⟨r, rb, k1, k2⟩ := pr_B (by omega) M true cy.1 (by omega) ce.1 ce.2
            refine pr_ro h (Int32.ofInt r) 0 ?_ ?_
            · simp (disch := omega) only [f_X11_bounds, f_X11_bounds_67, f_X11_answer, f1, k1, Option.bind_some, qi, ql, qI_lt, qI_le, qI_eq, qI_L, qI_ix, qL_lt, qL_eq, q_nat, q_cs, ← Int32.ofInt_add, ← Int32.ofInt_sub, ← Int32.ofInt_mul, ← Int32.ofInt_neg, ← Int64.ofInt_add, ← Int64.ofInt_sub, ← Int64.ofInt_mul, ← Int64.ofInt_neg, pL_I, q_mx, q_mn, q_ab, q_abL, q_mnL, q_nn0, q_nn1, q_rr, q_b1, q_b0, q_T, q_F, q_iT, q_iF, q_d, q_in, q_wi, q_hC, q_hM, pT_i, pU_i, pS_i, pS_j, pS_0, Sum.elim_inl, Sum.elim_inr, if_pos, if_neg]
            · simp (disch := omega) only [f_X12_bounds, f_X12_bounds_68, f2, k2, Option.bind_some, qi, ql, qI_lt, qI_le, qI_eq, qI_L, qI_ix, qL_lt, qL_eq, q_nat, q_cs, ← Int32.ofInt_add, ← Int32.ofInt_sub, ← Int32.ofInt_mul, ← Int32.ofInt_neg, ← Int64.ofInt_add, ← Int64.ofInt_sub, ← Int64.ofInt_mul, ← Int64.ofInt_neg, pL_I, q_mx, q_mn, q_ab, q_abL, q_mnL, q_nn0, q_nn1, q_rr, q_b1, q_b0, q_T, q_F, q_iT, q_iF, q_d, q_in, q_wi, q_hC, q_hM, pT_i, pU_i, pS_i, pS_j, pS_0, Sum.elim_inl, Sum.elim_inr, if_pos, if_neg]
          · obtain ⟨r, rb, k1, k2⟩ := pr_B (by omega) M false cy.1 (by omega) ce.1 ce.2
            refine pr_ro h (Int32.ofInt r) 0 ?_ ?_
            · simp (disch := omega) only [f_X11_bounds, f_X11_bounds_67, f_X11_answer, f1, k1, Option.bind_some, qi, ql, qI_lt, qI_le, qI_eq, qI_L, qI_ix, qL_lt, qL_eq, q_nat, q_cs, ← Int32.ofInt_add, ← Int32.ofInt_sub, ← Int32.ofInt_mul, ← Int32.ofInt_neg, ← Int64.ofInt_add, ← Int64.ofInt_sub, ← Int64.ofInt_mul, ← Int64.ofInt_neg, pL_I, q_mx, q_mn, q_ab, q_abL, q_mnL, q_nn0, q_nn1, q_rr, q_b1, q_b0, q_T, q_F, q_iT, q_iF, q_d, q_in, q_wi, q_hC, q_hM, pT_i, pU_i, pS_i, pS_j, pS_0, Sum.elim_inl, Sum.elim_inr, if_pos, if_neg]
            · simp (disch := omega) only [f_X12_bounds, f_X12_bounds_68, f2, k2, Option.bind_some, qi, ql, qI_lt, qI_le, qI_eq, qI_L, qI_ix, qL_lt, qL_eq, q_nat, q_cs, ← Int32.ofInt_add, ← Int32.ofInt_sub, ← Int32.ofInt_mul, ← Int32.ofInt_neg, ← Int64.ofInt_add, ← Int64.ofInt_sub, ← Int64.ofInt_mul, ← Int64.ofInt_neg, pL_I, q_mx, q_mn, q_ab, q_abL, q_mnL, q_nn0, q_nn1, q_rr, q_b1, q_b0, q_T, q_F, q_iT, q_iF, q_d, q_in, q_wi, q_hC, q_hM, pT_i, pU_i, pS_i, pS_j, pS_0, Sum.elim_inl, Sum.elim_inr, if_pos, if_neg]
        · refine pr_ro h (Int32.ofInt (-1)) 5 ?_ ?_
          · simp (disch := omega) only [f_X11_bounds, f_X11_bounds_44, f_X11_none, f1, Option.bind_some, qi, ql, qI_lt, qI_le, qI_eq, qI_L, qI_ix, qL_lt, qL_eq, q_nat, q_cs, ← Int32.ofInt_add, ← Int32.ofInt_sub, ← Int32.ofInt_mul, ← Int32.ofInt_neg, ← Int64.ofInt_add, ← Int64.ofInt_sub, ← Int64.ofInt_mul, ← Int64.ofInt_neg, pL_I, q_mx, q_mn, q_ab, q_abL, q_mnL, q_nn0, q_nn1, q_rr, q_b1, q_b0, q_T, q_F, q_iT, q_iF, q_d, q_in, q_wi, q_hC, q_hM, pT_i, pU_i, pS_i, pS_j, pS_0, Sum.elim_inl, Sum.elim_inr, if_pos, if_neg]
          · simp (disch := omega) only [f_X12_bounds, f_X12_bounds_74, f_X12_refuse, f2, Option.bind_some, qi, ql, qI_lt, qI_le, qI_eq, qI_L, qI_ix, qL_lt, qL_eq, q_nat, q_cs, ← Int32.ofInt_add, ← Int32.ofInt_sub, ← Int32.ofInt_mul, ← Int32.ofInt_neg, ← Int64.ofInt_add, ← Int64.ofInt_sub, ← Int64.ofInt_mul, ← Int64.ofInt_neg, pL_I, q_mx, q_mn, q_ab, q_abL, q_mnL, q_nn0, q_nn1, q_rr, q_b1, q_b0, q_T, q_F, q_iT, q_iF, q_d, q_in, q_wi, q_hC, q_hM, pT_i, pU_i, pS_i, pS_j, pS_0, Sum.elim_inl, Sum.elim_inr, if_pos, if_neg]
      · refine pr_ro h (Int32.ofInt (-1)) 5 ?_ ?_
        · simp (disch := omega) only [f_X11_bounds, f_X11_bounds_44, f_X11_none, f1, Option.bind_some, qi, ql, qI_lt, qI_le, qI_eq, qI_L, qI_ix, qL_lt, qL_eq, q_nat, q_cs, ← Int32.ofInt_add, ← Int32.ofInt_sub, ← Int32.ofInt_mul, ← Int32.ofInt_neg, ← Int64.ofInt_add, ← Int64.ofInt_sub, ← Int64.ofInt_mul, ← Int64.ofInt_neg, pL_I, q_mx, q_mn, q_ab, q_abL, q_mnL, q_nn0, q_nn1, q_rr, q_b1, q_b0, q_T, q_F, q_iT, q_iF, q_d, q_in, q_wi, q_hC, q_hM, pT_i, pU_i, pS_i, pS_j, pS_0, Sum.elim_inl, Sum.elim_inr, if_pos, if_neg]
        · simp (disch := omega) only [f_X12_bounds, f_X12_bounds_74, f_X12_refuse, f2, Option.bind_some, qi, ql, qI_lt, qI_le, qI_eq, qI_L, qI_ix, qL_lt, qL_eq, q_nat, q_cs, ← Int32.ofInt_add, ← Int32.ofInt_sub, ← Int32.ofInt_mul, ← Int32.ofInt_neg, ← Int64.ofInt_add, ← Int64.ofInt_sub, ← Int64.ofInt_mul, ← Int64.ofInt_neg, pL_I, q_mx, q_mn, q_ab, q_abL, q_mnL, q_nn0, q_nn1, q_rr, q_b1, q_b0, q_T, q_F, q_iT, q_iF, q_d, q_in, q_wi, q_hC, q_hM, pT_i, pU_i, pS_i, pS_j, pS_0, Sum.elim_inl, Sum.elim_inr, if_pos, if_neg]
    · refine pr_ro h (Int32.ofInt (-1)) 5 ?_ ?_
      · simp (disch := omega) only [f_X11_bounds, f_X11_bounds_44, f_X11_none, f1, Option.bind_some, qi, ql, qI_lt, qI_le, qI_eq, qI_L, qI_ix, qL_lt, qL_eq, q_nat, q_cs, ← Int32.ofInt_add, ← Int32.ofInt_sub, ← Int32.ofInt_mul, ← Int32.ofInt_neg, ← Int64.ofInt_add, ← Int64.ofInt_sub, ← Int64.ofInt_mul, ← Int64.ofInt_neg, pL_I, q_mx, q_mn, q_ab, q_abL, q_mnL, q_nn0, q_nn1, q_rr, q_b1, q_b0, q_T, q_F, q_iT, q_iF, q_d, q_in, q_wi, q_hC, q_hM, pT_i, pU_i, pS_i, pS_j, pS_0, Sum.elim_inl, Sum.elim_inr, if_pos, if_neg]
      · simp (disch := omega) only [f_X12_bounds, f_X12_bounds_74, f_X12_refuse, f2, Option.bind_some, qi, ql, qI_lt, qI_le, qI_eq, qI_L, qI_ix, qL_lt, qL_eq, q_nat, q_cs, ← Int32.ofInt_add, ← Int32.ofInt_sub, ← Int32.ofInt_mul, ← Int32.ofInt_neg, ← Int64.ofInt_add, ← Int64.ofInt_sub, ← Int64.ofInt_mul, ← Int64.ofInt_neg, pL_I, q_mx, q_mn, q_ab, q_abL, q_mnL, q_nn0, q_nn1, q_rr, q_b1, q_b0, q_T, q_F, q_iT, q_iF, q_d, q_in, q_wi, q_hC, q_hM, pT_i, pU_i, pS_i, pS_j, pS_0, Sum.elim_inl, Sum.elim_inr, if_pos, if_neg]
theorem po_38 : am_op_38 pr_Rel := by
  intro σ1 σ2 h v1 v2 b
  obtain ⟨x, x1, x2, rfl⟩ := q_ex v1
  obtain ⟨d, d1, d2, rfl⟩ := q_ex v2
  rcases pr_m (h.2.S 0) x1 x2 with ⟨c, e1, e2⟩ | ⟨m, a, hm, ha, rfl, hr, e1, e2, M⟩
  · refine pr_ro h (Int32.ofInt (-1)) 2 ?_ ?_
    · simp (disch := omega) only [f_X11_range, f_X11_none, e1, Option.bind_some, qi, ql, qI_lt, qI_le, qI_eq, qI_L, qI_ix, qL_lt, qL_eq, q_nat, q_cs, ← Int32.ofInt_add, ← Int32.ofInt_sub, ← Int32.ofInt_mul, ← Int32.ofInt_neg, ← Int64.ofInt_add, ← Int64.ofInt_sub, ← Int64.ofInt_mul, ← Int64.ofInt_neg, pL_I, q_mx, q_mn, q_ab, q_abL, q_mnL, q_nn0, q_nn1, q_rr, q_b1, q_b0, q_T, q_F, q_iT, q_iF, q_d, q_in, q_wi, q_hC, q_hM, pT_i, pU_i, pS_i, pS_j, pS_0, Sum.elim_inl, Sum.elim_inr, if_pos, if_neg]
    · simp (disch := omega) only [f_X12_range, f_X12_refuse, e2, Option.bind_some, qi, ql, qI_lt, qI_le, qI_eq, qI_L, qI_ix, qL_lt, qL_eq, q_nat, q_cs, ← Int32.ofInt_add, ← Int32.ofInt_sub, ← Int32.ofInt_mul, ← Int32.ofInt_neg, ← Int64.ofInt_add, ← Int64.ofInt_sub, ← Int64.ofInt_mul, ← Int64.ofInt_neg, pL_I, q_mx, q_mn, q_ab, q_abL, q_mnL, q_nn0, q_nn1, q_rr, q_b1, q_b0, q_T, q_F, q_iT, q_iF, q_d, q_in, q_wi, q_hC, q_hM, pT_i, pU_i, pS_i, pS_j, pS_0, Sum.elim_inl, Sum.elim_inr, if_pos, if_neg]
  · by_cases cd : 0 ≤ d ∧ d ≤ 4166
    · obtain ⟨H, hH⟩ := pr_H (by omega) M
      have el : min (24 * d + 24 - 1) 99999 = min 99999 (24 * d + 23) := by omega
      generalize hl : min 99999 (24 * d + 23) = l at el
      have l0 : 24 * d ≤ l := by omega
      have l1 : l ≤ 99999 := by omega
      obtain ⟨r, rb, rm, k1, -⟩ := px_ext hH (y := 24 * d) (z := l) (by omega) (by omega) (by omega) b true
      obtain ⟨s, sb, sm, k2, -⟩ := px_ext hH (y := 24 * d) (z := l) (by omega) (by omega) (by omega) b false
      obtain ⟨p1, -, p3, p4⟩ := hH b r (by omega) (by omega)
      obtain ⟨q1, -, q3, q4⟩ := hH b s (by omega) (by omega)
      obtain ⟨-, g2, g3, g4⟩ := hH b (24 * d) (by omega) (by omega)
      obtain ⟨w, k3, hw⟩ := am_loop_1 (B := fun s : Int32 × Int32 × Int32 => f_X12_range_60 (Int32.ofInt m) (Int32.ofInt d) b s.1 s.2.1 s.2.2 (pS σ2 0)) (fun n s => ∃ u v hh : Int, s = (Int32.ofInt u, Int32.ofInt v, Int32.ofInt hh) ∧ (24 * d + 1 ≤ hh ∧ hh ≤ l + 1) ∧ (∀ k, 24 * d ≤ k → k < hh → v ≤ H b k ∧ H b k ≤ u) ∧ (∃ k, (24 * d ≤ k ∧ k < hh) ∧ u = H b k) ∧ (∃ k, (24 * d ≤ k ∧ k < hh) ∧ v = H b k) ∧ n = (l + 1 - hh).toNat) (fun w => w = (Int32.ofInt (H b r), Int32.ofInt (H b s))) (by
        rintro n s' ⟨u, v, hh, rfl, hb, hk, ⟨ku, kub, rfl⟩, ⟨kv, kvb, rfl⟩, rfl⟩
        obtain ⟨-, -, u1, u2⟩ := hH b ku (by omega) (by omega)
        obtain ⟨-, -, v1, v2⟩ := hH b kv (by omega) (by omega)
        by_cases ce : l < hh
        · left
          refine ⟨_, ?_, rfl⟩
          have hu : H b ku = H b r := by
            have h1 := hk r (by omega) (by omega)
            have h2 := rm ku (by omega) (by omega)
            rw [if_pos rfl] at h2
            omega
          have hv : H b kv = H b s := by
            have h1 := hk s (by omega) (by omega)
            have h2 := sm kv (by omega) (by omega)
            rw [if_neg (by decide)] at h2
            omega
          simp (disch := omega) only [f_X12_range_60, f_X12_lastHour, hl, hu, hv, Option.bind_some, qi, ql, qI_lt, qI_le, qI_eq, qI_L, qI_ix, qL_lt, qL_eq, q_nat, q_cs, ← Int32.ofInt_add, ← Int32.ofInt_sub, ← Int32.ofInt_mul, ← Int32.ofInt_neg, ← Int64.ofInt_add, ← Int64.ofInt_sub, ← Int64.ofInt_mul, ← Int64.ofInt_neg, pL_I, q_mx, q_mn, q_ab, q_abL, q_mnL, q_nn0, q_nn1, q_rr, q_b1, q_b0, q_T, q_F, q_iT, q_iF, q_d, q_in, q_wi, q_hC, q_hM, pT_i, pU_i, pS_i, pS_j, pS_0, Sum.elim_inl, Sum.elim_inr, if_pos, if_neg]
        · right
          obtain ⟨-, t2, t3, t4⟩ := hH b hh (by omega) (by omega)
          refine ⟨(Int32.ofInt (max (H b ku) (H b hh)), Int32.ofInt (min (H b kv) (H b hh)), Int32.ofInt (hh + 1)), (l + 1 - (hh + 1)).toNat, ?_, by omega, _, _, _, rfl, by omega, fun k k0 k1 => ?_, ?_, ?_, rfl⟩
          · simp (disch := omega) only [f_X12_range_60, f_X12_lastHour, hl, t2, Option.bind_some, qi, ql, qI_lt, qI_le, qI_eq, qI_L, qI_ix, qL_lt, qL_eq, q_nat, q_cs, ← Int32.ofInt_add, ← Int32.ofInt_sub, ← Int32.ofInt_mul, ← Int32.ofInt_neg, ← Int64.ofInt_add, ← Int64.ofInt_sub, ← Int64.ofInt_mul, ← Int64.ofInt_neg, pL_I, q_mx, q_mn, q_ab, q_abL, q_mnL, q_nn0, q_nn1, q_rr, q_b1, q_b0, q_T, q_F, q_iT, q_iF, q_d, q_in, q_wi, q_hC, q_hM, pT_i, pU_i, pS_i, pS_j, pS_0, Sum.elim_inl, Sum.elim_inr, if_pos, if_neg]
          · by_cases ck : k = hh
            · subst ck; omega
            · have := hk k k0 (by omega)
              omega
          · by_cases cm : H b ku ≤ H b hh
            · exact ⟨hh, by omega, by omega⟩
            · exact ⟨ku, by omega, by omega⟩
          · by_cases cm : H b hh ≤ H b kv
            · exact ⟨hh, by omega, by omega⟩
            · exact ⟨kv, by omega, by omega⟩) _ (Int32.ofInt (H b (24 * d)), Int32.ofInt (H b (24 * d)), Int32.ofInt (24 * d + 1)) ⟨_, _, _, rfl, by omega, fun k k0 k1 => by
          have : k = 24 * d := by omega
          subst this
          omega, ⟨24 * d, by omega, rfl⟩, ⟨24 * d, by omega, rfl⟩, rfl⟩
      subst hw
      refine pr_ro h (Int32.ofInt (H b r - H b s)) 0 ?_ ?_
      · simp (disch := omega) only [f_X11_range, f_X11_answer, f_X3_rangeOf, f_X3_lastHourOf, e1, el, k1, k2, p1, q1, Option.bind_some, qi, ql, qI_lt, qI_le, qI_eq, qI_L, qI_ix, qL_lt, qL_eq, q_nat, q_cs, ← Int32.ofInt_add, ← Int32.ofInt_sub, ← Int32.ofInt_mul, ← Int32.ofInt_neg, ← Int64.ofInt_add, ← Int64.ofInt_sub, ← Int64.ofInt_mul, ← Int64.ofInt_neg, pL_I, q_mx, q_mn, q_ab, q_abL, q_mnL, q_nn0, q_nn1, q_rr, q_b1, q_b0, q_T, q_F, q_iT, q_iF, q_d, q_in, q_wi, q_hC, q_hM, pT_i, pU_i, pS_i, pS_j, pS_0, Sum.elim_inl, Sum.elim_inr, if_pos, if_neg]
      · simp (disch := omega) only [f_X12_range, f_X12_isDay, e2, g2, k3, Option.bind_some, qi, ql, qI_lt, qI_le, qI_eq, qI_L, qI_ix, qL_lt, qL_eq, q_nat, q_cs, ← Int32.ofInt_add, ← Int32.ofInt_sub, ← Int32.ofInt_mul, ← Int32.ofInt_neg, ← Int64.ofInt_add, ← Int64.ofInt_sub, ← Int64.ofInt_mul, ← Int64.ofInt_neg, pL_I, q_mx, q_mn, q_ab, q_abL, q_mnL, q_nn0, q_nn1, q_rr, q_b1, q_b0, q_T, q_F, q_iT, q_iF, q_d, q_in, q_wi, q_hC, q_hM, pT_i, pU_i, pS_i, pS_j, pS_0, Sum.elim_inl, Sum.elim_inr, if_pos, if_neg]
    · refine pr_ro h (Int32.ofInt (-1)) 5 ?_ ?_
      · simp (disch := omega) only [f_X11_range, f_X11_none, e1, Option.bind_some, qi, ql, qI_lt, qI_le, qI_eq, qI_L, qI_ix, qL_lt, qL_eq, q_nat, q_cs, ← Int32.ofInt_add, ← Int32.ofInt_sub, ← Int32.ofInt_mul, ← Int32.ofInt_neg, ← Int64.ofInt_add, ← Int64.ofInt_sub, ← Int64.ofInt_mul, ← Int64.ofInt_neg, pL_I, q_mx, q_mn, q_ab, q_abL, q_mnL, q_nn0, q_nn1, q_rr, q_b1, q_b0, q_T, q_F, q_iT, q_iF, q_d, q_in, q_wi, q_hC, q_hM, pT_i, pU_i, pS_i, pS_j, pS_0, Sum.elim_inl, Sum.elim_inr, if_pos, if_neg]
      · simp (disch := omega) only [f_X12_range, f_X12_isDay, f_X12_refuse, e2, Option.bind_some, qi, ql, qI_lt, qI_le, qI_eq, qI_L, qI_ix, qL_lt, qL_eq, q_nat, q_cs, ← Int32.ofInt_add, ← Int32.ofInt_sub, ← Int32.ofInt_mul, ← Int32.ofInt_neg, ← Int64.ofInt_add, ← Int64.ofInt_sub, ← Int64.ofInt_mul, ← Int64.ofInt_neg, pL_I, q_mx, q_mn, q_ab, q_abL, q_mnL, q_nn0, q_nn1, q_rr, q_b1, q_b0, q_T, q_F, q_iT, q_iF, q_d, q_in, q_wi, q_hC, q_hM, pT_i, pU_i, pS_i, pS_j, pS_0, Sum.elim_inl, Sum.elim_inr, if_pos, if_neg]
theorem po_48 : am_op_48 pr_Rel := by
  intro σ1 σ2 h v1 v2 v3 v4
  obtain ⟨x, x1, x2, rfl⟩ := q_ex v1
  obtain ⟨t, t1, t2, rfl⟩ := q_ex v2
  obtain ⟨y, y1, y2, rfl⟩ := q_ex v3
  obtain ⟨n, n1, n2, rfl⟩ := q_ex v4
  rcases pr_t (h.2.S 0) t1 t2 with ⟨c, e1⟩ | ⟨t, ht, rfl, e1, so, mn, d1, d2, d3⟩
  · refine pr_ro h (Int32.ofInt (-1)) 1 ?_ ?_
    · simp (disch := omega) only [f_X11_table, f_X11_none, e1, Option.bind_some, qi, ql, qI_lt, qI_le, qI_eq, qI_L, qI_ix, qL_lt, qL_eq, q_nat, q_cs, ← Int32.ofInt_add, ← Int32.ofInt_sub, ← Int32.ofInt_mul, ← Int32.ofInt_neg, ← Int64.ofInt_add, ← Int64.ofInt_sub, ← Int64.ofInt_mul, ← Int64.ofInt_neg, pL_I, q_mx, q_mn, q_ab, q_abL, q_mnL, q_nn0, q_nn1, q_rr, q_b1, q_b0, q_T, q_F, q_iT, q_iF, q_d, q_in, q_wi, q_hC, q_hM, pT_i, pU_i, pS_i, pS_j, pS_0, Sum.elim_inl, Sum.elim_inr, if_pos, if_neg]
    · simp (disch := omega) only [f_X12_table, f_X12_isTray, f_X12_refuse, Option.bind_some, qi, ql, qI_lt, qI_le, qI_eq, qI_L, qI_ix, qL_lt, qL_eq, q_nat, q_cs, ← Int32.ofInt_add, ← Int32.ofInt_sub, ← Int32.ofInt_mul, ← Int32.ofInt_neg, ← Int64.ofInt_add, ← Int64.ofInt_sub, ← Int64.ofInt_mul, ← Int64.ofInt_neg, pL_I, q_mx, q_mn, q_ab, q_abL, q_mnL, q_nn0, q_nn1, q_rr, q_b1, q_b0, q_T, q_F, q_iT, q_iF, q_d, q_in, q_wi, q_hC, q_hM, pT_i, pU_i, pS_i, pS_j, pS_0, Sum.elim_inl, Sum.elim_inr, if_pos, if_neg]
  · rcases pr_m (h.2.S 0) x1 x2 with ⟨c, f1, f2⟩ | ⟨m, a, hm, ha, rfl, hr, f1, f2, M⟩
    · refine pr_ro h (Int32.ofInt (-1)) 2 ?_ ?_
      · simp (disch := omega) only [f_X11_table, f_X11_none, e1, f1, Option.bind_some, qi, ql, qI_lt, qI_le, qI_eq, qI_L, qI_ix, qL_lt, qL_eq, q_nat, q_cs, ← Int32.ofInt_add, ← Int32.ofInt_sub, ← Int32.ofInt_mul, ← Int32.ofInt_neg, ← Int64.ofInt_add, ← Int64.ofInt_sub, ← Int64.ofInt_mul, ← Int64.ofInt_neg, pL_I, q_mx, q_mn, q_ab, q_abL, q_mnL, q_nn0, q_nn1, q_rr, q_b1, q_b0, q_T, q_F, q_iT, q_iF, q_d, q_in, q_wi, q_hC, q_hM, pT_i, pU_i, pS_i, pS_j, pS_0, Sum.elim_inl, Sum.elim_inr, if_pos, if_neg]
      · simp (disch := omega) only [f_X12_table, f_X12_isTray, f_X12_refuse, f2, Option.bind_some, qi, ql, qI_lt, qI_le, qI_eq, qI_L, qI_ix, qL_lt, qL_eq, q_nat, q_cs, ← Int32.ofInt_add, ← Int32.ofInt_sub, ← Int32.ofInt_mul, ← Int32.ofInt_neg, ← Int64.ofInt_add, ← Int64.ofInt_sub, ← Int64.ofInt_mul, ← Int64.ofInt_neg, pL_I, q_mx, q_mn, q_ab, q_abL, q_mnL, q_nn0, q_nn1, q_rr, q_b1, q_b0, q_T, q_F, q_iT, q_iF, q_d, q_in, q_wi, q_hC, q_hM, pT_i, pU_i, pS_i, pS_j, pS_0, Sum.elim_inl, Sum.elim_inr, if_pos, if_neg]
    · rcases d3 with ⟨rfl, rfl, g3⟩ | ⟨⟨g1, g1'⟩, ⟨g2, g2'⟩, g3, g4, g5⟩
      · refine pr_ro h (Int32.ofInt (-1)) 3 ?_ ?_
        · simp (disch := omega) only [f_X11_table, f_X11_none, e1, f1, f_X8_isMissing, d1, Option.bind_some, qi, ql, qI_lt, qI_le, qI_eq, qI_L, qI_ix, qL_lt, qL_eq, q_nat, q_cs, ← Int32.ofInt_add, ← Int32.ofInt_sub, ← Int32.ofInt_mul, ← Int32.ofInt_neg, ← Int64.ofInt_add, ← Int64.ofInt_sub, ← Int64.ofInt_mul, ← Int64.ofInt_neg, pL_I, q_mx, q_mn, q_ab, q_abL, q_mnL, q_nn0, q_nn1, q_rr, q_b1, q_b0, q_T, q_F, q_iT, q_iF, q_d, q_in, q_wi, q_hC, q_hM, pT_i, pU_i, pS_i, pS_j, pS_0, Sum.elim_inl, Sum.elim_inr, if_pos, if_neg]
        · simp (disch := omega) only [f_X12_table, f_X12_isTray, f_X12_refuse, f2, g3, Option.bind_some, qi, ql, qI_lt, qI_le, qI_eq, qI_L, qI_ix, qL_lt, qL_eq, q_nat, q_cs, ← Int32.ofInt_add, ← Int32.ofInt_sub, ← Int32.ofInt_mul, ← Int32.ofInt_neg, ← Int64.ofInt_add, ← Int64.ofInt_sub, ← Int64.ofInt_mul, ← Int64.ofInt_neg, pL_I, q_mx, q_mn, q_ab, q_abL, q_mnL, q_nn0, q_nn1, q_rr, q_b1, q_b0, q_T, q_F, q_iT, q_iF, q_d, q_in, q_wi, q_hC, q_hM, pT_i, pU_i, pS_i, pS_j, pS_0, Sum.elim_inl, Sum.elim_inr, if_pos, if_neg]
      · by_cases c1 : (1 ≤ n ∧ n ≤ 60) ∧ (0 ≤ y ∧ y ≤ 99999) ∧ y + n - 1 ≤ 99999
        · have rn := pt_run (σ := σ1) (x := 0) d2 g2 g2' (by omega) (by omega) n1 n2
          by_cases c2 : mn < n
          · refine pr_ro h (Int32.ofInt (-1)) 4 ?_ ?_
            · simp (disch := omega) only [f_X11_table, f_X11_none, e1, f1, f_X8_isMissing, d1, rn, Option.bind_some, qi, ql, qI_lt, qI_le, qI_eq, qI_L, qI_ix, qL_lt, qL_eq, q_nat, q_cs, ← Int32.ofInt_add, ← Int32.ofInt_sub, ← Int32.ofInt_mul, ← Int32.ofInt_neg, ← Int64.ofInt_add, ← Int64.ofInt_sub, ← Int64.ofInt_mul, ← Int64.ofInt_neg, pL_I, q_mx, q_mn, q_ab, q_abL, q_mnL, q_nn0, q_nn1, q_rr, q_b1, q_b0, q_T, q_F, q_iT, q_iF, q_d, q_in, q_wi, q_hC, q_hM, pT_i, pU_i, pS_i, pS_j, pS_0, Sum.elim_inl, Sum.elim_inr, if_pos, if_neg]
            · simp (disch := omega) only [f_X12_table, f_X12_isTray, f_X12_refuse, f2, g4, Option.bind_some, qi, ql, qI_lt, qI_le, qI_eq, qI_L, qI_ix, qL_lt, qL_eq, q_nat, q_cs, ← Int32.ofInt_add, ← Int32.ofInt_sub, ← Int32.ofInt_mul, ← Int32.ofInt_neg, ← Int64.ofInt_add, ← Int64.ofInt_sub, ← Int64.ofInt_mul, ← Int64.ofInt_neg, pL_I, q_mx, q_mn, q_ab, q_abL, q_mnL, q_nn0, q_nn1, q_rr, q_b1, q_b0, q_T, q_F, q_iT, q_iF, q_d, q_in, q_wi, q_hC, q_hM, pT_i, pU_i, pS_i, pS_j, pS_0, Sum.elim_inl, Sum.elim_inr, if_pos, if_neg]
          · obtain ⟨H, hH⟩ := pr_H (by omega) M
            obtain ⟨w1, w2, k1, k2, hq⟩ := am_loop_2 (B1 := fun s : Int32 => f_X11_table_106 (Int32.ofInt y) (Int32.ofInt n) t a s σ1) (B2 := fun s : Int32 => f_X12_table_110 (Int32.ofInt m) (Int32.ofInt t) (Int32.ofInt y) (Int32.ofInt n) s (pS σ2 0)) (fun k s1 s2 => ∃ j : Nat, s1 = Int32.ofInt j ∧ s2 = Int32.ofInt j ∧ (j : Int) ≤ n ∧ k = (n - j).toNat) (fun r1 r2 => r1 = r2) (by
              rintro k s1 s2 ⟨j, rfl, rfl, jb, rfl⟩
              by_cases ce : (j : Int) < n
              · obtain ⟨q1, q2, q3, q4⟩ := hH true (y + j) (by omega) (by omega)
                have ev := g5 j (by omega)
                have ej : (60 * (t : Int) + j).toNat = 60 * t + j := by omega
                by_cases cv : σ1.2.1 902 t j = Int64.ofInt (H true (y + j))
                · right
                  refine ⟨Int32.ofInt ((j : Int) + 1), Int32.ofInt ((j : Int) + 1), (n - ((j + 1 : Nat) : Int)).toNat, ?_, ?_, by omega, j + 1, rfl, rfl, by omega, rfl⟩
                  · simp (disch := omega) only [f_X11_table_106, f_X8_at, d2, q1, cv, Option.bind_some, qi, ql, qI_lt, qI_le, qI_eq, qI_L, qI_ix, qL_lt, qL_eq, q_nat, q_cs, ← Int32.ofInt_add, ← Int32.ofInt_sub, ← Int32.ofInt_mul, ← Int32.ofInt_neg, ← Int64.ofInt_add, ← Int64.ofInt_sub, ← Int64.ofInt_mul, ← Int64.ofInt_neg, pL_I, q_mx, q_mn, q_ab, q_abL, q_mnL, q_nn0, q_nn1, q_rr, q_b1, q_b0, q_T, q_F, q_iT, q_iF, q_d, q_in, q_wi, q_hC, q_hM, pT_i, pU_i, pS_i, pS_j, pS_0, Sum.elim_inl, Sum.elim_inr, if_pos, if_neg]
                  · rw [ev] at cv
                    simp (disch := omega) only [f_X12_table_110, f_X12_numberOf, ej, q2, cv, Option.bind_some, qi, ql, qI_lt, qI_le, qI_eq, qI_L, qI_ix, qL_lt, qL_eq, q_nat, q_cs, ← Int32.ofInt_add, ← Int32.ofInt_sub, ← Int32.ofInt_mul, ← Int32.ofInt_neg, ← Int64.ofInt_add, ← Int64.ofInt_sub, ← Int64.ofInt_mul, ← Int64.ofInt_neg, pL_I, q_mx, q_mn, q_ab, q_abL, q_mnL, q_nn0, q_nn1, q_rr, q_b1, q_b0, q_T, q_F, q_iT, q_iF, q_d, q_in, q_wi, q_hC, q_hM, pT_i, pU_i, pS_i, pS_j, pS_0, Sum.elim_inl, Sum.elim_inr, if_pos, if_neg]
                · left
                  refine ⟨.inl (Int32.ofInt j), .inl (Int32.ofInt j), ?_, ?_, rfl⟩
                  · simp (disch := omega) only [f_X11_table_106, f_X8_at, d2, q1, if_neg cv, Option.bind_some, qi, ql, qI_lt, qI_le, qI_eq, qI_L, qI_ix, qL_lt, qL_eq, q_nat, q_cs, ← Int32.ofInt_add, ← Int32.ofInt_sub, ← Int32.ofInt_mul, ← Int32.ofInt_neg, ← Int64.ofInt_add, ← Int64.ofInt_sub, ← Int64.ofInt_mul, ← Int64.ofInt_neg, pL_I, q_mx, q_mn, q_ab, q_abL, q_mnL, q_nn0, q_nn1, q_rr, q_b1, q_b0, q_T, q_F, q_iT, q_iF, q_d, q_in, q_wi, q_hC, q_hM, pT_i, pU_i, pS_i, pS_j, pS_0, Sum.elim_inl, Sum.elim_inr, if_pos, if_neg]
                  · rw [ev] at cv
                    simp (disch := omega) only [f_X12_table_110, f_X12_numberOf, ej, q2, if_neg cv, Option.bind_some, qi, ql, qI_lt, qI_le, qI_eq, qI_L, qI_ix, qL_lt, qL_eq, q_nat, q_cs, ← Int32.ofInt_add, ← Int32.ofInt_sub, ← Int32.ofInt_mul, ← Int32.ofInt_neg, ← Int64.ofInt_add, ← Int64.ofInt_sub, ← Int64.ofInt_mul, ← Int64.ofInt_neg, pL_I, q_mx, q_mn, q_ab, q_abL, q_mnL, q_nn0, q_nn1, q_rr, q_b1, q_b0, q_T, q_F, q_iT, q_iF, q_d, q_in, q_wi, q_hC, q_hM, pT_i, pU_i, pS_i, pS_j, pS_0, Sum.elim_inl, Sum.elim_inr, if_pos, if_neg]
              · left
                refine ⟨.inr (), .inr (), ?_, ?_, rfl⟩
                · simp (disch := omega) only [f_X11_table_106, Option.bind_some, qi, ql, qI_lt, qI_le, qI_eq, qI_L, qI_ix, qL_lt, qL_eq, q_nat, q_cs, ← Int32.ofInt_add, ← Int32.ofInt_sub, ← Int32.ofInt_mul, ← Int32.ofInt_neg, ← Int64.ofInt_add, ← Int64.ofInt_sub, ← Int64.ofInt_mul, ← Int64.ofInt_neg, pL_I, q_mx, q_mn, q_ab, q_abL, q_mnL, q_nn0, q_nn1, q_rr, q_b1, q_b0, q_T, q_F, q_iT, q_iF, q_d, q_in, q_wi, q_hC, q_hM, pT_i, pU_i, pS_i, pS_j, pS_0, Sum.elim_inl, Sum.elim_inr, if_pos, if_neg]
                · simp (disch := omega) only [f_X12_table_110, Option.bind_some, qi, ql, qI_lt, qI_le, qI_eq, qI_L, qI_ix, qL_lt, qL_eq, q_nat, q_cs, ← Int32.ofInt_add, ← Int32.ofInt_sub, ← Int32.ofInt_mul, ← Int32.ofInt_neg, ← Int64.ofInt_add, ← Int64.ofInt_sub, ← Int64.ofInt_mul, ← Int64.ofInt_neg, pL_I, q_mx, q_mn, q_ab, q_abL, q_mnL, q_nn0, q_nn1, q_rr, q_b1, q_b0, q_T, q_F, q_iT, q_iF, q_d, q_in, q_wi, q_hC, q_hM, pT_i, pU_i, pS_i, pS_j, pS_0, Sum.elim_inl, Sum.elim_inr, if_pos, if_neg]) _ (Int32.ofInt 0) (Int32.ofInt 0) ⟨0, rfl, rfl, by omega, rfl⟩
            subst hq
            cases w1 with
            | inl t' =>
              refine pr_ro h t' 0 ?_ ?_
              · simp (disch := omega) only [f_X11_table, f_X11_answer, e1, f1, f_X8_isMissing, d1, rn, k1, Option.bind_some, qi, ql, qI_lt, qI_le, qI_eq, qI_L, qI_ix, qL_lt, qL_eq, q_nat, q_cs, ← Int32.ofInt_add, ← Int32.ofInt_sub, ← Int32.ofInt_mul, ← Int32.ofInt_neg, ← Int64.ofInt_add, ← Int64.ofInt_sub, ← Int64.ofInt_mul, ← Int64.ofInt_neg, pL_I, q_mx, q_mn, q_ab, q_abL, q_mnL, q_nn0, q_nn1, q_rr, q_b1, q_b0, q_T, q_F, q_iT, q_iF, q_d, q_in, q_wi, q_hC, q_hM, pT_i, pU_i, pS_i, pS_j, pS_0, Sum.elim_inl, Sum.elim_inr, if_pos, if_neg]
              · simp (disch := omega) only [f_X12_table, f_X12_isTray, f2, g4, k2, Option.bind_some, qi, ql, qI_lt, qI_le, qI_eq, qI_L, qI_ix, qL_lt, qL_eq, q_nat, q_cs, ← Int32.ofInt_add, ← Int32.ofInt_sub, ← Int32.ofInt_mul, ← Int32.ofInt_neg, ← Int64.ofInt_add, ← Int64.ofInt_sub, ← Int64.ofInt_mul, ← Int64.ofInt_neg, pL_I, q_mx, q_mn, q_ab, q_abL, q_mnL, q_nn0, q_nn1, q_rr, q_b1, q_b0, q_T, q_F, q_iT, q_iF, q_d, q_in, q_wi, q_hC, q_hM, pT_i, pU_i, pS_i, pS_j, pS_0, Sum.elim_inl, Sum.elim_inr, if_pos, if_neg]
            | inr t' =>
              refine pr_ro h (Int32.ofInt (-1)) 0 ?_ ?_
              · simp (disch := omega) only [f_X11_table, f_X11_answer, e1, f1, f_X8_isMissing, d1, rn, k1, Option.bind_some, qi, ql, qI_lt, qI_le, qI_eq, qI_L, qI_ix, qL_lt, qL_eq, q_nat, q_cs, ← Int32.ofInt_add, ← Int32.ofInt_sub, ← Int32.ofInt_mul, ← Int32.ofInt_neg, ← Int64.ofInt_add, ← Int64.ofInt_sub, ← Int64.ofInt_mul, ← Int64.ofInt_neg, pL_I, q_mx, q_mn, q_ab, q_abL, q_mnL, q_nn0, q_nn1, q_rr, q_b1, q_b0, q_T, q_F, q_iT, q_iF, q_d, q_in, q_wi, q_hC, q_hM, pT_i, pU_i, pS_i, pS_j, pS_0, Sum.elim_inl, Sum.elim_inr, if_pos, if_neg]
              · simp (disch := omega) only [f_X12_table, f_X12_isTray, f2, g4, k2, Option.bind_some, qi, ql, qI_lt, qI_le, qI_eq, qI_L, qI_ix, qL_lt, qL_eq, q_nat, q_cs, ← Int32.ofInt_add, ← Int32.ofInt_sub, ← Int32.ofInt_mul, ← Int32.ofInt_neg, ← Int64.ofInt_add, ← Int64.ofInt_sub, ← Int64.ofInt_mul, ← Int64.ofInt_neg, pL_I, q_mx, q_mn, q_ab, q_abL, q_mnL, q_nn0, q_nn1, q_rr, q_b1, q_b0, q_T, q_F, q_iT, q_iF, q_d, q_in, q_wi, q_hC, q_hM, pT_i, pU_i, pS_i, pS_j, pS_0, Sum.elim_inl, Sum.elim_inr, if_pos, if_neg]
        · refine pr_ro h (Int32.ofInt (-1)) 5 ?_ ?_
          · by_cases a1 : 1 ≤ n ∧ n ≤ 60
            · by_cases a2 : 0 ≤ y ∧ y ≤ 99999
              · simp (disch := omega) only [f_X11_table, f_X11_table_80, f_X11_none, e1, f1, f_X8_isMissing, d1, Option.bind_some, qi, ql, qI_lt, qI_le, qI_eq, qI_L, qI_ix, qL_lt, qL_eq, q_nat, q_cs, ← Int32.ofInt_add, ← Int32.ofInt_sub, ← Int32.ofInt_mul, ← Int32.ofInt_neg, ← Int64.ofInt_add, ← Int64.ofInt_sub, ← Int64.ofInt_mul, ← Int64.ofInt_neg, pL_I, q_mx, q_mn, q_ab, q_abL, q_mnL, q_nn0, q_nn1, q_rr, q_b1, q_b0, q_T, q_F, q_iT, q_iF, q_d, q_in, q_wi, q_hC, q_hM, pT_i, pU_i, pS_i, pS_j, pS_0, Sum.elim_inl, Sum.elim_inr, if_pos, if_neg]
              · simp (disch := omega) only [f_X11_table, f_X11_table_80, f_X11_none, e1, f1, f_X8_isMissing, d1, Option.bind_some, qi, ql, qI_lt, qI_le, qI_eq, qI_L, qI_ix, qL_lt, qL_eq, q_nat, q_cs, ← Int32.ofInt_add, ← Int32.ofInt_sub, ← Int32.ofInt_mul, ← Int32.ofInt_neg, ← Int64.ofInt_add, ← Int64.ofInt_sub, ← Int64.ofInt_mul, ← Int64.ofInt_neg, pL_I, q_mx, q_mn, q_ab, q_abL, q_mnL, q_nn0, q_nn1, q_rr, q_b1, q_b0, q_T, q_F, q_iT, q_iF, q_d, q_in, q_wi, q_hC, q_hM, pT_i, pU_i, pS_i, pS_j, pS_0, Sum.elim_inl, Sum.elim_inr, if_pos, if_neg]
            · simp (disch := omega) only [f_X11_table, f_X11_table_80, f_X11_none, e1, f1, f_X8_isMissing, d1, Option.bind_some, qi, ql, qI_lt, qI_le, qI_eq, qI_L, qI_ix, qL_lt, qL_eq, q_nat, q_cs, ← Int32.ofInt_add, ← Int32.ofInt_sub, ← Int32.ofInt_mul, ← Int32.ofInt_neg, ← Int64.ofInt_add, ← Int64.ofInt_sub, ← Int64.ofInt_mul, ← Int64.ofInt_neg, pL_I, q_mx, q_mn, q_ab, q_abL, q_mnL, q_nn0, q_nn1, q_rr, q_b1, q_b0, q_T, q_F, q_iT, q_iF, q_d, q_in, q_wi, q_hC, q_hM, pT_i, pU_i, pS_i, pS_j, pS_0, Sum.elim_inl, Sum.elim_inr, if_pos, if_neg]
          · by_cases a2 : 0 ≤ y ∧ y ≤ 99999
            · by_cases a1 : 1 ≤ n ∧ n ≤ 60
              · simp (disch := omega) only [f_X12_table, f_X12_table_84, f_X12_isTray, f_X12_refuse, f2, g4, Option.bind_some, qi, ql, qI_lt, qI_le, qI_eq, qI_L, qI_ix, qL_lt, qL_eq, q_nat, q_cs, ← Int32.ofInt_add, ← Int32.ofInt_sub, ← Int32.ofInt_mul, ← Int32.ofInt_neg, ← Int64.ofInt_add, ← Int64.ofInt_sub, ← Int64.ofInt_mul, ← Int64.ofInt_neg, pL_I, q_mx, q_mn, q_ab, q_abL, q_mnL, q_nn0, q_nn1, q_rr, q_b1, q_b0, q_T, q_F, q_iT, q_iF, q_d, q_in, q_wi, q_hC, q_hM, pT_i, pU_i, pS_i, pS_j, pS_0, Sum.elim_inl, Sum.elim_inr, if_pos, if_neg]
              · simp (disch := omega) only [f_X12_table, f_X12_table_84, f_X12_isTray, f_X12_refuse, f2, g4, Option.bind_some, qi, ql, qI_lt, qI_le, qI_eq, qI_L, qI_ix, qL_lt, qL_eq, q_nat, q_cs, ← Int32.ofInt_add, ← Int32.ofInt_sub, ← Int32.ofInt_mul, ← Int32.ofInt_neg, ← Int64.ofInt_add, ← Int64.ofInt_sub, ← Int64.ofInt_mul, ← Int64.ofInt_neg, pL_I, q_mx, q_mn, q_ab, q_abL, q_mnL, q_nn0, q_nn1, q_rr, q_b1, q_b0, q_T, q_F, q_iT, q_iF, q_d, q_in, q_wi, q_hC, q_hM, pT_i, pU_i, pS_i, pS_j, pS_0, Sum.elim_inl, Sum.elim_inr, if_pos, if_neg]
            · simp (disch := omega) only [f_X12_table, f_X12_table_84, f_X12_isTray, f_X12_refuse, f2, g4, Option.bind_some, qi, ql, qI_lt, qI_le, qI_eq, qI_L, qI_ix, qL_lt, qL_eq, q_nat, q_cs, ← Int32.ofInt_add, ← Int32.ofInt_sub, ← Int32.ofInt_mul, ← Int32.ofInt_neg, ← Int64.ofInt_add, ← Int64.ofInt_sub, ← Int64.ofInt_mul, ← Int64.ofInt_neg, pL_I, q_mx, q_mn, q_ab, q_abL, q_mnL, q_nn0, q_nn1, q_rr, q_b1, q_b0, q_T, q_F, q_iT, q_iF, q_d, q_in, q_wi, q_hC, q_hM, pT_i, pU_i, pS_i, pS_j, pS_0, Sum.elim_inl, Sum.elim_inr, if_pos, if_neg]
