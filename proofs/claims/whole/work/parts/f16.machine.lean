/-! ===== MACHINE, the call ===== -/
theorem ix3 : am_ix 3 2 = some 2 := by
  rw [qi, qI_ix (by omega) (by omega) (by omega)]
  rfl
set_option maxHeartbeats 2000000 in
theorem po_8 : am_op_8 pr_Rel := by
  intro σ1 σ2 h v1 v2
  obtain ⟨x, x1, x2, rfl⟩ := q_ex v1
  obtain ⟨k, k1, k2, rfl⟩ := q_ex v2
  have X := h.2.S 0
  obtain ⟨L, L0, l1, l2, l3⟩ := (show pr_tape σ1 (pS σ2 0) from X 2 (by omega))
  have l2' : (pS σ2 0).1 12 0 8 = Int32.ofInt L := l2
  rcases pr_m X x1 x2 with ⟨cm, em, eM⟩ | ⟨m, a, hm, ha, rfl, hr, em, eM, -⟩
  · refine pr_ro h (Int32.ofInt (-1)) 2 ?_ ?_
    · simp (disch := omega) only [f_X11_machine, em, f_X11_none, Option.bind_some, qi, ql, qI_lt, qI_le, qI_eq, qI_L, qI_ix, qL_lt, qL_eq, q_nat, q_cs, ← Int32.ofInt_add, ← Int32.ofInt_sub, ← Int32.ofInt_mul, ← Int32.ofInt_neg, ← Int64.ofInt_add, ← Int64.ofInt_sub, ← Int64.ofInt_mul, ← Int64.ofInt_neg, pL_I, q_mx, q_mn, q_ab, q_abL, q_mnL, q_nn0, q_nn1, q_rr, q_b1, q_b0, q_T, q_F, q_iT, q_iF, q_d, q_in, q_wi, q_hC, q_hM, pT_i, pU_i, pS_i, pS_j, pS_0, Sum.elim_inl, Sum.elim_inr, if_pos, if_neg]
    · have eM' := eM (pS σ2 0)
      refine st_bs (x := pU σ2) (st_bs (x := pS σ2 0) ?_)
      repeat (first | with_reducible refine st_pos rfl ?_ | with_reducible refine st_n0 ?_ | with_reducible refine st_neg Bool.false_ne_true ?_ | (with_reducible refine st_qin ?h1 ?h2 ?h3 ?h4 ?h5 ?h6 ?_; (case h1 => omega); (case h2 => omega); (case h3 => omega); (case h4 => omega); (case h5 => omega); (case h6 => omega)) | (with_reducible refine st_qwi ?h1 ?h2 ?h3 ?h4 ?h5 ?h6 ?_; (case h1 => omega); (case h2 => omega); (case h3 => omega); (case h4 => omega); (case h5 => omega); (case h6 => omega)) | (with_reducible refine st_qhC ?h1 ?h2 ?_; (case h1 => omega); (case h2 => omega)) | (with_reducible refine st_qhM ?h1 ?h2 ?_; (case h1 => omega); (case h2 => omega)) | with_reducible refine st_bs ?_ | (with_reducible refine st_in ?h1 ?h2 ?_; (case h1 => omega); (case h2 => omega)) | (with_reducible refine st_ix ?h1 ?h2 ?h3 ?_; (case h1 => omega); (case h2 => omega); (case h3 => omega)) | (with_reducible refine st_nn ?h1 ?_; (case h1 => omega)) | with_reducible refine st_bd (eM') ?_ | with_reducible refine st_bd (eM' _) ?_ | (with_reducible refine st_neg ?h1 ?_; case h1 => first | omega | (simp (disch := omega) only [eM', Option.bind_some, qi, ql, qI_lt, qI_le, qI_eq, qI_L, qI_ix, qL_lt, qL_eq, q_nat, q_cs, ← Int32.ofInt_add, ← Int32.ofInt_sub, ← Int32.ofInt_mul, ← Int32.ofInt_neg, ← Int64.ofInt_add, ← Int64.ofInt_sub, ← Int64.ofInt_mul, ← Int64.ofInt_neg, pL_I, q_mx, q_mn, q_ab, q_abL, q_mnL, q_nn0, q_nn1, q_rr, q_b1, q_b0, q_T, q_F, q_iT, q_iF, q_d, q_in, q_wi, q_hC, q_hM, pT_i, pU_i, pS_i, pS_j, pS_0, Sum.elim_inl, Sum.elim_inr, if_pos, if_neg] <;> omega)) | (with_reducible refine st_pos ?h1 ?_; case h1 => first | omega | (simp (disch := omega) only [eM', Option.bind_some, qi, ql, qI_lt, qI_le, qI_eq, qI_L, qI_ix, qL_lt, qL_eq, q_nat, q_cs, ← Int32.ofInt_add, ← Int32.ofInt_sub, ← Int32.ofInt_mul, ← Int32.ofInt_neg, ← Int64.ofInt_add, ← Int64.ofInt_sub, ← Int64.ofInt_mul, ← Int64.ofInt_neg, pL_I, q_mx, q_mn, q_ab, q_abL, q_mnL, q_nn0, q_nn1, q_rr, q_b1, q_b0, q_T, q_F, q_iT, q_iF, q_d, q_in, q_wi, q_hC, q_hM, pT_i, pU_i, pS_i, pS_j, pS_0, Sum.elim_inl, Sum.elim_inr, if_pos, if_neg] <;> omega)))
      simp (disch := omega) only [f_X12_refuse, Option.bind_some, qi, ql, qI_lt, qI_le, qI_eq, qI_L, qI_ix, qL_lt, qL_eq, q_nat, q_cs, ← Int32.ofInt_add, ← Int32.ofInt_sub, ← Int32.ofInt_mul, ← Int32.ofInt_neg, ← Int64.ofInt_add, ← Int64.ofInt_sub, ← Int64.ofInt_mul, ← Int64.ofInt_neg, pL_I, q_mx, q_mn, q_ab, q_abL, q_mnL, q_nn0, q_nn1, q_rr, q_b1, q_b0, q_T, q_F, q_iT, q_iF, q_d, q_in, q_wi, q_hC, q_hM, pT_i, pU_i, pS_i, pS_j, pS_0, Sum.elim_inl, Sum.elim_inr, if_pos, if_neg]
  have eM' := eM (pS σ2 0)
  by_cases c0 : 0 ≤ k ∧ k ≤ L
  rotate_left
  · refine pr_ro h (Int32.ofInt (-1)) 5 ?_ ?_
    · unfold f_X11_machine
      repeat (first | with_reducible refine st_pos rfl ?_ | with_reducible refine st_n0 ?_ | with_reducible refine st_neg Bool.false_ne_true ?_ | (with_reducible refine st_qin ?h1 ?h2 ?h3 ?h4 ?h5 ?h6 ?_; (case h1 => omega); (case h2 => omega); (case h3 => omega); (case h4 => omega); (case h5 => omega); (case h6 => omega)) | (with_reducible refine st_qwi ?h1 ?h2 ?h3 ?h4 ?h5 ?h6 ?_; (case h1 => omega); (case h2 => omega); (case h3 => omega); (case h4 => omega); (case h5 => omega); (case h6 => omega)) | (with_reducible refine st_qhC ?h1 ?h2 ?_; (case h1 => omega); (case h2 => omega)) | (with_reducible refine st_qhM ?h1 ?h2 ?_; (case h1 => omega); (case h2 => omega)) | with_reducible refine st_bs ?_ | (with_reducible refine st_in ?h1 ?h2 ?_; (case h1 => omega); (case h2 => omega)) | (with_reducible refine st_ix ?h1 ?h2 ?h3 ?_; (case h1 => omega); (case h2 => omega); (case h3 => omega)) | (with_reducible refine st_nn ?h1 ?_; (case h1 => omega)) | with_reducible refine st_bd (em) ?_ | with_reducible refine st_bd (em _) ?_ | (with_reducible refine st_neg ?h1 ?_; case h1 => first | omega | (simp (disch := omega) only [em, Option.bind_some, qi, ql, qI_lt, qI_le, qI_eq, qI_L, qI_ix, qL_lt, qL_eq, q_nat, q_cs, ← Int32.ofInt_add, ← Int32.ofInt_sub, ← Int32.ofInt_mul, ← Int32.ofInt_neg, ← Int64.ofInt_add, ← Int64.ofInt_sub, ← Int64.ofInt_mul, ← Int64.ofInt_neg, pL_I, q_mx, q_mn, q_ab, q_abL, q_mnL, q_nn0, q_nn1, q_rr, q_b1, q_b0, q_T, q_F, q_iT, q_iF, q_d, q_in, q_wi, q_hC, q_hM, pT_i, pU_i, pS_i, pS_j, pS_0, Sum.elim_inl, Sum.elim_inr, if_pos, if_neg] <;> omega)) | (with_reducible refine st_pos ?h1 ?_; case h1 => first | omega | (simp (disch := omega) only [em, Option.bind_some, qi, ql, qI_lt, qI_le, qI_eq, qI_L, qI_ix, qL_lt, qL_eq, q_nat, q_cs, ← Int32.ofInt_add, ← Int32.ofInt_sub, ← Int32.ofInt_mul, ← Int32.ofInt_neg, ← Int64.ofInt_add, ← Int64.ofInt_sub, ← Int64.ofInt_mul, ← Int64.ofInt_neg, pL_I, q_mx, q_mn, q_ab, q_abL, q_mnL, q_nn0, q_nn1, q_rr, q_b1, q_b0, q_T, q_F, q_iT, q_iF, q_d, q_in, q_wi, q_hC, q_hM, pT_i, pU_i, pS_i, pS_j, pS_0, Sum.elim_inl, Sum.elim_inr, if_pos, if_neg] <;> omega)))
      by_cases c1 : k < 0
      · repeat (first | with_reducible refine st_pos rfl ?_ | with_reducible refine st_n0 ?_ | with_reducible refine st_neg Bool.false_ne_true ?_ | (with_reducible refine st_qin ?h1 ?h2 ?h3 ?h4 ?h5 ?h6 ?_; (case h1 => omega); (case h2 => omega); (case h3 => omega); (case h4 => omega); (case h5 => omega); (case h6 => omega)) | (with_reducible refine st_qwi ?h1 ?h2 ?h3 ?h4 ?h5 ?h6 ?_; (case h1 => omega); (case h2 => omega); (case h3 => omega); (case h4 => omega); (case h5 => omega); (case h6 => omega)) | (with_reducible refine st_qhC ?h1 ?h2 ?_; (case h1 => omega); (case h2 => omega)) | (with_reducible refine st_qhM ?h1 ?h2 ?_; (case h1 => omega); (case h2 => omega)) | with_reducible refine st_bs ?_ | (with_reducible refine st_in ?h1 ?h2 ?_; (case h1 => omega); (case h2 => omega)) | (with_reducible refine st_ix ?h1 ?h2 ?h3 ?_; (case h1 => omega); (case h2 => omega); (case h3 => omega)) | (with_reducible refine st_nn ?h1 ?_; (case h1 => omega)) | with_reducible refine st_bd (l1) ?_ | with_reducible refine st_bd (l1 _) ?_ | (with_reducible refine st_neg ?h1 ?_; case h1 => first | omega | (simp (disch := omega) only [l1, Option.bind_some, qi, ql, qI_lt, qI_le, qI_eq, qI_L, qI_ix, qL_lt, qL_eq, q_nat, q_cs, ← Int32.ofInt_add, ← Int32.ofInt_sub, ← Int32.ofInt_mul, ← Int32.ofInt_neg, ← Int64.ofInt_add, ← Int64.ofInt_sub, ← Int64.ofInt_mul, ← Int64.ofInt_neg, pL_I, q_mx, q_mn, q_ab, q_abL, q_mnL, q_nn0, q_nn1, q_rr, q_b1, q_b0, q_T, q_F, q_iT, q_iF, q_d, q_in, q_wi, q_hC, q_hM, pT_i, pU_i, pS_i, pS_j, pS_0, Sum.elim_inl, Sum.elim_inr, if_pos, if_neg] <;> omega)) | (with_reducible refine st_pos ?h1 ?_; case h1 => first | omega | (simp (disch := omega) only [l1, Option.bind_some, qi, ql, qI_lt, qI_le, qI_eq, qI_L, qI_ix, qL_lt, qL_eq, q_nat, q_cs, ← Int32.ofInt_add, ← Int32.ofInt_sub, ← Int32.ofInt_mul, ← Int32.ofInt_neg, ← Int64.ofInt_add, ← Int64.ofInt_sub, ← Int64.ofInt_mul, ← Int64.ofInt_neg, pL_I, q_mx, q_mn, q_ab, q_abL, q_mnL, q_nn0, q_nn1, q_rr, q_b1, q_b0, q_T, q_F, q_iT, q_iF, q_d, q_in, q_wi, q_hC, q_hM, pT_i, pU_i, pS_i, pS_j, pS_0, Sum.elim_inl, Sum.elim_inr, if_pos, if_neg] <;> omega)))
        simp (disch := omega) only [f_X11_machine_29, f_X11_none, Option.bind_some, qi, ql, qI_lt, qI_le, qI_eq, qI_L, qI_ix, qL_lt, qL_eq, q_nat, q_cs, ← Int32.ofInt_add, ← Int32.ofInt_sub, ← Int32.ofInt_mul, ← Int32.ofInt_neg, ← Int64.ofInt_add, ← Int64.ofInt_sub, ← Int64.ofInt_mul, ← Int64.ofInt_neg, pL_I, q_mx, q_mn, q_ab, q_abL, q_mnL, q_nn0, q_nn1, q_rr, q_b1, q_b0, q_T, q_F, q_iT, q_iF, q_d, q_in, q_wi, q_hC, q_hM, pT_i, pU_i, pS_i, pS_j, pS_0, Sum.elim_inl, Sum.elim_inr, if_pos, if_neg]
      · repeat (first | with_reducible refine st_pos rfl ?_ | with_reducible refine st_n0 ?_ | with_reducible refine st_neg Bool.false_ne_true ?_ | (with_reducible refine st_qin ?h1 ?h2 ?h3 ?h4 ?h5 ?h6 ?_; (case h1 => omega); (case h2 => omega); (case h3 => omega); (case h4 => omega); (case h5 => omega); (case h6 => omega)) | (with_reducible refine st_qwi ?h1 ?h2 ?h3 ?h4 ?h5 ?h6 ?_; (case h1 => omega); (case h2 => omega); (case h3 => omega); (case h4 => omega); (case h5 => omega); (case h6 => omega)) | (with_reducible refine st_qhC ?h1 ?h2 ?_; (case h1 => omega); (case h2 => omega)) | (with_reducible refine st_qhM ?h1 ?h2 ?_; (case h1 => omega); (case h2 => omega)) | with_reducible refine st_bs ?_ | (with_reducible refine st_in ?h1 ?h2 ?_; (case h1 => omega); (case h2 => omega)) | (with_reducible refine st_ix ?h1 ?h2 ?h3 ?_; (case h1 => omega); (case h2 => omega); (case h3 => omega)) | (with_reducible refine st_nn ?h1 ?_; (case h1 => omega)) | with_reducible refine st_bd (l1) ?_ | with_reducible refine st_bd (l1 _) ?_ | (with_reducible refine st_neg ?h1 ?_; case h1 => first | omega | (simp (disch := omega) only [l1, Option.bind_some, qi, ql, qI_lt, qI_le, qI_eq, qI_L, qI_ix, qL_lt, qL_eq, q_nat, q_cs, ← Int32.ofInt_add, ← Int32.ofInt_sub, ← Int32.ofInt_mul, ← Int32.ofInt_neg, ← Int64.ofInt_add, ← Int64.ofInt_sub, ← Int64.ofInt_mul, ← Int64.ofInt_neg, pL_I, q_mx, q_mn, q_ab, q_abL, q_mnL, q_nn0, q_nn1, q_rr, q_b1, q_b0, q_T, q_F, q_iT, q_iF, q_d, q_in, q_wi, q_hC, q_hM, pT_i, pU_i, pS_i, pS_j, pS_0, Sum.elim_inl, Sum.elim_inr, if_pos, if_neg] <;> omega)) | (with_reducible refine st_pos ?h1 ?_; case h1 => first | omega | (simp (disch := omega) only [l1, Option.bind_some, qi, ql, qI_lt, qI_le, qI_eq, qI_L, qI_ix, qL_lt, qL_eq, q_nat, q_cs, ← Int32.ofInt_add, ← Int32.ofInt_sub, ← Int32.ofInt_mul, ← Int32.ofInt_neg, ← Int64.ofInt_add, ← Int64.ofInt_sub, ← Int64.ofInt_mul, ← Int64.ofInt_neg, pL_I, q_mx, q_mn, q_ab, q_abL, q_mnL, q_nn0, q_nn1, q_rr, q_b1, q_b0, q_T, q_F, q_iT, q_iF, q_d, q_in, q_wi, q_hC, q_hM, pT_i, pU_i, pS_i, pS_j, pS_0, Sum.elim_inl, Sum.elim_inr, if_pos, if_neg] <;> omega)))
        simp (disch := omega) only [f_X11_machine_29, f_X11_none, Option.bind_some, qi, ql, qI_lt, qI_le, qI_eq, qI_L, qI_ix, qL_lt, qL_eq, q_nat, q_cs, ← Int32.ofInt_add, ← Int32.ofInt_sub, ← Int32.ofInt_mul, ← Int32.ofInt_neg, ← Int64.ofInt_add, ← Int64.ofInt_sub, ← Int64.ofInt_mul, ← Int64.ofInt_neg, pL_I, q_mx, q_mn, q_ab, q_abL, q_mnL, q_nn0, q_nn1, q_rr, q_b1, q_b0, q_T, q_F, q_iT, q_iF, q_d, q_in, q_wi, q_hC, q_hM, pT_i, pU_i, pS_i, pS_j, pS_0, Sum.elim_inl, Sum.elim_inr, if_pos, if_neg]
    · refine st_bs (x := pU σ2) (st_bs (x := pS σ2 0) ?_)
      by_cases c1 : k < 0
      · repeat (first | with_reducible refine st_pos rfl ?_ | with_reducible refine st_n0 ?_ | with_reducible refine st_neg Bool.false_ne_true ?_ | (with_reducible refine st_qin ?h1 ?h2 ?h3 ?h4 ?h5 ?h6 ?_; (case h1 => omega); (case h2 => omega); (case h3 => omega); (case h4 => omega); (case h5 => omega); (case h6 => omega)) | (with_reducible refine st_qwi ?h1 ?h2 ?h3 ?h4 ?h5 ?h6 ?_; (case h1 => omega); (case h2 => omega); (case h3 => omega); (case h4 => omega); (case h5 => omega); (case h6 => omega)) | (with_reducible refine st_qhC ?h1 ?h2 ?_; (case h1 => omega); (case h2 => omega)) | (with_reducible refine st_qhM ?h1 ?h2 ?_; (case h1 => omega); (case h2 => omega)) | with_reducible refine st_bs ?_ | (with_reducible refine st_in ?h1 ?h2 ?_; (case h1 => omega); (case h2 => omega)) | (with_reducible refine st_ix ?h1 ?h2 ?h3 ?_; (case h1 => omega); (case h2 => omega); (case h3 => omega)) | (with_reducible refine st_nn ?h1 ?_; (case h1 => omega)) | with_reducible refine st_bd (eM') ?_ | with_reducible refine st_bd (eM' _) ?_ | with_reducible refine st_bd (l2') ?_ | with_reducible refine st_bd (l2' _) ?_ | (with_reducible refine st_neg ?h1 ?_; case h1 => first | omega | (simp (disch := omega) only [eM', l2', Option.bind_some, qi, ql, qI_lt, qI_le, qI_eq, qI_L, qI_ix, qL_lt, qL_eq, q_nat, q_cs, ← Int32.ofInt_add, ← Int32.ofInt_sub, ← Int32.ofInt_mul, ← Int32.ofInt_neg, ← Int64.ofInt_add, ← Int64.ofInt_sub, ← Int64.ofInt_mul, ← Int64.ofInt_neg, pL_I, q_mx, q_mn, q_ab, q_abL, q_mnL, q_nn0, q_nn1, q_rr, q_b1, q_b0, q_T, q_F, q_iT, q_iF, q_d, q_in, q_wi, q_hC, q_hM, pT_i, pU_i, pS_i, pS_j, pS_0, Sum.elim_inl, Sum.elim_inr, if_pos, if_neg] <;> omega)) | (with_reducible refine st_pos ?h1 ?_; case h1 => first | omega | (simp (disch := omega) only [eM', l2', Option.bind_some, qi, ql, qI_lt, qI_le, qI_eq, qI_L, qI_ix, qL_lt, qL_eq, q_nat, q_cs, ← Int32.ofInt_add, ← Int32.ofInt_sub, ← Int32.ofInt_mul, ← Int32.ofInt_neg, ← Int64.ofInt_add, ← Int64.ofInt_sub, ← Int64.ofInt_mul, ← Int64.ofInt_neg, pL_I, q_mx, q_mn, q_ab, q_abL, q_mnL, q_nn0, q_nn1, q_rr, q_b1, q_b0, q_T, q_F, q_iT, q_iF, q_d, q_in, q_wi, q_hC, q_hM, pT_i, pU_i, pS_i, pS_j, pS_0, Sum.elim_inl, Sum.elim_inr, if_pos, if_neg] <;> omega)))
        simp (disch := omega) only [f_X12_machine_35, f_X12_refuse, Option.bind_some, qi, ql, qI_lt, qI_le, qI_eq, qI_L, qI_ix, qL_lt, qL_eq, q_nat, q_cs, ← Int32.ofInt_add, ← Int32.ofInt_sub, ← Int32.ofInt_mul, ← Int32.ofInt_neg, ← Int64.ofInt_add, ← Int64.ofInt_sub, ← Int64.ofInt_mul, ← Int64.ofInt_neg, pL_I, q_mx, q_mn, q_ab, q_abL, q_mnL, q_nn0, q_nn1, q_rr, q_b1, q_b0, q_T, q_F, q_iT, q_iF, q_d, q_in, q_wi, q_hC, q_hM, pT_i, pU_i, pS_i, pS_j, pS_0, Sum.elim_inl, Sum.elim_inr, if_pos, if_neg]
      · repeat (first | with_reducible refine st_pos rfl ?_ | with_reducible refine st_n0 ?_ | with_reducible refine st_neg Bool.false_ne_true ?_ | (with_reducible refine st_qin ?h1 ?h2 ?h3 ?h4 ?h5 ?h6 ?_; (case h1 => omega); (case h2 => omega); (case h3 => omega); (case h4 => omega); (case h5 => omega); (case h6 => omega)) | (with_reducible refine st_qwi ?h1 ?h2 ?h3 ?h4 ?h5 ?h6 ?_; (case h1 => omega); (case h2 => omega); (case h3 => omega); (case h4 => omega); (case h5 => omega); (case h6 => omega)) | (with_reducible refine st_qhC ?h1 ?h2 ?_; (case h1 => omega); (case h2 => omega)) | (with_reducible refine st_qhM ?h1 ?h2 ?_; (case h1 => omega); (case h2 => omega)) | with_reducible refine st_bs ?_ | (with_reducible refine st_in ?h1 ?h2 ?_; (case h1 => omega); (case h2 => omega)) | (with_reducible refine st_ix ?h1 ?h2 ?h3 ?_; (case h1 => omega); (case h2 => omega); (case h3 => omega)) | (with_reducible refine st_nn ?h1 ?_; (case h1 => omega)) | with_reducible refine st_bd (eM') ?_ | with_reducible refine st_bd (eM' _) ?_ | with_reducible refine st_bd (l2') ?_ | with_reducible refine st_bd (l2' _) ?_ | (with_reducible refine st_neg ?h1 ?_; case h1 => first | omega | (simp (disch := omega) only [eM', l2', Option.bind_some, qi, ql, qI_lt, qI_le, qI_eq, qI_L, qI_ix, qL_lt, qL_eq, q_nat, q_cs, ← Int32.ofInt_add, ← Int32.ofInt_sub, ← Int32.ofInt_mul, ← Int32.ofInt_neg, ← Int64.ofInt_add, ← Int64.ofInt_sub, ← Int64.ofInt_mul, ← Int64.ofInt_neg, pL_I, q_mx, q_mn, q_ab, q_abL, q_mnL, q_nn0, q_nn1, q_rr, q_b1, q_b0, q_T, q_F, q_iT, q_iF, q_d, q_in, q_wi, q_hC, q_hM, pT_i, pU_i, pS_i, pS_j, pS_0, Sum.elim_inl, Sum.elim_inr, if_pos, if_neg] <;> omega)) | (with_reducible refine st_pos ?h1 ?_; case h1 => first | omega | (simp (disch := omega) only [eM', l2', Option.bind_some, qi, ql, qI_lt, qI_le, qI_eq, qI_L, qI_ix, qL_lt, qL_eq, q_nat, q_cs, ← Int32.ofInt_add, ← Int32.ofInt_sub, ← Int32.ofInt_mul, ← Int32.ofInt_neg, ← Int64.ofInt_add, ← Int64.ofInt_sub, ← Int64.ofInt_mul, ← Int64.ofInt_neg, pL_I, q_mx, q_mn, q_ab, q_abL, q_mnL, q_nn0, q_nn1, q_rr, q_b1, q_b0, q_T, q_F, q_iT, q_iF, q_d, q_in, q_wi, q_hC, q_hM, pT_i, pU_i, pS_i, pS_j, pS_0, Sum.elim_inl, Sum.elim_inr, if_pos, if_neg] <;> omega)))
        simp (disch := omega) only [f_X12_machine_35, f_X12_refuse, Option.bind_some, qi, ql, qI_lt, qI_le, qI_eq, qI_L, qI_ix, qL_lt, qL_eq, q_nat, q_cs, ← Int32.ofInt_add, ← Int32.ofInt_sub, ← Int32.ofInt_mul, ← Int32.ofInt_neg, ← Int64.ofInt_add, ← Int64.ofInt_sub, ← Int64.ofInt_mul, ← Int64.ofInt_neg, pL_I, q_mx, q_mn, q_ab, q_abL, q_mnL, q_nn0, q_nn1, q_rr, q_b1, q_b0, q_T, q_F, q_iT, q_iF, q_d, q_in, q_wi, q_hC, q_hM, pT_i, pU_i, pS_i, pS_j, pS_0, Sum.elim_inl, Sum.elim_inr, if_pos, if_neg]
  obtain ⟨n, rfl⟩ : ∃ n : Nat, k = n := ⟨k.toNat, by omega⟩
  -- the bytes
  obtain ⟨b, hb⟩ : ∃ b : Nat → Int, ∀ j, j < n → (-128 ≤ b j ∧ b j ≤ 127) ∧ σ1.1 600 0 j = Int32.ofInt (b j) ∧ (pS σ2 0).1 1307 0 j = Int32.ofInt (b j) := by
    refine ⟨fun j => (σ1.1 600 0 j).toInt, fun j hj => ?_⟩
    obtain ⟨v, vb, e1, e2⟩ := l3 j (by omega)
    have et : (σ1.1 600 0 j).toInt = v := by rw [e1]; exact pI_to ⟨by omega, by omega⟩
    simp only [et]
    exact ⟨vb, e1, e2⟩
  -- the class begins
  obtain ⟨β, hβ⟩ : ∃ β : am_H, β = am_wI (am_wI (am_wI (am_wI σ1 5 0 2 (Int32.ofInt (n : Int))) 5 0 5 (Int32.ofInt 0)) 5 0 7 (Int32.ofInt 0)) 5 0 8 (Int32.ofInt (-1)) := ⟨_, rfl⟩
  have Qβ : qf mlC σ1 β := by rw [hβ]; exact (((qf.rf.wI rfl).wI rfl).wI rfl).wI rfl
  have Cβ : tC β n b := ⟨by omega, by rw [hβ]; rfl, fun j hj => ⟨(hb j hj).1, by rw [hβ]; exact (hb j hj).2.1⟩⟩
  -- the reference begins
  obtain ⟨γ, hγ⟩ : ∃ γ : am_H, γ = am_wI (am_wI (am_wI (am_wI (am_wI (am_wI (am_wI (am_wI (am_wI (am_wI (pS σ2 0) 12 0 9 (Int32.ofInt (n : Int))) 12 0 8 0) 12 0 16 0) 12 0 12 0) 1320 0 2 0) 1321 0 2 0) 1322 0 2 0) 1323 0 2 0) 12 0 27 (am_b false)) 12 0 28 (am_b false) := ⟨_, rfl⟩
  have Qγ : qf mlM (pS σ2 0) γ := by rw [hγ]; exact (((((((((qf.rf.wI rfl).wI rfl).wI rfl).wI rfl).wI rfl).wI rfl).wI rfl).wI rfl).wI rfl).wI rfl
  have Mγ : tM γ n b := ⟨by omega, by rw [hγ]; rfl, fun j hj => ⟨(hb j hj).1, by rw [hγ]; exact (hb j hj).2.2⟩⟩
  obtain ⟨τ1, τ2, s, p, e, t1, t2, t3, t4, t5, t6⟩ := tk_from (q := 0) Cβ Mγ (by rw [hβ]; rfl) (by rw [hγ]; rfl) (by omega) (by rw [hβ]; exact ⟨rfl, rfl⟩)
  have gτ : gd τ2 := ((t6 12 0 12 rfl).1).trans (by rw [hγ]; rfl)
  -- the machines
  obtain ⟨a0, a1, a2, ⟨b0, b1, b2⟩, ⟨n01, n02, n12⟩, r0, r1, r2, m0, m1⟩ := (show pr_machs σ1 (pS σ2 0) from X 4 (by omega))
  have Q5 : qf mlC σ1 τ1 := Qβ.tr (t5.mo (by decide))
  obtain ⟨μ, hμ⟩ : ∃ μ : am_H, μ = am_wI (am_wI (am_wI (am_wI τ1 3 a2 1 0) 3 a2 4 0) 3 a2 5 (-1)) 3 a2 6 (-1) := ⟨_, rfl⟩
  have Qμ : qf [(3, 1), (3, 4), (3, 5), (3, 6)] τ1 μ := by rw [hμ]; exact (((qf.rf.wI rfl).wI rfl).wI rfl).wI rfl
  have Zμ : qz (zC a2) τ1 μ := by rw [hμ]; exact (((qz.rf.wI zC_m.1).wI zC_m.1).wI zC_m.1).wI zC_m.1
  have tμ := t3.q Qμ (by decide +kernel) (qf.rf (l := [])) (by decide +kernel)
  have mμ : mz μ τ2 a2 0 (fun _ _ => 0) (fun _ => []) 0 (fun _ => 0) (fun _ => 0) (-1) (-1) := by
    refine ⟨⟨by omega, by rw [hμ]; simp [am_wI, am_u3], ((t6 1320 0 2 rfl).1).trans (by rw [hγ]; rfl)⟩, fun i hi => by omega, ⟨by omega, by rw [hμ]; simp [am_wI, am_u3], ((t6 1321 0 2 rfl).1).trans (by rw [hγ]; rfl), fun k hk => by omega⟩, ⟨by rw [hμ]; simp [am_wI, am_u3], by omega, ((t6 1322 0 2 rfl).1).trans (by rw [hγ]; rfl), ((t6 12 0 27 rfl).1).trans (by rw [hγ]; rfl)⟩, ⟨by rw [hμ]; simp [am_wI, am_u3], by omega, ((t6 1323 0 2 rfl).1).trans (by rw [hγ]; rfl), ((t6 12 0 28 rfl).1).trans (by rw [hγ]; rfl)⟩⟩
  have r2τ : τ1.2.2 11 0 6 = some a2 := ((t5 11 0 6 rfl).2.2).trans (by rw [hβ]; exact r2)
  have rr2 : am_rr 3 (τ1.2.2 11 0 6) = some a2 := by rw [r2τ]; exact q_rr b2
  have bg : f_X5_begin (Int32.ofInt (n : Int)) σ1 = some τ1 := by
    have em : max 0 (min (n : Int) L) = n := by omega
    simp (disch := omega) only [f_X5_begin, l1, em, Option.bind_some, qi, ql, qI_lt, qI_le, qI_eq, qI_L, qI_ix, qL_lt, qL_eq, q_nat, q_cs, ← Int32.ofInt_add, ← Int32.ofInt_sub, ← Int32.ofInt_mul, ← Int32.ofInt_neg, ← Int64.ofInt_add, ← Int64.ofInt_sub, ← Int64.ofInt_mul, ← Int64.ofInt_neg, pL_I, q_mx, q_mn, q_ab, q_abL, q_mnL, q_nn0, q_nn1, q_rr, q_b1, q_b0, q_T, q_F, q_iT, q_iF, q_d, q_in, q_wi, q_hC, q_hM, pT_i, pU_i, pS_i, pS_j, pS_0, Sum.elim_inl, Sum.elim_inr, if_pos, if_neg]
    rw [← hβ, t1]
    rfl
  -- both as far as the texts are read
  have eC : f_X11_machine (Int32.ofInt (m : Int)) (Int32.ofInt (n : Int)) σ1 = (mcC a2 (Int32.ofInt 0) μ).bind fun p8 => (f_X5_empty p8.2).bind fun p9 => if p8.1 = true then ((am_ix 2 (Int32.ofInt (m : Int))).bind fun j11 => (am_rr 3 (p9.2.2 1205 0 j11)).bind fun a12 => (am_rr 3 (p9.2.2 11 0 6)).bind fun a13 => (am_ix 2 (Int32.ofInt (m : Int))).bind fun j14 => (some (am_wR p9 1205 0 j14 (some a13))).bind fun s15 => (some (am_wR s15 11 0 6 (some a12))).bind fun s16 => (am_ix 2 (Int32.ofInt (m : Int))).bind fun j17 => (am_rr 3 (s16.2.2 1205 0 j17)).bind fun a18 => (f_X11_answer (s16.1 3 a18 1) s16).bind fun p19 => some (p19.1, p19.2)) else (f_X11_none 10 p9).bind fun p20 => some (p20.1, p20.2) := by
    unfold f_X11_machine
    repeat (first | with_reducible refine st_pos rfl ?_ | with_reducible refine st_n0 ?_ | with_reducible refine st_neg Bool.false_ne_true ?_ | (with_reducible refine st_qin ?h1 ?h2 ?h3 ?h4 ?h5 ?h6 ?_; (case h1 => omega); (case h2 => omega); (case h3 => omega); (case h4 => omega); (case h5 => omega); (case h6 => omega)) | (with_reducible refine st_qwi ?h1 ?h2 ?h3 ?h4 ?h5 ?h6 ?_; (case h1 => omega); (case h2 => omega); (case h3 => omega); (case h4 => omega); (case h5 => omega); (case h6 => omega)) | (with_reducible refine st_qhC ?h1 ?h2 ?_; (case h1 => omega); (case h2 => omega)) | (with_reducible refine st_qhM ?h1 ?h2 ?_; (case h1 => omega); (case h2 => omega)) | with_reducible refine st_bs ?_ | (with_reducible refine st_in ?h1 ?h2 ?_; (case h1 => omega); (case h2 => omega)) | (with_reducible refine st_ix ?h1 ?h2 ?h3 ?_; (case h1 => omega); (case h2 => omega); (case h3 => omega)) | (with_reducible refine st_nn ?h1 ?_; (case h1 => omega)) | with_reducible refine st_bd (em) ?_ | with_reducible refine st_bd (em _) ?_ | with_reducible refine st_bd (l1) ?_ | with_reducible refine st_bd (l1 _) ?_ | with_reducible refine st_bd (bg) ?_ | with_reducible refine st_bd (bg _) ?_ | with_reducible refine st_bd (rr2) ?_ | with_reducible refine st_bd (rr2 _) ?_ | (with_reducible refine st_neg ?h1 ?_; case h1 => first | omega | (simp (disch := omega) only [em, l1, bg, rr2, Option.bind_some, qi, ql, qI_lt, qI_le, qI_eq, qI_L, qI_ix, qL_lt, qL_eq, q_nat, q_cs, ← Int32.ofInt_add, ← Int32.ofInt_sub, ← Int32.ofInt_mul, ← Int32.ofInt_neg, ← Int64.ofInt_add, ← Int64.ofInt_sub, ← Int64.ofInt_mul, ← Int64.ofInt_neg, pL_I, q_mx, q_mn, q_ab, q_abL, q_mnL, q_nn0, q_nn1, q_rr, q_b1, q_b0, q_T, q_F, q_iT, q_iF, q_d, q_in, q_wi, q_hC, q_hM, pT_i, pU_i, pS_i, pS_j, pS_0, Sum.elim_inl, Sum.elim_inr, if_pos, if_neg] <;> omega)) | (with_reducible refine st_pos ?h1 ?_; case h1 => first | omega | (simp (disch := omega) only [em, l1, bg, rr2, Option.bind_some, qi, ql, qI_lt, qI_le, qI_eq, qI_L, qI_ix, qL_lt, qL_eq, q_nat, q_cs, ← Int32.ofInt_add, ← Int32.ofInt_sub, ← Int32.ofInt_mul, ← Int32.ofInt_neg, ← Int64.ofInt_add, ← Int64.ofInt_sub, ← Int64.ofInt_mul, ← Int64.ofInt_neg, pL_I, q_mx, q_mn, q_ab, q_abL, q_mnL, q_nn0, q_nn1, q_rr, q_b1, q_b0, q_T, q_F, q_iT, q_iF, q_d, q_in, q_wi, q_hC, q_hM, pT_i, pU_i, pS_i, pS_j, pS_0, Sum.elim_inl, Sum.elim_inr, if_pos, if_neg] <;> omega)))
    rw [hμ]
    rfl
  have eR : f_X12_machine (Int32.ofInt (m : Int)) (Int32.ofInt (n : Int)) σ2 = (am_loop (fun s : am_H => f_X12_machine_103 (Int32.ofInt (m : Int)) s) τ2).bind fun w22 => (some (am_wI w22 12 0 10 (w22.1 12 0 12))).bind fun s23 => if (s23.1 12 0 12) = 0 then (f_X12_machine_176 (Int32.ofInt (m : Int)) (-1) s23) else f_X12_machine_176 (Int32.ofInt (m : Int)) (s23.1 12 0 13) s23 := by
    refine st_bs (x := pU σ2) (st_bs (x := pS σ2 0) ?_)
    have t2' : f_X12_next (am_wI (am_wI (am_wI (am_wI (am_wI (am_wI (am_wI (am_wI (am_wI (am_wI (pS σ2 0) 12 0 9 (Int32.ofInt (n : Int))) 12 0 8 0) 12 0 16 0) 12 0 12 0) 1320 0 2 0) 1321 0 2 0) 1322 0 2 0) 1323 0 2 0) 12 0 27 (am_b false)) 12 0 28 (am_b false)) = some τ2 := by rw [← hγ]; exact t2
    repeat (first | with_reducible refine st_pos rfl ?_ | with_reducible refine st_n0 ?_ | with_reducible refine st_neg Bool.false_ne_true ?_ | (with_reducible refine st_qin ?h1 ?h2 ?h3 ?h4 ?h5 ?h6 ?_; (case h1 => omega); (case h2 => omega); (case h3 => omega); (case h4 => omega); (case h5 => omega); (case h6 => omega)) | (with_reducible refine st_qwi ?h1 ?h2 ?h3 ?h4 ?h5 ?h6 ?_; (case h1 => omega); (case h2 => omega); (case h3 => omega); (case h4 => omega); (case h5 => omega); (case h6 => omega)) | (with_reducible refine st_qhC ?h1 ?h2 ?_; (case h1 => omega); (case h2 => omega)) | (with_reducible refine st_qhM ?h1 ?h2 ?_; (case h1 => omega); (case h2 => omega)) | with_reducible refine st_bs ?_ | (with_reducible refine st_in ?h1 ?h2 ?_; (case h1 => omega); (case h2 => omega)) | (with_reducible refine st_ix ?h1 ?h2 ?h3 ?_; (case h1 => omega); (case h2 => omega); (case h3 => omega)) | (with_reducible refine st_nn ?h1 ?_; (case h1 => omega)) | with_reducible refine st_bd (eM') ?_ | with_reducible refine st_bd (eM' _) ?_ | with_reducible refine st_bd (l2') ?_ | with_reducible refine st_bd (l2' _) ?_ | with_reducible refine st_bd (ix3) ?_ | with_reducible refine st_bd (ix3 _) ?_ | with_reducible refine st_bd (t2') ?_ | with_reducible refine st_bd (t2' _) ?_ | (with_reducible refine st_neg ?h1 ?_; case h1 => first | omega | (simp (disch := omega) only [eM', l2', ix3, t2', Option.bind_some, qi, ql, qI_lt, qI_le, qI_eq, qI_L, qI_ix, qL_lt, qL_eq, q_nat, q_cs, ← Int32.ofInt_add, ← Int32.ofInt_sub, ← Int32.ofInt_mul, ← Int32.ofInt_neg, ← Int64.ofInt_add, ← Int64.ofInt_sub, ← Int64.ofInt_mul, ← Int64.ofInt_neg, pL_I, q_mx, q_mn, q_ab, q_abL, q_mnL, q_nn0, q_nn1, q_rr, q_b1, q_b0, q_T, q_F, q_iT, q_iF, q_d, q_in, q_wi, q_hC, q_hM, pT_i, pU_i, pS_i, pS_j, pS_0, Sum.elim_inl, Sum.elim_inr, if_pos, if_neg] <;> omega)) | (with_reducible refine st_pos ?h1 ?_; case h1 => first | omega | (simp (disch := omega) only [eM', l2', ix3, t2', Option.bind_some, qi, ql, qI_lt, qI_le, qI_eq, qI_L, qI_ix, qL_lt, qL_eq, q_nat, q_cs, ← Int32.ofInt_add, ← Int32.ofInt_sub, ← Int32.ofInt_mul, ← Int32.ofInt_neg, ← Int64.ofInt_add, ← Int64.ofInt_sub, ← Int64.ofInt_mul, ← Int64.ofInt_neg, pL_I, q_mx, q_mn, q_ab, q_abL, q_mnL, q_nn0, q_nn1, q_rr, q_b1, q_b0, q_T, q_F, q_iT, q_iF, q_d, q_in, q_wi, q_hC, q_hM, pT_i, pU_i, pS_i, pS_j, pS_0, Sum.elim_inl, Sum.elim_inr, if_pos, if_neg] <;> omega)))
    rfl
  rw [eC, eR]
  have other : ∀ (κ1 κ2 ω1 ω2 : am_H) (i ai : Nat), i < 2 → ai ≠ a2 → pr_mach σ1 (pS σ2 0) i ai → qz (zC a2) μ κ1 → qz zM τ2 κ2 → qf [(5, 1), (1205, 999), (11, 6), (11, 0)] κ1 ω1 → (ω2.1 1320 0 i = κ2.1 1320 0 i ∧ ω2.1 1321 0 i = κ2.1 1321 0 i ∧ ω2.1 1322 0 i = κ2.1 1322 0 i ∧ ω2.1 1323 0 i = κ2.1 1323 0 i) → (∀ k, k < 54 → ω2.1 1324 0 (54 * i + k) = κ2.1 1324 0 (54 * i + k)) → (∀ k, k < 20 → ω2.1 1325 0 (20 * i + k) = κ2.1 1325 0 (20 * i + k)) → pr_mach ω1 ω2 i ai := by
    intro κ1 κ2 ω1 ω2 i ai hi hne M q1 q2 q3 g0 g4 g5
    obtain ⟨z1, z2⟩ := zC_o hne
    obtain ⟨y1, y2, y3⟩ := zM_o hi
    have A : qz (zC a2) τ1 κ1 := Zμ.tr q1
    have T3 : ∀ k ii j, k ≠ 5 → τ1.1 k ii j = σ1.1 k ii j ∧ τ1.2.1 k ii j = σ1.2.1 k ii j := fun k ii j hk => by
      have u1 := t5 k ii j (by unfold qf_in; simp; omega)
      rw [hβ] at u1
      refine ⟨u1.1.trans ?_, u1.2.1⟩
      simp only [am_wI, am_u3]
      rw [if_neg (by omega), if_neg (by omega), if_neg (by omega), if_neg (by omega)]
    have T4 : ∀ k j, (k = 1320 ∨ k = 1321 ∨ k = 1322 ∨ k = 1323) → j ≠ 2 → τ2.1 k 0 j = (pS σ2 0).1 k 0 j := fun k j hk hj => by
      have u1 := t6 k 0 j (by unfold qf_in tl_M; simp; omega)
      rw [hγ] at u1
      refine u1.1.trans ?_
      simp only [am_wI_r]
      rw [if_neg (by omega), if_neg (by omega), if_neg (by omega), if_neg (by omega), if_neg (by omega), if_neg (by omega), if_neg (by omega), if_neg (by omega), if_neg (by omega), if_neg (by omega)]
    have T5 : ∀ k j, (k = 1324 ∨ k = 1325) → τ2.1 k 0 j = (pS σ2 0).1 k 0 j := fun k j hk => by
      have u1 := t6 k 0 j (by unfold qf_in tl_M; simp; omega)
      rw [hγ] at u1
      refine u1.1.trans ?_
      simp only [am_wI_r]
      rw [if_neg (by omega), if_neg (by omega), if_neg (by omega), if_neg (by omega), if_neg (by omega), if_neg (by omega), if_neg (by omega), if_neg (by omega), if_neg (by omega), if_neg (by omega)]
    refine pr_mach_z M (fun j => ⟨?_, ?_, ?_⟩) (fun ii j hii => ⟨?_, ?_, ?_⟩) ⟨?_, ?_, ?_, ?_⟩ (fun k hk => ?_) (fun k hk => ?_)
    · rw [(q3 3 ai j rfl).1, (A 3 ai j (z1 j).1).1, (T3 3 ai j (by omega)).1]
    · rw [(q3 402 ai j rfl).1, (A 402 ai j (z1 j).2.1).1, (T3 402 ai j (by omega)).1]
    · rw [(q3 403 ai j rfl).1, (A 403 ai j (z1 j).2.2).1, (T3 403 ai j (by omega)).1]
    · rw [(q3 10 _ j rfl).1, (A 10 _ j (z2 ii j hii).1).1, (T3 10 _ j (by omega)).1]
    · rw [(q3 10 _ j rfl).2.1, (A 10 _ j (z2 ii j hii).1).2.1, (T3 10 _ j (by omega)).2]
    · rw [(q3 1106 _ j rfl).1, (A 1106 _ j (z2 ii j hii).2).1, (T3 1106 _ j (by omega)).1]
    · rw [g0.1, (q2 1320 0 i y1.1).1, T4 1320 i (by omega) (by omega)]
    · rw [g0.2.1, (q2 1321 0 i y1.2.1).1, T4 1321 i (by omega) (by omega)]
    · rw [g0.2.2.1, (q2 1322 0 i y1.2.2.1).1, T4 1322 i (by omega) (by omega)]
    · rw [g0.2.2.2, (q2 1323 0 i y1.2.2.2).1, T4 1323 i (by omega) (by omega)]
    · rw [g4 k hk, (q2 1324 0 _ (y2 k hk)).1, T5 1324 _ (by omega)]
    · rw [g5 k hk, (q2 1325 0 _ (y3 k hk)).1, T5 1325 _ (by omega)]
  have QM0 : qf mlM σ2 τ2 := (pS_f.mo (by decide)).tr (Qγ.tr (t6.mo (by decide)))
  have QC0 : qf mlC σ1 μ := Q5.tr (zC_f Zμ)
  rcases mp_all (a := a2) (v1 := Int32.ofInt (m : Int)) (n + 1) μ τ2 s p e 0 _ _ 0 _ _ (-1) (-1) 0 (by omega) tμ gτ mμ (by omega) with ⟨κ1, κ2, wc, ws, nm, kc, kw, kt, sl, zr, d1, d2, d3, dF, d4, d7, d8⟩ | ⟨κ1, κ2, d1, d2, ⟨kk, q, d3, d4⟩, d7, d8⟩
  rotate_left
  · -- FAULTY
    have d1' : mcC a2 (Int32.ofInt 0) μ = some (false, κ1) := d1
    have b12 : (am_wI κ2 12 0 10 (Int32.ofInt kk)).1 12 0 12 = Int32.ofInt kk := d4.2.1
    have b13 : (am_wI κ2 12 0 10 (Int32.ofInt kk)).1 12 0 13 = Int32.ofInt (q : Int) := d4.2.2
    have c12 : (am_wI (am_wI κ2 12 0 10 (Int32.ofInt kk)) 12 0 11 (Int32.ofInt (q : Int))).1 12 0 12 = Int32.ofInt kk := d4.2.1
    have kb := d4.1
    have e12 := d4.2.1
    have QF : qf mlC σ1 (pT (am_wI κ1 5 0 1 (Int32.ofInt 0)) 10) := ((QC0.tr (zC_f d7)).wI rfl).wI rfl
    have QR : qf mlM σ2 (am_wI (am_wI (am_wI κ2 12 0 10 (Int32.ofInt kk)) 12 0 11 (Int32.ofInt (q : Int))) 12 0 0 (Int32.ofInt 10)) := (((QM0.tr (zM_f d8)).wI rfl).wI rfl).wI rfl
    refine ⟨Int32.ofInt (-1), pT (am_wI κ1 5 0 1 (Int32.ofInt 0)) 10, am_wI (am_wI (am_wI κ2 12 0 10 (Int32.ofInt kk)) 12 0 11 (Int32.ofInt (q : Int))) 12 0 0 (Int32.ofInt 10), ?_, ?_, rfl, ?_⟩
    · rw [d1']
      simp (disch := omega) only [f_X5_empty, f_X11_none, Option.bind_some, qi, ql, qI_lt, qI_le, qI_eq, qI_L, qI_ix, qL_lt, qL_eq, q_nat, q_cs, ← Int32.ofInt_add, ← Int32.ofInt_sub, ← Int32.ofInt_mul, ← Int32.ofInt_neg, ← Int64.ofInt_add, ← Int64.ofInt_sub, ← Int64.ofInt_mul, ← Int64.ofInt_neg, pL_I, q_mx, q_mn, q_ab, q_abL, q_mnL, q_nn0, q_nn1, q_rr, q_b1, q_b0, q_T, q_F, q_iT, q_iF, q_d, q_in, q_wi, q_hC, q_hM, pT_i, pU_i, pS_i, pS_j, pS_0, Sum.elim_inl, Sum.elim_inr, if_pos, if_neg]
    · rw [d2]
      simp (disch := omega) only [f_X12_machine_176, f_X12_refuse, e12, b12, b13, c12, Option.bind_some, qi, ql, qI_lt, qI_le, qI_eq, qI_L, qI_ix, qL_lt, qL_eq, q_nat, q_cs, ← Int32.ofInt_add, ← Int32.ofInt_sub, ← Int32.ofInt_mul, ← Int32.ofInt_neg, ← Int64.ofInt_add, ← Int64.ofInt_sub, ← Int64.ofInt_mul, ← Int64.ofInt_neg, pL_I, q_mx, q_mn, q_ab, q_abL, q_mnL, q_nn0, q_nn1, q_rr, q_b1, q_b0, q_T, q_F, q_iT, q_iF, q_d, q_in, q_wi, q_hC, q_hM, pT_i, pU_i, pS_i, pS_j, pS_0, Sum.elim_inl, Sum.elim_inr, if_pos, if_neg]
    · refine h.2.st mlC mlM [2, 3, 4] (by decide +kernel) QF QR ?_
      intro N hN
      simp only [List.mem_cons, List.not_mem_nil, or_false] at hN
      rcases hN with rfl | rfl | rfl
      · exact ⟨0, by omega, rfl, by
          show κ2.1 12 0 8 = Int32.ofInt 0
          rw [(d8 12 0 8 rfl).1, (t6 12 0 8 rfl).1, hγ]
          rfl, fun j hj => by omega⟩
      · exact ⟨d3.1, d3.2⟩
      · have Qo : qf [(5, 1), (1205, 999), (11, 6), (11, 0)] κ1 (pT (am_wI κ1 5 0 1 (Int32.ofInt 0)) 10) := (qf.rf.wI rfl).wI rfl
        have rk : ∀ kd i j, (kd = 1205 ∨ kd = 11) → (pT (am_wI κ1 5 0 1 (Int32.ofInt 0)) 10).2.2 kd i j = σ1.2.2 kd i j := fun kd i j hk => by
          show κ1.2.2 kd i j = _
          rw [(d7 kd i j (by unfold zC; rw [q_tlC (by omega)]; rcases hk with rfl | rfl <;> rfl)).2.2, (Qμ kd i j (by rcases hk with rfl | rfl <;> rfl)).2.2, (t5 kd i j (by rcases hk with rfl | rfl <;> rfl)).2.2, hβ]
          rfl
        exact ⟨a0, a1, a2, ⟨b0, b1, b2⟩, ⟨n01, n02, n12⟩, (rk 1205 0 0 (by omega)).trans r0, (rk 1205 0 1 (by omega)).trans r1, (rk 11 0 6 (by omega)).trans r2, other κ1 κ2 _ _ 0 a0 (by omega) n02 m0 d7 d8 Qo ⟨rfl, rfl, rfl, rfl⟩ (fun k _ => rfl) (fun k _ => rfl), other κ1 κ2 _ _ 1 a1 (by omega) n12 m1 d7 d8 Qo ⟨rfl, rfl, rfl, rfl⟩ (fun k _ => rfl) (fun k _ => rfl)⟩
  -- taken
  have d1' : mcC a2 (Int32.ofInt 0) μ = some (true, κ1) := d1
  have d3' : κ2.1 12 0 12 = Int32.ofInt 0 := d3
  obtain ⟨⟨w6, wa, wb⟩, ww, ⟨kk1, kk2, kk3, kk4⟩, ⟨ss1, ss2, ss3, ss4⟩, ⟨zz1, zz2, zz3, zz4⟩⟩ := d4
  have rk : ∀ kd i j, (kd = 1205 ∨ kd = 11) → κ1.2.2 kd i j = σ1.2.2 kd i j := fun kd i j hk => by
    rw [(d7 kd i j (by unfold zC; rw [q_tlC (by omega)]; rcases hk with rfl | rfl <;> rfl)).2.2, (Qμ kd i j (by rcases hk with rfl | rfl <;> rfl)).2.2, (t5 kd i j (by rcases hk with rfl | rfl <;> rfl)).2.2, hβ]
    rfl
  have rm : κ1.2.2 1205 0 m = some a := (rk 1205 0 m (by omega)).trans hr
  have rs : κ1.2.2 11 0 6 = some a2 := (rk 11 0 6 (by omega)).trans r2
  -- the reference copies
  obtain ⟨ν, hν⟩ : ∃ ν : am_H, ν = am_wI (am_wI (am_wI (am_wI (am_wI (am_wI κ2 12 0 10 (Int32.ofInt 0)) 12 0 11 (Int32.ofInt (-1))) 1320 0 m (Int32.ofInt (wc : Int))) 1321 0 m (Int32.ofInt (kc : Int))) 1322 0 m (Int32.ofInt (max sl 0))) 1323 0 m (Int32.ofInt (max zr 0)) := ⟨_, rfl⟩
  obtain ⟨ξ, x1', x2', x3', x4'⟩ := mm_243 (σ := ν) hm
  obtain ⟨ω, y1', y2', y3', y4'⟩ := mm_277 (σ := ξ) hm
  have ωk : ∀ k i j, k ≠ 1324 → k ≠ 1325 → ω.1 k i j = ν.1 k i j := fun k i j h1 h2 => by
    rw [(y2' k i j (by unfold qf_in; simp; omega)).1, (x2' k i j (by unfold qf_in; simp; omega)).1]
  have ω24 : ∀ j, ω.1 1324 0 j = ξ.1 1324 0 j := fun j => (y2' 1324 0 j rfl).1
  have ω25 : ∀ k, k < 20 → ω.1 1325 0 (20 * m + k) = κ2.1 1325 0 (40 + k) := fun k hk => by
    rw [y3' k hk, (x2' 1325 0 (40 + k) rfl).1, hν]
    rfl
  have ω24m : ∀ k, k < 54 → ω.1 1324 0 (54 * m + k) = κ2.1 1324 0 (108 + k) := fun k hk => by
    rw [ω24, x3' k hk, hν]
    rfl
  have QRν : qf mlM σ2 ω := by
    have Qν : qf mlM σ2 ν := by rw [hν]; exact ((((((QM0.tr (zM_f d8)).wI rfl).wI rfl).wI rfl).wI rfl).wI rfl).wI rfl
    exact (Qν.tr (x2'.mo (by decide))).tr (y2'.mo (by decide))
  have QF : qf mlC σ1 (pT (am_wR (am_wR (am_wI κ1 5 0 1 (Int32.ofInt 0)) 1205 0 m (some a2)) 11 0 6 (some a)) 0) := ((((QC0.tr (zC_f d7)).wI rfl).wR rfl).wR rfl).wI rfl
  have νs : ν.1 12 0 0 = Int32.ofInt 0 := by
    rw [hν]
    show κ2.1 12 0 0 = _
    rw [(d8 12 0 0 rfl).1, (t6 12 0 0 rfl).1, hγ]
    rfl
  refine ⟨Int32.ofInt (wc : Int), pT (am_wR (am_wR (am_wI κ1 5 0 1 (Int32.ofInt 0)) 1205 0 m (some a2)) 11 0 6 (some a)) 0, ω, ?_, ?_, ?_, ?_⟩
  · rw [d1']
    have e1 : am_rr 3 ((am_wI κ1 5 0 1 0).2.2 1205 0 m) = some a := by show am_rr 3 (κ1.2.2 1205 0 m) = _; rw [rm]; exact q_rr ha
    have e2 : am_rr 3 ((am_wI κ1 5 0 1 0).2.2 11 0 6) = some a2 := by show am_rr 3 (κ1.2.2 11 0 6) = _; rw [rs]; exact q_rr b2
    have e3 : am_rr 3 ((am_wR (am_wR (am_wI κ1 5 0 1 0) 1205 0 m (some a2)) 11 0 6 (some a)).2.2 1205 0 m) = some a2 := by
      rw [am_wR_r, if_neg (by omega), am_wR_r, if_pos ⟨rfl, rfl, rfl⟩]
      exact q_rr b2
    have e4 : (am_wR (am_wR (am_wI κ1 5 0 1 0) 1205 0 m (some a2)) 11 0 6 (some a)).1 3 a2 1 = Int32.ofInt (wc : Int) := wa
    have em0 : f_X5_empty κ1 = some (am_wI κ1 5 0 1 0) := rfl
    refine st_bs ?_
    show (f_X5_empty κ1).bind _ = _
    repeat (first | with_reducible refine st_pos rfl ?_ | with_reducible refine st_n0 ?_ | with_reducible refine st_neg Bool.false_ne_true ?_ | (with_reducible refine st_qin ?h1 ?h2 ?h3 ?h4 ?h5 ?h6 ?_; (case h1 => omega); (case h2 => omega); (case h3 => omega); (case h4 => omega); (case h5 => omega); (case h6 => omega)) | (with_reducible refine st_qwi ?h1 ?h2 ?h3 ?h4 ?h5 ?h6 ?_; (case h1 => omega); (case h2 => omega); (case h3 => omega); (case h4 => omega); (case h5 => omega); (case h6 => omega)) | (with_reducible refine st_qhC ?h1 ?h2 ?_; (case h1 => omega); (case h2 => omega)) | (with_reducible refine st_qhM ?h1 ?h2 ?_; (case h1 => omega); (case h2 => omega)) | with_reducible refine st_bs ?_ | (with_reducible refine st_in ?h1 ?h2 ?_; (case h1 => omega); (case h2 => omega)) | (with_reducible refine st_ix ?h1 ?h2 ?h3 ?_; (case h1 => omega); (case h2 => omega); (case h3 => omega)) | (with_reducible refine st_nn ?h1 ?_; (case h1 => omega)) | with_reducible refine st_bd (em0) ?_ | with_reducible refine st_bd (em0 _) ?_ | with_reducible refine st_bd (e1) ?_ | with_reducible refine st_bd (e1 _) ?_ | with_reducible refine st_bd (e2) ?_ | with_reducible refine st_bd (e2 _) ?_ | with_reducible refine st_bd (e3) ?_ | with_reducible refine st_bd (e3 _) ?_ | (with_reducible refine st_neg ?h1 ?_; case h1 => first | omega | (simp (disch := omega) only [em0, e1, e2, e3, Option.bind_some, qi, ql, qI_lt, qI_le, qI_eq, qI_L, qI_ix, qL_lt, qL_eq, q_nat, q_cs, ← Int32.ofInt_add, ← Int32.ofInt_sub, ← Int32.ofInt_mul, ← Int32.ofInt_neg, ← Int64.ofInt_add, ← Int64.ofInt_sub, ← Int64.ofInt_mul, ← Int64.ofInt_neg, pL_I, q_mx, q_mn, q_ab, q_abL, q_mnL, q_nn0, q_nn1, q_rr, q_b1, q_b0, q_T, q_F, q_iT, q_iF, q_d, q_in, q_wi, q_hC, q_hM, pT_i, pU_i, pS_i, pS_j, pS_0, Sum.elim_inl, Sum.elim_inr, if_pos, if_neg] <;> omega)) | (with_reducible refine st_pos ?h1 ?_; case h1 => first | omega | (simp (disch := omega) only [em0, e1, e2, e3, Option.bind_some, qi, ql, qI_lt, qI_le, qI_eq, qI_L, qI_ix, qL_lt, qL_eq, q_nat, q_cs, ← Int32.ofInt_add, ← Int32.ofInt_sub, ← Int32.ofInt_mul, ← Int32.ofInt_neg, ← Int64.ofInt_add, ← Int64.ofInt_sub, ← Int64.ofInt_mul, ← Int64.ofInt_neg, pL_I, q_mx, q_mn, q_ab, q_abL, q_mnL, q_nn0, q_nn1, q_rr, q_b1, q_b0, q_T, q_F, q_iT, q_iF, q_d, q_in, q_wi, q_hC, q_hM, pT_i, pU_i, pS_i, pS_j, pS_0, Sum.elim_inl, Sum.elim_inr, if_pos, if_neg] <;> omega)))
    rw [e4]
    rfl
  · rw [d2]
    have im : am_ix 3 (Int32.ofInt (m : Int)) = some m := by rw [qI_ix (by omega) (by omega) (by omega), q_nat]
    have z2 : (2 : Int).toNat = 2 := rfl
    have c12 : (am_wI κ2 12 0 10 (Int32.ofInt 0)).1 12 0 12 = Int32.ofInt 0 := d3
    have c13 : (am_wI (am_wI κ2 12 0 10 (Int32.ofInt 0)) 12 0 11 (Int32.ofInt (-1))).1 12 0 12 = Int32.ofInt 0 := d3
    have f0 : (am_wI (am_wI κ2 12 0 10 (Int32.ofInt 0)) 12 0 11 (Int32.ofInt (-1))).1 1320 0 2 = Int32.ofInt (wc : Int) := wb
    have f1 : ∀ v, (am_wI (am_wI (am_wI κ2 12 0 10 (Int32.ofInt 0)) 12 0 11 (Int32.ofInt (-1))) 1320 0 m v).1 1321 0 2 = Int32.ofInt (kc : Int) := fun v => kk3
    have f2 : ∀ v u, (am_wI (am_wI (am_wI (am_wI κ2 12 0 10 (Int32.ofInt 0)) 12 0 11 (Int32.ofInt (-1))) 1320 0 m v) 1321 0 m u).1 1322 0 2 = Int32.ofInt (max sl 0) := fun v u => ss3
    have f3 : ∀ v u w, (am_wI (am_wI (am_wI (am_wI (am_wI κ2 12 0 10 (Int32.ofInt 0)) 12 0 11 (Int32.ofInt (-1))) 1320 0 m v) 1321 0 m u) 1322 0 m w).1 1323 0 2 = Int32.ofInt (max zr 0) := fun v u w => zz3
    have fω : ω.1 1320 0 m = Int32.ofInt (wc : Int) := by
      rw [ωk 1320 0 m (by omega) (by omega), hν]
      simp [am_wI, am_u3]
    simp (disch := omega) only [f_X12_machine_176, d3', c12, c13, z2, f0, f1, f2, f3, Option.bind_some, qi, ql, qI_lt, qI_le, qI_eq, qI_L, qI_ix, qL_lt, qL_eq, q_nat, q_cs, ← Int32.ofInt_add, ← Int32.ofInt_sub, ← Int32.ofInt_mul, ← Int32.ofInt_neg, ← Int64.ofInt_add, ← Int64.ofInt_sub, ← Int64.ofInt_mul, ← Int64.ofInt_neg, pL_I, q_mx, q_mn, q_ab, q_abL, q_mnL, q_nn0, q_nn1, q_rr, q_b1, q_b0, q_T, q_F, q_iT, q_iF, q_d, q_in, q_wi, q_hC, q_hM, pT_i, pU_i, pS_i, pS_j, pS_0, Sum.elim_inl, Sum.elim_inr, if_pos, if_neg]
    rw [← hν, x1']
    simp (disch := omega) only [y1', fω, Option.bind_some, qi, ql, qI_lt, qI_le, qI_eq, qI_L, qI_ix, qL_lt, qL_eq, q_nat, q_cs, ← Int32.ofInt_add, ← Int32.ofInt_sub, ← Int32.ofInt_mul, ← Int32.ofInt_neg, ← Int64.ofInt_add, ← Int64.ofInt_sub, ← Int64.ofInt_mul, ← Int64.ofInt_neg, pL_I, q_mx, q_mn, q_ab, q_abL, q_mnL, q_nn0, q_nn1, q_rr, q_b1, q_b0, q_T, q_F, q_iT, q_iF, q_d, q_in, q_wi, q_hC, q_hM, pT_i, pU_i, pS_i, pS_j, pS_0, Sum.elim_inl, Sum.elim_inr, if_pos, if_neg]
  · rw [pT_0, ωk 12 0 0 (by omega) (by omega), νs]
  · refine h.2.st mlC mlM [2, 3, 4] (by decide +kernel) QF QRν ?_
    intro N hN
    simp only [List.mem_cons, List.not_mem_nil, or_false] at hN
    rcases hN with rfl | rfl | rfl
    · exact ⟨0, by omega, rfl, by
        rw [ωk 12 0 8 (by omega) (by omega), hν]
        show κ2.1 12 0 8 = Int32.ofInt 0
        rw [(d8 12 0 8 rfl).1, (t6 12 0 8 rfl).1, hγ]
        rfl, fun j hj => by omega⟩
    · refine ⟨?_, ?_⟩
      · rw [ωk 12 0 10 (by omega) (by omega), hν]
        exact dF.1
      · rw [ωk 12 0 11 (by omega) (by omega), hν]
        exact dF.2
    · have Qo : qf [(5, 1), (1205, 999), (11, 6), (11, 0)] κ1 (pT (am_wR (am_wR (am_wI κ1 5 0 1 (Int32.ofInt 0)) 1205 0 m (some a2)) 11 0 6 (some a)) 0) := (((qf.rf.wI rfl).wR rfl).wR rfl).wI rfl
      have NEW : pr_mach (pT (am_wR (am_wR (am_wI κ1 5 0 1 (Int32.ofInt 0)) 1205 0 m (some a2)) 11 0 6 (some a)) 0) ω m a2 := by
        refine ⟨wc, ws, zr, sl, kc, kw, kt, ⟨w6, wa, zz1, zz2, fun i hi => ⟨(ww i hi).1.2.2.1, (ww i hi).1.1⟩⟩, ⟨w6, ?_, ?_, by omega, fun i hi => ⟨(ww i hi).1.2.2.1, fun k hk => ?_⟩⟩, fun i hi => (ww i hi).1.2.2.2, ss1, ss2, ?_, kk1, kk2, ?_, fun k hk => ?_⟩
        · rw [ωk 1320 0 m (by omega) (by omega), hν]
          simp [am_wI, am_u3]
        · rw [ωk 1323 0 m (by omega) (by omega), hν]
          simp [am_wI, am_u3]
        · have e1 := ω24m (9 * i + k) (by omega)
          rw [← Nat.add_assoc] at e1
          rw [e1]
          have e2 := (ww i hi).1.2.1 k hk
          rw [show 54 * 2 + 9 * i + k = 108 + (9 * i + k) by omega] at e2
          exact e2
        · rw [ωk 1322 0 m (by omega) (by omega), hν]
          simp [am_wI, am_u3]
        · rw [ωk 1321 0 m (by omega) (by omega), hν]
          simp [am_wI, am_u3]
        · obtain ⟨u1, u2, u3, u4, u5, u6⟩ := kk4 k hk
          have e1 := ω25 (2 * k) (by omega)
          have e2 := ω25 (2 * k + 1) (by omega)
          rw [← Nat.add_assoc] at e2
          refine ⟨u1, u2, u3, u4, e1.trans ?_, e2.trans ?_⟩
          · rw [show 40 + 2 * k = 20 * 2 + 2 * k by omega]
            exact u5
          · rw [show 40 + (2 * k + 1) = 20 * 2 + 2 * k + 1 by omega]
            exact u6
      have OLD : ∀ i ai : Nat, i < 2 → i ≠ m → ai ≠ a2 → pr_mach σ1 (pS σ2 0) i ai → pr_mach (pT (am_wR (am_wR (am_wI κ1 5 0 1 (Int32.ofInt 0)) 1205 0 m (some a2)) 11 0 6 (some a)) 0) ω i ai := by
        intro i ai hi him hai M
        refine other κ1 κ2 _ ω i ai hi hai M d7 d8 Qo ⟨?_, ?_, ?_, ?_⟩ (fun k hk => ?_) (fun k hk => ?_)
        · rw [ωk 1320 0 i (by omega) (by omega), hν]
          simp [am_wI, am_u3, him]
        · rw [ωk 1321 0 i (by omega) (by omega), hν]
          simp [am_wI, am_u3, him]
        · rw [ωk 1322 0 i (by omega) (by omega), hν]
          simp [am_wI, am_u3, him]
        · rw [ωk 1323 0 i (by omega) (by omega), hν]
          simp [am_wI, am_u3, him]
        · rw [ω24, x4' _ (by omega), hν]
          rfl
        · rw [y4' _ (by omega), (x2' 1325 0 _ rfl).1, hν]
          rfl
      have R6 : (pT (am_wR (am_wR (am_wI κ1 5 0 1 (Int32.ofInt 0)) 1205 0 m (some a2)) 11 0 6 (some a)) 0).2.2 11 0 6 = some a := by
        show (am_wR (am_wR (am_wI κ1 5 0 1 (Int32.ofInt 0)) 1205 0 m (some a2)) 11 0 6 (some a)).2.2 11 0 6 = _
        rw [am_wR_r, if_pos ⟨rfl, rfl, rfl⟩]
      have Rm : ∀ i, (pT (am_wR (am_wR (am_wI κ1 5 0 1 (Int32.ofInt 0)) 1205 0 m (some a2)) 11 0 6 (some a)) 0).2.2 1205 0 i = if i = m then some a2 else σ1.2.2 1205 0 i := fun i => by
        show (am_wR (am_wR (am_wI κ1 5 0 1 (Int32.ofInt 0)) 1205 0 m (some a2)) 11 0 6 (some a)).2.2 1205 0 i = _
        rw [am_wR_r, if_neg (by omega), am_wR_r]
        by_cases e : i = m
        · rw [if_pos ⟨rfl, rfl, e⟩, if_pos e]
        · rw [if_neg (by omega), if_neg e]
          exact rk 1205 0 i (by omega)
      rcases (by omega : m = 0 ∨ m = 1) with z | z
      · subst z
        have ea : a = a0 := by
          rw [r0] at hr
          exact (Option.some.inj hr).symm
        refine ⟨a2, a1, a0, ⟨b2, b1, b0⟩, ⟨fun z => n12 z.symm, fun z => n02 z.symm, fun z => n01 z.symm⟩, ?_, ?_, ?_, NEW, OLD 1 a1 (by omega) (by omega) n12 m1⟩
        · rw [Rm, if_pos rfl]
        · rw [Rm, if_neg (by omega)]
          exact r1
        · rw [R6, ea]
      · subst z
        have ea : a = a1 := by
          rw [r1] at hr
          exact (Option.some.inj hr).symm
        refine ⟨a0, a2, a1, ⟨b0, b2, b1⟩, ⟨n02, n01, fun z => n12 z.symm⟩, ?_, ?_, ?_, OLD 0 a0 (by omega) (by omega) n02 m0, NEW⟩
        · rw [Rm, if_neg (by omega)]
          exact r0
        · rw [Rm, if_pos rfl]
        · rw [R6, ea]
