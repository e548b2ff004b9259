/-! ===== ORDERS, the call ===== -/
theorem mo_137 {σ : am_H} {N : Nat} (hN : N ≤ 40) (e54 : σ.1 12 0 54 = Int32.ofInt (N : Int)) : ∃ τ : am_H, am_loop (fun s : Int32 × am_H => f_X12_orders_137 s.1 s.2) (Int32.ofInt 0, σ) = some τ ∧ (qf [(1368, 999), (1369, 999), (1370, 999), (1371, 999)] σ τ ∧ ∀ i, i < N → τ.1 1368 0 i = σ.1 1372 0 i ∧ τ.1 1369 0 i = σ.1 1373 0 i ∧ τ.1 1370 0 i = σ.1 1374 0 i ∧ τ.1 1371 0 i = σ.1 1375 0 i) := by
  refine am_loop_1 (B := fun s : Int32 × am_H => f_X12_orders_137 s.1 s.2) (fun q s => ∃ (k : Nat) (τ : am_H), s = (Int32.ofInt (k : Int), τ) ∧ k ≤ N ∧ qf [(1368, 999), (1369, 999), (1370, 999), (1371, 999)] σ τ ∧ (∀ i, i < k → τ.1 1368 0 i = σ.1 1372 0 i ∧ τ.1 1369 0 i = σ.1 1373 0 i ∧ τ.1 1370 0 i = σ.1 1374 0 i ∧ τ.1 1371 0 i = σ.1 1375 0 i) ∧ q = N - k) (fun τ => qf [(1368, 999), (1369, 999), (1370, 999), (1371, 999)] σ τ ∧ ∀ i, i < N → τ.1 1368 0 i = σ.1 1372 0 i ∧ τ.1 1369 0 i = σ.1 1373 0 i ∧ τ.1 1370 0 i = σ.1 1374 0 i ∧ τ.1 1371 0 i = σ.1 1375 0 i) ?_ N _ ⟨0, σ, rfl, by omega, qf.rf, fun i hi => by omega, rfl⟩
  rintro q s ⟨k, τ, rfl, hk, hq, hi, rfl⟩
  have d54 : τ.1 12 0 54 = Int32.ofInt (N : Int) := ((hq 12 0 54 rfl).1).trans e54
  by_cases ce : k < N
  · right
    have e1 : τ.1 1372 0 k = σ.1 1372 0 k := (hq 1372 0 k rfl).1
    have e2 : ∀ v : Int32, (am_wI τ 1368 0 k v).1 1373 0 k = σ.1 1373 0 k := fun v => (hq 1373 0 k rfl).1
    have e3 : ∀ v w : Int32, (am_wI (am_wI τ 1368 0 k v) 1369 0 k w).1 1374 0 k = σ.1 1374 0 k := fun v w => (hq 1374 0 k rfl).1
    have e4 : ∀ v w x : Int32, (am_wI (am_wI (am_wI τ 1368 0 k v) 1369 0 k w) 1370 0 k x).1 1375 0 k = σ.1 1375 0 k := fun v w x => (hq 1375 0 k rfl).1
    refine ⟨(Int32.ofInt ((k : Int) + 1), am_wI (am_wI (am_wI (am_wI τ 1368 0 k (σ.1 1372 0 k)) 1369 0 k (σ.1 1373 0 k)) 1370 0 k (σ.1 1374 0 k)) 1371 0 k (σ.1 1375 0 k)), N - (k + 1), ?_, by omega, k + 1, _, rfl, by omega, (((hq.wI rfl).wI rfl).wI rfl).wI rfl, fun i hi' => ?_, rfl⟩
    · simp (disch := omega) only [f_X12_orders_137, d54, e1, e2, e3, e4, Option.bind_some, qi, ql, qI_lt, qI_le, qI_eq, qI_L, qI_ix, qL_lt, qL_eq, q_nat, q_cs, ← Int32.ofInt_add, ← Int32.ofInt_sub, ← Int32.ofInt_mul, ← Int32.ofInt_neg, ← Int64.ofInt_add, ← Int64.ofInt_sub, ← Int64.ofInt_mul, ← Int64.ofInt_neg, pL_I, q_mx, q_mn, q_ab, q_abL, q_mnL, q_nn0, q_nn1, q_rr, q_b1, q_b0, q_T, q_F, q_iT, q_iF, q_d, q_in, q_wi, q_hC, q_hM, pT_i, pU_i, pS_i, pS_j, pS_0, Sum.elim_inl, Sum.elim_inr, if_pos, if_neg]
    · by_cases e : i = k
      · subst e
        simp [am_wI, am_u3]
      · have := hi i (by omega)
        simp [am_wI, am_u3, e]
        exact this
  · left
    have c5 : k = N := by omega
    subst c5
    refine ⟨τ, ?_, hq, hi⟩
    simp (disch := omega) only [f_X12_orders_137, d54, Option.bind_some, qi, ql, qI_lt, qI_le, qI_eq, qI_L, qI_ix, qL_lt, qL_eq, q_nat, q_cs, ← Int32.ofInt_add, ← Int32.ofInt_sub, ← Int32.ofInt_mul, ← Int32.ofInt_neg, ← Int64.ofInt_add, ← Int64.ofInt_sub, ← Int64.ofInt_mul, ← Int64.ofInt_neg, pL_I, q_mx, q_mn, q_ab, q_abL, q_mnL, q_nn0, q_nn1, q_rr, q_b1, q_b0, q_T, q_F, q_iT, q_iF, q_d, q_in, q_wi, q_hC, q_hM, pT_i, pU_i, pS_i, pS_j, pS_0, Sum.elim_inl, Sum.elim_inr, if_pos, if_neg]
def olC : List (Nat × Nat) := [(11, 0), (11, 7), (11, 8), (4, 999), (500, 999), (501, 999), (502, 999), (503, 999), (506, 999), (5, 1), (5, 2), (5, 3), (5, 4), (5, 5), (5, 6), (5, 7), (5, 8)]
def olM : List (Nat × Nat) := [(12, 0), (12, 1), (12, 8), (12, 9), (12, 10), (12, 11), (12, 12), (12, 13), (12, 14), (12, 15), (12, 16), (12, 17), (12, 18), (12, 19), (12, 54), (12, 55), (1368, 999), (1369, 999), (1370, 999), (1371, 999), (1372, 999), (1373, 999), (1374, 999), (1375, 999)]
theorem zR_f {r R d : Nat} {σ τ : am_H} (h : qz (zR r R d) σ τ) : qf olC σ τ := fun k i j hl => h k i j (by
  unfold qf_in olC at hl
  unfold zR qf_in tlC
  simp at hl ⊢
  omega)
theorem zS_f {s : Nat} {σ τ : am_H} (h : qz (zS s) σ τ) : qf olM σ τ := fun k i j hl => h k i j (by
  unfold qf_in olM at hl
  unfold zS qf_in tlM
  simp at hl ⊢
  omega)
theorem zR_p {r R d a : Nat} (h : a ≠ r) : ∀ k j, k ≠ 5 → zR r R d k a j = false := fun k j hk => by
  unfold zR
  rw [q_tlC hk, show (a == r) = false from beq_eq_false_iff_ne.mpr h]
  simp
set_option maxHeartbeats 2000000 in
theorem po_44 : am_op_44 pr_Rel := by
  intro σ1 σ2 h v1
  obtain ⟨k, k1, k2, rfl⟩ := q_ex v1
  have X := h.2.S 0
  obtain ⟨L, L0, l1, l2, l3⟩ := (show pr_tape σ1 (pS σ2 0) from X 2 (by omega))
  have l2' : (pS σ2 0).1 12 0 8 = Int32.ofInt L := l2
  by_cases c0 : 0 ≤ k ∧ k ≤ L ∧ k ≤ 300
  rotate_left
  · refine pr_ro h (Int32.ofInt (-1)) 5 ?_ ?_
    · by_cases c1 : k < 0
      · simp (disch := omega) only [f_X11_orders, f_X11_orders_22, f_X11_none, l1, Option.bind_some, qi, ql, qI_lt, qI_le, qI_eq, qI_L, qI_ix, qL_lt, qL_eq, q_nat, q_cs, ← Int32.ofInt_add, ← Int32.ofInt_sub, ← Int32.ofInt_mul, ← Int32.ofInt_neg, ← Int64.ofInt_add, ← Int64.ofInt_sub, ← Int64.ofInt_mul, ← Int64.ofInt_neg, pL_I, q_mx, q_mn, q_ab, q_abL, q_mnL, q_nn0, q_nn1, q_rr, q_b1, q_b0, q_T, q_F, q_iT, q_iF, q_d, q_in, q_wi, q_hC, q_hM, pT_i, pU_i, pS_i, pS_j, pS_0, Sum.elim_inl, Sum.elim_inr, if_pos, if_neg]
      · by_cases c2 : L < k
        · simp (disch := omega) only [f_X11_orders, f_X11_orders_22, f_X11_none, l1, Option.bind_some, qi, ql, qI_lt, qI_le, qI_eq, qI_L, qI_ix, qL_lt, qL_eq, q_nat, q_cs, ← Int32.ofInt_add, ← Int32.ofInt_sub, ← Int32.ofInt_mul, ← Int32.ofInt_neg, ← Int64.ofInt_add, ← Int64.ofInt_sub, ← Int64.ofInt_mul, ← Int64.ofInt_neg, pL_I, q_mx, q_mn, q_ab, q_abL, q_mnL, q_nn0, q_nn1, q_rr, q_b1, q_b0, q_T, q_F, q_iT, q_iF, q_d, q_in, q_wi, q_hC, q_hM, pT_i, pU_i, pS_i, pS_j, pS_0, Sum.elim_inl, Sum.elim_inr, if_pos, if_neg]
        · simp (disch := omega) only [f_X11_orders, f_X11_orders_22, f_X11_none, l1, Option.bind_some, qi, ql, qI_lt, qI_le, qI_eq, qI_L, qI_ix, qL_lt, qL_eq, q_nat, q_cs, ← Int32.ofInt_add, ← Int32.ofInt_sub, ← Int32.ofInt_mul, ← Int32.ofInt_neg, ← Int64.ofInt_add, ← Int64.ofInt_sub, ← Int64.ofInt_mul, ← Int64.ofInt_neg, pL_I, q_mx, q_mn, q_ab, q_abL, q_mnL, q_nn0, q_nn1, q_rr, q_b1, q_b0, q_T, q_F, q_iT, q_iF, q_d, q_in, q_wi, q_hC, q_hM, pT_i, pU_i, pS_i, pS_j, pS_0, Sum.elim_inl, Sum.elim_inr, if_pos, if_neg]
    · refine st_bs (x := pU σ2) (st_bs (x := pS σ2 0) ?_)
      by_cases c1 : k < 0
      · repeat (first | with_reducible refine st_pos rfl ?_ | with_reducible refine st_n0 ?_ | with_reducible refine st_neg Bool.false_ne_true ?_ | (with_reducible refine st_qin ?h1 ?h2 ?h3 ?h4 ?h5 ?h6 ?_; (case h1 => omega); (case h2 => omega); (case h3 => omega); (case h4 => omega); (case h5 => omega); (case h6 => omega)) | (with_reducible refine st_qwi ?h1 ?h2 ?h3 ?h4 ?h5 ?h6 ?_; (case h1 => omega); (case h2 => omega); (case h3 => omega); (case h4 => omega); (case h5 => omega); (case h6 => omega)) | (with_reducible refine st_qhC ?h1 ?h2 ?_; (case h1 => omega); (case h2 => omega)) | (with_reducible refine st_qhM ?h1 ?h2 ?_; (case h1 => omega); (case h2 => omega)) | with_reducible refine st_bs ?_ | (with_reducible refine st_in ?h1 ?h2 ?_; (case h1 => omega); (case h2 => omega)) | (with_reducible refine st_ix ?h1 ?h2 ?h3 ?_; (case h1 => omega); (case h2 => omega); (case h3 => omega)) | (with_reducible refine st_nn ?h1 ?_; (case h1 => omega)) | with_reducible refine st_bd (l2') ?_ | with_reducible refine st_bd (l2' _) ?_ | (with_reducible refine st_neg ?h1 ?_; case h1 => first | omega | (simp (disch := omega) only [l2', Option.bind_some, qi, ql, qI_lt, qI_le, qI_eq, qI_L, qI_ix, qL_lt, qL_eq, q_nat, q_cs, ← Int32.ofInt_add, ← Int32.ofInt_sub, ← Int32.ofInt_mul, ← Int32.ofInt_neg, ← Int64.ofInt_add, ← Int64.ofInt_sub, ← Int64.ofInt_mul, ← Int64.ofInt_neg, pL_I, q_mx, q_mn, q_ab, q_abL, q_mnL, q_nn0, q_nn1, q_rr, q_b1, q_b0, q_T, q_F, q_iT, q_iF, q_d, q_in, q_wi, q_hC, q_hM, pT_i, pU_i, pS_i, pS_j, pS_0, Sum.elim_inl, Sum.elim_inr, if_pos, if_neg] <;> omega)) | (with_reducible refine st_pos ?h1 ?_; case h1 => first | omega | (simp (disch := omega) only [l2', Option.bind_some, qi, ql, qI_lt, qI_le, qI_eq, qI_L, qI_ix, qL_lt, qL_eq, q_nat, q_cs, ← Int32.ofInt_add, ← Int32.ofInt_sub, ← Int32.ofInt_mul, ← Int32.ofInt_neg, ← Int64.ofInt_add, ← Int64.ofInt_sub, ← Int64.ofInt_mul, ← Int64.ofInt_neg, pL_I, q_mx, q_mn, q_ab, q_abL, q_mnL, q_nn0, q_nn1, q_rr, q_b1, q_b0, q_T, q_F, q_iT, q_iF, q_d, q_in, q_wi, q_hC, q_hM, pT_i, pU_i, pS_i, pS_j, pS_0, Sum.elim_inl, Sum.elim_inr, if_pos, if_neg] <;> omega)))
        simp (disch := omega) only [f_X12_orders_29, f_X12_refuse, Option.bind_some, qi, ql, qI_lt, qI_le, qI_eq, qI_L, qI_ix, qL_lt, qL_eq, q_nat, q_cs, ← Int32.ofInt_add, ← Int32.ofInt_sub, ← Int32.ofInt_mul, ← Int32.ofInt_neg, ← Int64.ofInt_add, ← Int64.ofInt_sub, ← Int64.ofInt_mul, ← Int64.ofInt_neg, pL_I, q_mx, q_mn, q_ab, q_abL, q_mnL, q_nn0, q_nn1, q_rr, q_b1, q_b0, q_T, q_F, q_iT, q_iF, q_d, q_in, q_wi, q_hC, q_hM, pT_i, pU_i, pS_i, pS_j, pS_0, Sum.elim_inl, Sum.elim_inr, if_pos, if_neg]
      · by_cases c2 : L < k
        · repeat (first | with_reducible refine st_pos rfl ?_ | with_reducible refine st_n0 ?_ | with_reducible refine st_neg Bool.false_ne_true ?_ | (with_reducible refine st_qin ?h1 ?h2 ?h3 ?h4 ?h5 ?h6 ?_; (case h1 => omega); (case h2 => omega); (case h3 => omega); (case h4 => omega); (case h5 => omega); (case h6 => omega)) | (with_reducible refine st_qwi ?h1 ?h2 ?h3 ?h4 ?h5 ?h6 ?_; (case h1 => omega); (case h2 => omega); (case h3 => omega); (case h4 => omega); (case h5 => omega); (case h6 => omega)) | (with_reducible refine st_qhC ?h1 ?h2 ?_; (case h1 => omega); (case h2 => omega)) | (with_reducible refine st_qhM ?h1 ?h2 ?_; (case h1 => omega); (case h2 => omega)) | with_reducible refine st_bs ?_ | (with_reducible refine st_in ?h1 ?h2 ?_; (case h1 => omega); (case h2 => omega)) | (with_reducible refine st_ix ?h1 ?h2 ?h3 ?_; (case h1 => omega); (case h2 => omega); (case h3 => omega)) | (with_reducible refine st_nn ?h1 ?_; (case h1 => omega)) | with_reducible refine st_bd (l2') ?_ | with_reducible refine st_bd (l2' _) ?_ | (with_reducible refine st_neg ?h1 ?_; case h1 => first | omega | (simp (disch := omega) only [l2', Option.bind_some, qi, ql, qI_lt, qI_le, qI_eq, qI_L, qI_ix, qL_lt, qL_eq, q_nat, q_cs, ← Int32.ofInt_add, ← Int32.ofInt_sub, ← Int32.ofInt_mul, ← Int32.ofInt_neg, ← Int64.ofInt_add, ← Int64.ofInt_sub, ← Int64.ofInt_mul, ← Int64.ofInt_neg, pL_I, q_mx, q_mn, q_ab, q_abL, q_mnL, q_nn0, q_nn1, q_rr, q_b1, q_b0, q_T, q_F, q_iT, q_iF, q_d, q_in, q_wi, q_hC, q_hM, pT_i, pU_i, pS_i, pS_j, pS_0, Sum.elim_inl, Sum.elim_inr, if_pos, if_neg] <;> omega)) | (with_reducible refine st_pos ?h1 ?_; case h1 => first | omega | (simp (disch := omega) only [l2', Option.bind_some, qi, ql, qI_lt, qI_le, qI_eq, qI_L, qI_ix, qL_lt, qL_eq, q_nat, q_cs, ← Int32.ofInt_add, ← Int32.ofInt_sub, ← Int32.ofInt_mul, ← Int32.ofInt_neg, ← Int64.ofInt_add, ← Int64.ofInt_sub, ← Int64.ofInt_mul, ← Int64.ofInt_neg, pL_I, q_mx, q_mn, q_ab, q_abL, q_mnL, q_nn0, q_nn1, q_rr, q_b1, q_b0, q_T, q_F, q_iT, q_iF, q_d, q_in, q_wi, q_hC, q_hM, pT_i, pU_i, pS_i, pS_j, pS_0, Sum.elim_inl, Sum.elim_inr, if_pos, if_neg] <;> omega)))
          simp (disch := omega) only [f_X12_orders_29, f_X12_refuse, Option.bind_some, qi, ql, qI_lt, qI_le, qI_eq, qI_L, qI_ix, qL_lt, qL_eq, q_nat, q_cs, ← Int32.ofInt_add, ← Int32.ofInt_sub, ← Int32.ofInt_mul, ← Int32.ofInt_neg, ← Int64.ofInt_add, ← Int64.ofInt_sub, ← Int64.ofInt_mul, ← Int64.ofInt_neg, pL_I, q_mx, q_mn, q_ab, q_abL, q_mnL, q_nn0, q_nn1, q_rr, q_b1, q_b0, q_T, q_F, q_iT, q_iF, q_d, q_in, q_wi, q_hC, q_hM, pT_i, pU_i, pS_i, pS_j, pS_0, Sum.elim_inl, Sum.elim_inr, if_pos, if_neg]
        · repeat (first | with_reducible refine st_pos rfl ?_ | with_reducible refine st_n0 ?_ | with_reducible refine st_neg Bool.false_ne_true ?_ | (with_reducible refine st_qin ?h1 ?h2 ?h3 ?h4 ?h5 ?h6 ?_; (case h1 => omega); (case h2 => omega); (case h3 => omega); (case h4 => omega); (case h5 => omega); (case h6 => omega)) | (with_reducible refine st_qwi ?h1 ?h2 ?h3 ?h4 ?h5 ?h6 ?_; (case h1 => omega); (case h2 => omega); (case h3 => omega); (case h4 => omega); (case h5 => omega); (case h6 => omega)) | (with_reducible refine st_qhC ?h1 ?h2 ?_; (case h1 => omega); (case h2 => omega)) | (with_reducible refine st_qhM ?h1 ?h2 ?_; (case h1 => omega); (case h2 => omega)) | with_reducible refine st_bs ?_ | (with_reducible refine st_in ?h1 ?h2 ?_; (case h1 => omega); (case h2 => omega)) | (with_reducible refine st_ix ?h1 ?h2 ?h3 ?_; (case h1 => omega); (case h2 => omega); (case h3 => omega)) | (with_reducible refine st_nn ?h1 ?_; (case h1 => omega)) | with_reducible refine st_bd (l2') ?_ | with_reducible refine st_bd (l2' _) ?_ | (with_reducible refine st_neg ?h1 ?_; case h1 => first | omega | (simp (disch := omega) only [l2', Option.bind_some, qi, ql, qI_lt, qI_le, qI_eq, qI_L, qI_ix, qL_lt, qL_eq, q_nat, q_cs, ← Int32.ofInt_add, ← Int32.ofInt_sub, ← Int32.ofInt_mul, ← Int32.ofInt_neg, ← Int64.ofInt_add, ← Int64.ofInt_sub, ← Int64.ofInt_mul, ← Int64.ofInt_neg, pL_I, q_mx, q_mn, q_ab, q_abL, q_mnL, q_nn0, q_nn1, q_rr, q_b1, q_b0, q_T, q_F, q_iT, q_iF, q_d, q_in, q_wi, q_hC, q_hM, pT_i, pU_i, pS_i, pS_j, pS_0, Sum.elim_inl, Sum.elim_inr, if_pos, if_neg] <;> omega)) | (with_reducible refine st_pos ?h1 ?_; case h1 => first | omega | (simp (disch := omega) only [l2', Option.bind_some, qi, ql, qI_lt, qI_le, qI_eq, qI_L, qI_ix, qL_lt, qL_eq, q_nat, q_cs, ← Int32.ofInt_add, ← Int32.ofInt_sub, ← Int32.ofInt_mul, ← Int32.ofInt_neg, ← Int64.ofInt_add, ← Int64.ofInt_sub, ← Int64.ofInt_mul, ← Int64.ofInt_neg, pL_I, q_mx, q_mn, q_ab, q_abL, q_mnL, q_nn0, q_nn1, q_rr, q_b1, q_b0, q_T, q_F, q_iT, q_iF, q_d, q_in, q_wi, q_hC, q_hM, pT_i, pU_i, pS_i, pS_j, pS_0, Sum.elim_inl, Sum.elim_inr, if_pos, if_neg] <;> omega)))
          simp (disch := omega) only [f_X12_orders_29, f_X12_refuse, Option.bind_some, qi, ql, qI_lt, qI_le, qI_eq, qI_L, qI_ix, qL_lt, qL_eq, q_nat, q_cs, ← Int32.ofInt_add, ← Int32.ofInt_sub, ← Int32.ofInt_mul, ← Int32.ofInt_neg, ← Int64.ofInt_add, ← Int64.ofInt_sub, ← Int64.ofInt_mul, ← Int64.ofInt_neg, pL_I, q_mx, q_mn, q_ab, q_abL, q_mnL, q_nn0, q_nn1, q_rr, q_b1, q_b0, q_T, q_F, q_iT, q_iF, q_d, q_in, q_wi, q_hC, q_hM, pT_i, pU_i, pS_i, pS_j, pS_0, Sum.elim_inl, Sum.elim_inr, if_pos, if_neg]
  obtain ⟨n, rfl⟩ : ∃ n : Nat, k = n := ⟨k.toNat, by omega⟩
  obtain ⟨b, hb⟩ : ∃ b : Nat → Int, ∀ j, j < n → (-128 ≤ b j ∧ b j ≤ 127) ∧ σ1.1 600 0 j = Int32.ofInt (b j) ∧ (pS σ2 0).1 1307 0 j = Int32.ofInt (b j) := by
    refine ⟨fun j => (σ1.1 600 0 j).toInt, fun j hj => ?_⟩
    obtain ⟨v, vb, e1, e2⟩ := l3 j (by omega)
    have et : (σ1.1 600 0 j).toInt = v := by rw [e1]; exact pI_to ⟨by omega, by omega⟩
    simp only [et]
    exact ⟨vb, e1, e2⟩
  obtain ⟨β, hβ⟩ : ∃ β : am_H, β = am_wI (am_wI (am_wI (am_wI σ1 5 0 2 (Int32.ofInt (n : Int))) 5 0 5 (Int32.ofInt 0)) 5 0 7 (Int32.ofInt 0)) 5 0 8 (Int32.ofInt (-1)) := ⟨_, rfl⟩
  have Qβ : qf olC σ1 β := by rw [hβ]; exact (((qf.rf.wI rfl).wI rfl).wI rfl).wI rfl
  have Cβ : tC β n b := ⟨by omega, by rw [hβ]; rfl, fun j hj => ⟨(hb j hj).1, by rw [hβ]; exact (hb j hj).2.1⟩⟩
  obtain ⟨γ, hγ⟩ : ∃ γ : am_H, γ = am_wI (am_wI (am_wI (am_wI (am_wI (pS σ2 0) 12 0 9 (Int32.ofInt (n : Int))) 12 0 8 0) 12 0 16 0) 12 0 12 0) 12 0 55 0 := ⟨_, rfl⟩
  have Qγ : qf olM (pS σ2 0) γ := by rw [hγ]; exact ((((qf.rf.wI rfl).wI rfl).wI rfl).wI rfl).wI rfl
  have Mγ : tM γ n b := ⟨by omega, by rw [hγ]; rfl, fun j hj => ⟨(hb j hj).1, by rw [hγ]; exact (hb j hj).2.2⟩⟩
  obtain ⟨τ1, τ2, s, p, e, t1, t2, t3, t4, t5, t6⟩ := tk_from (q := 0) Cβ Mγ (by rw [hβ]; rfl) (by rw [hγ]; rfl) (by omega) (by rw [hβ]; exact ⟨rfl, rfl⟩)
  have gτ : gd τ2 := ((t6 12 0 12 rfl).1).trans (by rw [hγ]; rfl)
  obtain ⟨pp, qq, ⟨pb, qb, pq⟩, r7, r8, N, R, m, ⟨nb1, nb2⟩, g4, g5, g54, gseg⟩ := (show pr_prog σ1 (pS σ2 0) from X 5 (by omega))
  have Q5 : qf olC σ1 τ1 := Qβ.tr (t5.mo (by decide))
  obtain ⟨μ, hμ⟩ : ∃ μ : am_H, μ = am_wI (am_wI (am_wI τ1 4 qq 4 0) 4 qq 5 0) 4 qq 7 0 := ⟨_, rfl⟩
  have Qμ : qf [(4, 4), (4, 5), (4, 7)] τ1 μ := by rw [hμ]; exact ((qf.rf.wI rfl).wI rfl).wI rfl
  have Zμ : qz (zR qq 0 0) τ1 μ := by rw [hμ]; exact ((qz.rf.wI zR_c.1).wI zR_c.2.1).wI zR_c.2.2
  have tμ := t3.q Qμ (by decide +kernel) (qf.rf (l := [])) (by decide +kernel)
  have cμ : cn μ τ2 qq 0 0 0 := ⟨by rw [hμ]; simp [am_wI, am_u3], by rw [hμ]; simp [am_wI, am_u3], by rw [hμ]; simp [am_wI, am_u3], ((t6 12 0 55 rfl).1).trans (by rw [hγ]; rfl), by omega, by omega⟩
  have r8τ : τ1.2.2 11 0 8 = some qq := ((t5 11 0 8 rfl).2.2).trans (by rw [hβ]; exact r8)
  have rr8 : am_rr 2 (τ1.2.2 11 0 8) = some qq := by rw [r8τ]; exact q_rr qb
  have bg : f_X5_begin (Int32.ofInt (n : Int)) σ1 = some τ1 := by
    have em : max 0 (min (n : Int) L) = n := by omega
    simp (disch := omega) only [f_X5_begin, l1, em, Option.bind_some, qi, ql, qI_lt, qI_le, qI_eq, qI_L, qI_ix, qL_lt, qL_eq, q_nat, q_cs, ← Int32.ofInt_add, ← Int32.ofInt_sub, ← Int32.ofInt_mul, ← Int32.ofInt_neg, ← Int64.ofInt_add, ← Int64.ofInt_sub, ← Int64.ofInt_mul, ← Int64.ofInt_neg, pL_I, q_mx, q_mn, q_ab, q_abL, q_mnL, q_nn0, q_nn1, q_rr, q_b1, q_b0, q_T, q_F, q_iT, q_iF, q_d, q_in, q_wi, q_hC, q_hM, pT_i, pU_i, pS_i, pS_j, pS_0, Sum.elim_inl, Sum.elim_inr, if_pos, if_neg]
    rw [← hβ, t1]
    rfl
  have eC : f_X11_orders (Int32.ofInt (n : Int)) σ1 = (ocC qq (Int32.ofInt 0) μ).bind fun p6 => (f_X5_empty p6.2).bind fun p7 => if p6.1 = true then ((am_rr 2 (p7.2.2 11 0 7)).bind fun a9 => (am_rr 2 (p7.2.2 11 0 8)).bind fun a10 => (some (am_wR p7 11 0 7 (some a10))).bind fun s11 => (some (am_wR s11 11 0 8 (some a9))).bind fun s12 => (am_rr 2 (s12.2.2 11 0 7)).bind fun a13 => (f_X11_answer (s12.1 4 a13 5) s12).bind fun p14 => some (p14.1, p14.2)) else (f_X11_none 10 p7).bind fun p15 => some (p15.1, p15.2) := by
    unfold f_X11_orders
    repeat (first | with_reducible refine st_pos rfl ?_ | with_reducible refine st_n0 ?_ | with_reducible refine st_neg Bool.false_ne_true ?_ | (with_reducible refine st_qin ?h1 ?h2 ?h3 ?h4 ?h5 ?h6 ?_; (case h1 => omega); (case h2 => omega); (case h3 => omega); (case h4 => omega); (case h5 => omega); (case h6 => omega)) | (with_reducible refine st_qwi ?h1 ?h2 ?h3 ?h4 ?h5 ?h6 ?_; (case h1 => omega); (case h2 => omega); (case h3 => omega); (case h4 => omega); (case h5 => omega); (case h6 => omega)) | (with_reducible refine st_qhC ?h1 ?h2 ?_; (case h1 => omega); (case h2 => omega)) | (with_reducible refine st_qhM ?h1 ?h2 ?_; (case h1 => omega); (case h2 => omega)) | with_reducible refine st_bs ?_ | (with_reducible refine st_in ?h1 ?h2 ?_; (case h1 => omega); (case h2 => omega)) | (with_reducible refine st_ix ?h1 ?h2 ?h3 ?_; (case h1 => omega); (case h2 => omega); (case h3 => omega)) | (with_reducible refine st_nn ?h1 ?_; (case h1 => omega)) | with_reducible refine st_bd (l1) ?_ | with_reducible refine st_bd (l1 _) ?_ | with_reducible refine st_bd (bg) ?_ | with_reducible refine st_bd (bg _) ?_ | with_reducible refine st_bd (rr8) ?_ | with_reducible refine st_bd (rr8 _) ?_ | (with_reducible refine st_neg ?h1 ?_; case h1 => first | omega | (simp (disch := omega) only [l1, bg, rr8, Option.bind_some, qi, ql, qI_lt, qI_le, qI_eq, qI_L, qI_ix, qL_lt, qL_eq, q_nat, q_cs, ← Int32.ofInt_add, ← Int32.ofInt_sub, ← Int32.ofInt_mul, ← Int32.ofInt_neg, ← Int64.ofInt_add, ← Int64.ofInt_sub, ← Int64.ofInt_mul, ← Int64.ofInt_neg, pL_I, q_mx, q_mn, q_ab, q_abL, q_mnL, q_nn0, q_nn1, q_rr, q_b1, q_b0, q_T, q_F, q_iT, q_iF, q_d, q_in, q_wi, q_hC, q_hM, pT_i, pU_i, pS_i, pS_j, pS_0, Sum.elim_inl, Sum.elim_inr, if_pos, if_neg] <;> omega)) | (with_reducible refine st_pos ?h1 ?_; case h1 => first | omega | (simp (disch := omega) only [l1, bg, rr8, Option.bind_some, qi, ql, qI_lt, qI_le, qI_eq, qI_L, qI_ix, qL_lt, qL_eq, q_nat, q_cs, ← Int32.ofInt_add, ← Int32.ofInt_sub, ← Int32.ofInt_mul, ← Int32.ofInt_neg, ← Int64.ofInt_add, ← Int64.ofInt_sub, ← Int64.ofInt_mul, ← Int64.ofInt_neg, pL_I, q_mx, q_mn, q_ab, q_abL, q_mnL, q_nn0, q_nn1, q_rr, q_b1, q_b0, q_T, q_F, q_iT, q_iF, q_d, q_in, q_wi, q_hC, q_hM, pT_i, pU_i, pS_i, pS_j, pS_0, Sum.elim_inl, Sum.elim_inr, if_pos, if_neg] <;> omega)))
    rw [hμ]
    rfl
  have eR : f_X12_orders (Int32.ofInt (n : Int)) σ2 = (am_loop (fun s : am_H => f_X12_orders_64 s) τ2).bind fun w12 => (some (am_wI w12 12 0 10 (w12.1 12 0 12))).bind fun s13 => if (s13.1 12 0 12) = 0 then (f_X12_orders_110 (-1) s13) else f_X12_orders_110 (s13.1 12 0 13) s13 := by
    refine st_bs (x := pU σ2) (st_bs (x := pS σ2 0) ?_)
    have t2' : f_X12_next (am_wI (am_wI (am_wI (am_wI (am_wI (pS σ2 0) 12 0 9 (Int32.ofInt (n : Int))) 12 0 8 0) 12 0 16 0) 12 0 12 0) 12 0 55 0) = some τ2 := by rw [← hγ]; exact t2
    repeat (first | with_reducible refine st_pos rfl ?_ | with_reducible refine st_n0 ?_ | with_reducible refine st_neg Bool.false_ne_true ?_ | (with_reducible refine st_qin ?h1 ?h2 ?h3 ?h4 ?h5 ?h6 ?_; (case h1 => omega); (case h2 => omega); (case h3 => omega); (case h4 => omega); (case h5 => omega); (case h6 => omega)) | (with_reducible refine st_qwi ?h1 ?h2 ?h3 ?h4 ?h5 ?h6 ?_; (case h1 => omega); (case h2 => omega); (case h3 => omega); (case h4 => omega); (case h5 => omega); (case h6 => omega)) | (with_reducible refine st_qhC ?h1 ?h2 ?_; (case h1 => omega); (case h2 => omega)) | (with_reducible refine st_qhM ?h1 ?h2 ?_; (case h1 => omega); (case h2 => omega)) | with_reducible refine st_bs ?_ | (with_reducible refine st_in ?h1 ?h2 ?_; (case h1 => omega); (case h2 => omega)) | (with_reducible refine st_ix ?h1 ?h2 ?h3 ?_; (case h1 => omega); (case h2 => omega); (case h3 => omega)) | (with_reducible refine st_nn ?h1 ?_; (case h1 => omega)) | with_reducible refine st_bd (l2') ?_ | with_reducible refine st_bd (l2' _) ?_ | with_reducible refine st_bd (t2') ?_ | with_reducible refine st_bd (t2' _) ?_ | (with_reducible refine st_neg ?h1 ?_; case h1 => first | omega | (simp (disch := omega) only [l2', t2', Option.bind_some, qi, ql, qI_lt, qI_le, qI_eq, qI_L, qI_ix, qL_lt, qL_eq, q_nat, q_cs, ← Int32.ofInt_add, ← Int32.ofInt_sub, ← Int32.ofInt_mul, ← Int32.ofInt_neg, ← Int64.ofInt_add, ← Int64.ofInt_sub, ← Int64.ofInt_mul, ← Int64.ofInt_neg, pL_I, q_mx, q_mn, q_ab, q_abL, q_mnL, q_nn0, q_nn1, q_rr, q_b1, q_b0, q_T, q_F, q_iT, q_iF, q_d, q_in, q_wi, q_hC, q_hM, pT_i, pU_i, pS_i, pS_j, pS_0, Sum.elim_inl, Sum.elim_inr, if_pos, if_neg] <;> omega)) | (with_reducible refine st_pos ?h1 ?_; case h1 => first | omega | (simp (disch := omega) only [l2', t2', Option.bind_some, qi, ql, qI_lt, qI_le, qI_eq, qI_L, qI_ix, qL_lt, qL_eq, q_nat, q_cs, ← Int32.ofInt_add, ← Int32.ofInt_sub, ← Int32.ofInt_mul, ← Int32.ofInt_neg, ← Int64.ofInt_add, ← Int64.ofInt_sub, ← Int64.ofInt_mul, ← Int64.ofInt_neg, pL_I, q_mx, q_mn, q_ab, q_abL, q_mnL, q_nn0, q_nn1, q_rr, q_b1, q_b0, q_T, q_F, q_iT, q_iF, q_d, q_in, q_wi, q_hC, q_hM, pT_i, pU_i, pS_i, pS_j, pS_0, Sum.elim_inl, Sum.elim_inr, if_pos, if_neg] <;> omega)))
    rfl
  rw [eC, eR]
  have QM0 : qf olM σ2 τ2 := (pS_f.mo (by decide)).tr (Qγ.tr (t6.mo (by decide)))
  have QC0 : qf olC σ1 μ := Q5.tr (zR_f Zμ)
  have rk : ∀ κ1 : am_H, qz (zR qq 0 0) μ κ1 → ∀ j, κ1.2.2 11 0 j = σ1.2.2 11 0 j := fun κ1 d7 j => by
    rw [(d7 11 0 j (by unfold zR; rw [q_tlC (by omega)]; rfl)).2.2, (Qμ 11 0 j rfl).2.2, (t5 11 0 j rfl).2.2, hβ]
    rfl
  have base2 : ∀ κ2 : am_H, qz (zS 0) τ2 κ2 → ∀ j, j = 0 ∨ j = 8 → κ2.1 12 0 j = Int32.ofInt 0 := fun κ2 d8 j hj => by
    rcases hj with rfl | rfl
    · rw [(d8 12 0 0 rfl).1, (t6 12 0 0 rfl).1, hγ]
      rfl
    · rw [(d8 12 0 8 rfl).1, (t6 12 0 8 rfl).1, hγ]
      rfl
  rcases go_all (r := qq) (n + 1) μ τ2 s p e 0 0 (by omega) tμ gτ cμ with ⟨κ1, κ2, R', s', m', d1, d2, d3, dF, ⟨y4, y5, y7, y55, yi, yj⟩, ds, d7, d8⟩ | ⟨κ1, κ2, d1, d2, ⟨kk, q, d3, d4⟩, d7, d8⟩
  rotate_left
  · -- FAULTY
    have d1' : ocC qq (Int32.ofInt 0) μ = some (false, κ1) := d1
    have b12 : (am_wI κ2 12 0 10 (Int32.ofInt kk)).1 12 0 12 = Int32.ofInt kk := d4.2.1
    have b13 : (am_wI κ2 12 0 10 (Int32.ofInt kk)).1 12 0 13 = Int32.ofInt (q : Int) := d4.2.2
    have c12 : (am_wI (am_wI κ2 12 0 10 (Int32.ofInt kk)) 12 0 11 (Int32.ofInt (q : Int))).1 12 0 12 = Int32.ofInt kk := d4.2.1
    have kb := d4.1
    have e12 := d4.2.1
    have QF : qf olC σ1 (pT (am_wI κ1 5 0 1 (Int32.ofInt 0)) 10) := ((QC0.tr (zR_f d7)).wI rfl).wI rfl
    have QR : qf olM σ2 (am_wI (am_wI (am_wI κ2 12 0 10 (Int32.ofInt kk)) 12 0 11 (Int32.ofInt (q : Int))) 12 0 0 (Int32.ofInt 10)) := (((QM0.tr (zS_f d8)).wI rfl).wI rfl).wI rfl
    refine ⟨Int32.ofInt (-1), pT (am_wI κ1 5 0 1 (Int32.ofInt 0)) 10, am_wI (am_wI (am_wI κ2 12 0 10 (Int32.ofInt kk)) 12 0 11 (Int32.ofInt (q : Int))) 12 0 0 (Int32.ofInt 10), ?_, ?_, rfl, ?_⟩
    · rw [d1']
      simp (disch := omega) only [f_X5_empty, f_X11_none, Option.bind_some, qi, ql, qI_lt, qI_le, qI_eq, qI_L, qI_ix, qL_lt, qL_eq, q_nat, q_cs, ← Int32.ofInt_add, ← Int32.ofInt_sub, ← Int32.ofInt_mul, ← Int32.ofInt_neg, ← Int64.ofInt_add, ← Int64.ofInt_sub, ← Int64.ofInt_mul, ← Int64.ofInt_neg, pL_I, q_mx, q_mn, q_ab, q_abL, q_mnL, q_nn0, q_nn1, q_rr, q_b1, q_b0, q_T, q_F, q_iT, q_iF, q_d, q_in, q_wi, q_hC, q_hM, pT_i, pU_i, pS_i, pS_j, pS_0, Sum.elim_inl, Sum.elim_inr, if_pos, if_neg]
    · rw [d2]
      simp (disch := omega) only [f_X12_orders_110, f_X12_refuse, e12, b12, b13, c12, Option.bind_some, qi, ql, qI_lt, qI_le, qI_eq, qI_L, qI_ix, qL_lt, qL_eq, q_nat, q_cs, ← Int32.ofInt_add, ← Int32.ofInt_sub, ← Int32.ofInt_mul, ← Int32.ofInt_neg, ← Int64.ofInt_add, ← Int64.ofInt_sub, ← Int64.ofInt_mul, ← Int64.ofInt_neg, pL_I, q_mx, q_mn, q_ab, q_abL, q_mnL, q_nn0, q_nn1, q_rr, q_b1, q_b0, q_T, q_F, q_iT, q_iF, q_d, q_in, q_wi, q_hC, q_hM, pT_i, pU_i, pS_i, pS_j, pS_0, Sum.elim_inl, Sum.elim_inr, if_pos, if_neg]
    · refine h.2.st olC olM [2, 3, 5] (by decide +kernel) QF QR ?_
      intro N' hN
      simp only [List.mem_cons, List.not_mem_nil, or_false] at hN
      rcases hN with rfl | rfl | rfl
      · exact ⟨0, by omega, rfl, base2 κ2 d8 8 (by omega), fun j hj => by omega⟩
      · exact ⟨d3.1, d3.2⟩
      · have zp := zR_p (r := qq) (R := 0) (d := 0) pq
        have C1 : ∀ k j, k ≠ 5 → κ1.1 k pp j = σ1.1 k pp j := fun k j hk => by
          rw [(d7 k pp j (zp k j hk)).1, (Zμ k pp j (zp k j hk)).1, (t5 k pp j (by unfold qf_in; simp; omega)).1, hβ]
          simp only [am_wI_r]
          rw [if_neg (by omega), if_neg (by omega), if_neg (by omega), if_neg (by omega)]
        have M1 : ∀ k j, k = 1368 ∨ k = 1369 ∨ k = 1370 ∨ k = 1371 → κ2.1 k 0 j = (pS σ2 0).1 k 0 j := fun k j hk => by
          rw [(d8 k 0 j (by unfold zS; rw [q_tlM (by omega)]; rcases hk with rfl | rfl | rfl | rfl <;> rfl)).1, (t6 k 0 j (by rcases hk with rfl | rfl | rfl | rfl <;> rfl)).1, hγ]
          simp only [am_wI_r]
          rw [if_neg (by omega), if_neg (by omega), if_neg (by omega), if_neg (by omega), if_neg (by omega)]
        have M54 : κ2.1 12 0 54 = (pS σ2 0).1 12 0 54 := by
          rw [(d8 12 0 54 rfl).1, (t6 12 0 54 rfl).1, hγ]
          rfl
        refine ⟨pp, qq, ⟨pb, qb, pq⟩, (rk κ1 d7 7).trans r7, (rk κ1 d7 8).trans r8, N, R, m, ⟨nb1, nb2⟩, (C1 4 4 (by omega)).trans g4, (C1 4 5 (by omega)).trans g5, M54.trans g54, ?_⟩
        exact pg_seg_c _ _ _ _ _ _ gseg (fun i _ _ => ⟨C1 500 i (by omega), C1 501 i (by omega), C1 502 i (by omega), C1 503 i (by omega)⟩) (fun i _ _ => ⟨M1 1368 i (by omega), M1 1369 i (by omega), M1 1370 i (by omega), M1 1371 i (by omega)⟩)
  -- taken
  have d1' : ocC qq (Int32.ofInt 0) μ = some (true, κ1) := d1
  have d3' : κ2.1 12 0 12 = Int32.ofInt 0 := d3
  have rp : κ1.2.2 11 0 7 = some pp := (rk κ1 d7 7).trans r7
  have rq : κ1.2.2 11 0 8 = some qq := (rk κ1 d7 8).trans r8
  obtain ⟨ν, hν⟩ : ∃ ν : am_H, ν = am_wI (am_wI (am_wI κ2 12 0 10 (Int32.ofInt 0)) 12 0 11 (Int32.ofInt (-1))) 12 0 54 (Int32.ofInt (s' : Int)) := ⟨_, rfl⟩
  obtain ⟨ω, x1', x2', x3'⟩ := mo_137 (σ := ν) yj (by rw [hν]; rfl)
  have QR : qf olM σ2 ω := by
    have Qν : qf olM σ2 ν := by rw [hν]; exact (((QM0.tr (zS_f d8)).wI rfl).wI rfl).wI rfl
    exact Qν.tr (x2'.mo (by decide))
  have QF : qf olC σ1 (pT (am_wR (am_wR (am_wI κ1 5 0 1 (Int32.ofInt 0)) 11 0 7 (some qq)) 11 0 8 (some pp)) 0) := ((((QC0.tr (zR_f d7)).wI rfl).wR rfl).wR rfl).wI rfl
  have w54 : ω.1 12 0 54 = Int32.ofInt (s' : Int) := by
    rw [(x2' 12 0 54 rfl).1, hν]
    rfl
  refine ⟨Int32.ofInt (s' : Int), pT (am_wR (am_wR (am_wI κ1 5 0 1 (Int32.ofInt 0)) 11 0 7 (some qq)) 11 0 8 (some pp)) 0, ω, ?_, ?_, ?_, ?_⟩
  · rw [d1']
    have e1 : am_rr 2 ((am_wI κ1 5 0 1 0).2.2 11 0 7) = some pp := by show am_rr 2 (κ1.2.2 11 0 7) = _; rw [rp]; exact q_rr pb
    have e2 : am_rr 2 ((am_wI κ1 5 0 1 0).2.2 11 0 8) = some qq := by show am_rr 2 (κ1.2.2 11 0 8) = _; rw [rq]; exact q_rr qb
    have e3 : am_rr 2 ((am_wR (am_wR (am_wI κ1 5 0 1 0) 11 0 7 (some qq)) 11 0 8 (some pp)).2.2 11 0 7) = some qq := by
      rw [am_wR_r, if_neg (by omega), am_wR_r, if_pos ⟨rfl, rfl, rfl⟩]
      exact q_rr qb
    have e4 : (am_wR (am_wR (am_wI κ1 5 0 1 0) 11 0 7 (some qq)) 11 0 8 (some pp)).1 4 qq 5 = Int32.ofInt (s' : Int) := y5
    have em0 : f_X5_empty κ1 = some (am_wI κ1 5 0 1 0) := rfl
    refine st_bs ?_
    show (f_X5_empty κ1).bind _ = _
    repeat (first | with_reducible refine st_pos rfl ?_ | with_reducible refine st_n0 ?_ | with_reducible refine st_neg Bool.false_ne_true ?_ | (with_reducible refine st_qin ?h1 ?h2 ?h3 ?h4 ?h5 ?h6 ?_; (case h1 => omega); (case h2 => omega); (case h3 => omega); (case h4 => omega); (case h5 => omega); (case h6 => omega)) | (with_reducible refine st_qwi ?h1 ?h2 ?h3 ?h4 ?h5 ?h6 ?_; (case h1 => omega); (case h2 => omega); (case h3 => omega); (case h4 => omega); (case h5 => omega); (case h6 => omega)) | (with_reducible refine st_qhC ?h1 ?h2 ?_; (case h1 => omega); (case h2 => omega)) | (with_reducible refine st_qhM ?h1 ?h2 ?_; (case h1 => omega); (case h2 => omega)) | with_reducible refine st_bs ?_ | (with_reducible refine st_in ?h1 ?h2 ?_; (case h1 => omega); (case h2 => omega)) | (with_reducible refine st_ix ?h1 ?h2 ?h3 ?_; (case h1 => omega); (case h2 => omega); (case h3 => omega)) | (with_reducible refine st_nn ?h1 ?_; (case h1 => omega)) | with_reducible refine st_bd (em0) ?_ | with_reducible refine st_bd (em0 _) ?_ | with_reducible refine st_bd (e1) ?_ | with_reducible refine st_bd (e1 _) ?_ | with_reducible refine st_bd (e2) ?_ | with_reducible refine st_bd (e2 _) ?_ | with_reducible refine st_bd (e3) ?_ | with_reducible refine st_bd (e3 _) ?_ | (with_reducible refine st_neg ?h1 ?_; case h1 => first | omega | (simp (disch := omega) only [em0, e1, e2, e3, Option.bind_some, qi, ql, qI_lt, qI_le, qI_eq, qI_L, qI_ix, qL_lt, qL_eq, q_nat, q_cs, ← Int32.ofInt_add, ← Int32.ofInt_sub, ← Int32.ofInt_mul, ← Int32.ofInt_neg, ← Int64.ofInt_add, ← Int64.ofInt_sub, ← Int64.ofInt_mul, ← Int64.ofInt_neg, pL_I, q_mx, q_mn, q_ab, q_abL, q_mnL, q_nn0, q_nn1, q_rr, q_b1, q_b0, q_T, q_F, q_iT, q_iF, q_d, q_in, q_wi, q_hC, q_hM, pT_i, pU_i, pS_i, pS_j, pS_0, Sum.elim_inl, Sum.elim_inr, if_pos, if_neg] <;> omega)) | (with_reducible refine st_pos ?h1 ?_; case h1 => first | omega | (simp (disch := omega) only [em0, e1, e2, e3, Option.bind_some, qi, ql, qI_lt, qI_le, qI_eq, qI_L, qI_ix, qL_lt, qL_eq, q_nat, q_cs, ← Int32.ofInt_add, ← Int32.ofInt_sub, ← Int32.ofInt_mul, ← Int32.ofInt_neg, ← Int64.ofInt_add, ← Int64.ofInt_sub, ← Int64.ofInt_mul, ← Int64.ofInt_neg, pL_I, q_mx, q_mn, q_ab, q_abL, q_mnL, q_nn0, q_nn1, q_rr, q_b1, q_b0, q_T, q_F, q_iT, q_iF, q_d, q_in, q_wi, q_hC, q_hM, pT_i, pU_i, pS_i, pS_j, pS_0, Sum.elim_inl, Sum.elim_inr, if_pos, if_neg] <;> omega)))
    rw [e4]
    rfl
  · rw [d2]
    have c12 : (am_wI κ2 12 0 10 (Int32.ofInt 0)).1 12 0 12 = Int32.ofInt 0 := d3
    have c13 : (am_wI (am_wI κ2 12 0 10 (Int32.ofInt 0)) 12 0 11 (Int32.ofInt (-1))).1 12 0 12 = Int32.ofInt 0 := d3
    have f0 : (am_wI (am_wI κ2 12 0 10 (Int32.ofInt 0)) 12 0 11 (Int32.ofInt (-1))).1 12 0 55 = Int32.ofInt (s' : Int) := y55
    simp (disch := omega) only [f_X12_orders_110, d3', c12, c13, f0, Option.bind_some, qi, ql, qI_lt, qI_le, qI_eq, qI_L, qI_ix, qL_lt, qL_eq, q_nat, q_cs, ← Int32.ofInt_add, ← Int32.ofInt_sub, ← Int32.ofInt_mul, ← Int32.ofInt_neg, ← Int64.ofInt_add, ← Int64.ofInt_sub, ← Int64.ofInt_mul, ← Int64.ofInt_neg, pL_I, q_mx, q_mn, q_ab, q_abL, q_mnL, q_nn0, q_nn1, q_rr, q_b1, q_b0, q_T, q_F, q_iT, q_iF, q_d, q_in, q_wi, q_hC, q_hM, pT_i, pU_i, pS_i, pS_j, pS_0, Sum.elim_inl, Sum.elim_inr, if_pos, if_neg]
    rw [← hν, x1']
    simp (disch := omega) only [w54, Option.bind_some, qi, ql, qI_lt, qI_le, qI_eq, qI_L, qI_ix, qL_lt, qL_eq, q_nat, q_cs, ← Int32.ofInt_add, ← Int32.ofInt_sub, ← Int32.ofInt_mul, ← Int32.ofInt_neg, ← Int64.ofInt_add, ← Int64.ofInt_sub, ← Int64.ofInt_mul, ← Int64.ofInt_neg, pL_I, q_mx, q_mn, q_ab, q_abL, q_mnL, q_nn0, q_nn1, q_rr, q_b1, q_b0, q_T, q_F, q_iT, q_iF, q_d, q_in, q_wi, q_hC, q_hM, pT_i, pU_i, pS_i, pS_j, pS_0, Sum.elim_inl, Sum.elim_inr, if_pos, if_neg]
  · rw [pT_0, (x2' 12 0 0 rfl).1, hν]
    exact (base2 κ2 d8 0 (by omega)).symm
  · refine h.2.st olC olM [2, 3, 5] (by decide +kernel) QF QR ?_
    intro N' hN
    simp only [List.mem_cons, List.not_mem_nil, or_false] at hN
    rcases hN with rfl | rfl | rfl
    · exact ⟨0, by omega, rfl, by
        rw [(x2' 12 0 8 rfl).1, hν]
        exact base2 κ2 d8 8 (by omega), fun j hj => by omega⟩
    · refine ⟨?_, ?_⟩
      · rw [(x2' 12 0 10 rfl).1, hν]
        exact dF.1
      · rw [(x2' 12 0 11 rfl).1, hν]
        exact dF.2
    · refine ⟨qq, pp, ⟨qb, pb, fun z => pq z.symm⟩, ?_, ?_, s', R', m', ⟨yj, by omega⟩, y4, y5, w54, ?_⟩
      · show (am_wR (am_wR (am_wI κ1 5 0 1 (Int32.ofInt 0)) 11 0 7 (some qq)) 11 0 8 (some pp)).2.2 11 0 7 = _
        rw [am_wR_r, if_neg (by omega), am_wR_r, if_pos ⟨rfl, rfl, rfl⟩]
      · show (am_wR (am_wR (am_wI κ1 5 0 1 (Int32.ofInt 0)) 11 0 7 (some qq)) 11 0 8 (some pp)).2.2 11 0 8 = _
        rw [am_wR_r, if_pos ⟨rfl, rfl, rfl⟩]
      · refine pg_seg_c _ _ _ _ _ _ ds (fun i _ _ => ⟨rfl, rfl, rfl, rfl⟩) (fun i _ i2 => ?_)
        obtain ⟨z1, z2, z3, z4⟩ := x3' i i2
        rw [hν] at z1 z2 z3 z4
        exact ⟨z1, z2, z3, z4⟩
