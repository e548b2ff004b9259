/-! ===== the tape ===== -/
def tp_b (v : Int32) (z : Int) : Int32 := Int8.toInt32 (Int32.toInt8 (Int8.toInt32 (Int32.toInt8 (v >>> (Int32.ofInt z &&& Int32.ofInt 31)))))
def tp_C (σ : am_H) (L : Nat) (b : Int32) : am_H := am_wI (am_wI σ 600 0 L b) 5 0 1 (Int32.ofInt ((L : Int) + 1))
def tp_M (σ : am_H) (L : Nat) (b : Int32) : am_H := am_wI (am_wI σ 1307 0 L b) 12 0 8 (Int32.ofInt ((L : Int) + 1))
/-- L bytes are on both tapes -/
def tp_R (σ1 σ2 : am_H) (L : Nat) : Prop := σ1.1 5 0 1 = Int32.ofInt L ∧ σ2.1 12 0 8 = Int32.ofInt L ∧ ∀ j : Nat, j < L → ∃ b : Int, (-128 ≤ b ∧ b ≤ 127) ∧ σ1.1 600 0 j = Int32.ofInt b ∧ σ2.1 1307 0 j = Int32.ofInt b
theorem tp_b_ok (v : Int32) (z : Int) : ∃ b : Int, (-128 ≤ b ∧ b ≤ 127) ∧ tp_b v z = Int32.ofInt b := by
  unfold tp_b
  generalize Int32.toInt8 (Int8.toInt32 (Int32.toInt8 (v >>> (Int32.ofInt z &&& Int32.ofInt 31)))) = y
  have h1 := y.minValue_le_toInt
  have h2 := y.toInt_le
  have e1 : Int8.minValue.toInt = -128 := rfl
  have e2 : Int8.maxValue.toInt = 127 := rfl
  exact ⟨y.toInt, ⟨by omega, by omega⟩, (Int32.ofInt_int8ToInt y).symm⟩
theorem tp_step {σ1 σ2 : am_H} {L : Nat} {v : Int32} {z : Int} (h : tp_R σ1 σ2 L) : tp_R (tp_C σ1 L (tp_b v z)) (tp_M σ2 L (tp_b v z)) (L + 1) := by
  obtain ⟨h1, h2, h3⟩ := h
  refine ⟨rfl, rfl, fun j hj => ?_⟩
  show ∃ b : Int, (-128 ≤ b ∧ b ≤ 127) ∧ (if 600 = 600 ∧ 0 = 0 ∧ j = L then tp_b v z else σ1.1 600 0 j) = Int32.ofInt b ∧ (if 1307 = 1307 ∧ 0 = 0 ∧ j = L then tp_b v z else σ2.1 1307 0 j) = Int32.ofInt b
  by_cases c : j = L
  · rw [if_pos ⟨rfl, rfl, c⟩, if_pos ⟨rfl, rfl, c⟩]
    obtain ⟨b, hb, e⟩ := tp_b_ok v z
    exact ⟨b, hb, e, e⟩
  · rw [if_neg (fun z => c z.2.2), if_neg (fun z => c z.2.2)]
    exact h3 j (by omega)
theorem tp_apC {σ : am_H} {L : Nat} {v : Int32} {z : Int} (h : σ.1 5 0 1 = Int32.ofInt L) (hL : L < 600) (z0 : 0 ≤ z) (z1 : z ≤ 24) : f_X5_append_3 v (Int32.ofInt z) σ = some (.inl (Int32.ofInt (z + -8), tp_C σ L (tp_b v z))) := by
  have e : ∀ x, (am_wI σ 600 0 L x).1 5 0 1 = Int32.ofInt L := fun _ => h
  simp (disch := omega) only [f_X5_append_3, h, e, Option.bind_some, qi, ql, qI_lt, qI_le, qI_eq, qI_L, qI_ix, qL_lt, qL_eq, q_nat, q_cs, ← Int32.ofInt_add, ← Int32.ofInt_sub, ← Int32.ofInt_mul, ← Int32.ofInt_neg, ← Int64.ofInt_add, ← Int64.ofInt_sub, ← Int64.ofInt_mul, ← Int64.ofInt_neg, pL_I, q_mx, q_mn, q_ab, q_abL, q_mnL, q_nn0, q_nn1, q_rr, q_b1, q_b0, q_T, q_F, q_iT, q_iF, q_d, q_in, q_wi, q_hC, q_hM, pT_i, pU_i, pS_i, pS_j, pS_0, Sum.elim_inl, Sum.elim_inr, if_pos, if_neg]
  try rfl
theorem tp_apM {σ : am_H} {L : Nat} {v : Int32} {z : Int} (h : σ.1 12 0 8 = Int32.ofInt L) (hL : L < 600) (z0 : 0 ≤ z) (z1 : z ≤ 3) : f_X12_lay_2 v (Int32.ofInt z) σ = some (.inl (Int32.ofInt (z + -1), tp_M σ L (tp_b v (8 * z)))) := by
  have e : ∀ x, (am_wI σ 1307 0 L x).1 12 0 8 = Int32.ofInt L := fun _ => h
  simp (disch := omega) only [f_X12_lay_2, h, e, Option.bind_some, qi, ql, qI_lt, qI_le, qI_eq, qI_L, qI_ix, qL_lt, qL_eq, q_nat, q_cs, ← Int32.ofInt_add, ← Int32.ofInt_sub, ← Int32.ofInt_mul, ← Int32.ofInt_neg, ← Int64.ofInt_add, ← Int64.ofInt_sub, ← Int64.ofInt_mul, ← Int64.ofInt_neg, pL_I, q_mx, q_mn, q_ab, q_abL, q_mnL, q_nn0, q_nn1, q_rr, q_b1, q_b0, q_T, q_F, q_iT, q_iF, q_d, q_in, q_wi, q_hC, q_hM, pT_i, pU_i, pS_i, pS_j, pS_0, Sum.elim_inl, Sum.elim_inr, if_pos, if_neg]
  try rfl
theorem tp_ap {σ1 σ2 : am_H} {L : Nat} (v : Int32) (h : tp_R σ1 σ2 L) (hL : L + 4 ≤ 600) : ∃ σ1' σ2' : am_H, f_X5_append v σ1 = some σ1' ∧ f_X12_lay v σ2 = some σ2' ∧ tp_R σ1' σ2' (L + 4) ∧ qf [(5, 1), (600, 999)] σ1 σ1' ∧ qf [(12, 1), (12, 8), (1307, 999)] σ2 σ2' := by
  have s1 := tp_step (v := v) (z := 24) h
  have s2 := tp_step (v := v) (z := 16) s1
  have s3 := tp_step (v := v) (z := 8) s2
  have s4 := tp_step (v := v) (z := 0) s3
  refine ⟨_, _, ?_, ?_, s4, ?_, ?_⟩
  · unfold f_X5_append
    simp only [qi]
    rw [am_loop_eq]
    simp only [tp_apC h.1 (by omega) (show (0 : Int) ≤ 24 by omega) (by omega)]
    rw [am_loop_eq]
    simp only [show Int32.ofInt (24 + -8) = Int32.ofInt 16 from rfl, tp_apC s1.1 (by omega) (show (0 : Int) ≤ 16 by omega) (by omega)]
    rw [am_loop_eq]
    simp only [show Int32.ofInt (16 + -8) = Int32.ofInt 8 from rfl, tp_apC s2.1 (by omega) (show (0 : Int) ≤ 8 by omega) (by omega)]
    rw [am_loop_eq]
    simp only [show Int32.ofInt (8 + -8) = Int32.ofInt 0 from rfl, tp_apC s3.1 (by omega) (show (0 : Int) ≤ 0 by omega) (by omega)]
    rw [am_loop_eq]
    simp (disch := omega) only [f_X5_append_3, Option.bind_some, qi, ql, qI_lt, qI_le, qI_eq, qI_L, qI_ix, qL_lt, qL_eq, q_nat, q_cs, ← Int32.ofInt_add, ← Int32.ofInt_sub, ← Int32.ofInt_mul, ← Int32.ofInt_neg, ← Int64.ofInt_add, ← Int64.ofInt_sub, ← Int64.ofInt_mul, ← Int64.ofInt_neg, pL_I, q_mx, q_mn, q_ab, q_abL, q_mnL, q_nn0, q_nn1, q_rr, q_b1, q_b0, q_T, q_F, q_iT, q_iF, q_d, q_in, q_wi, q_hC, q_hM, pT_i, pU_i, pS_i, pS_j, pS_0, Sum.elim_inl, Sum.elim_inr, if_pos, if_neg]
  · unfold f_X12_lay
    simp only [qi]
    rw [am_loop_eq]
    simp only [tp_apM h.2.1 (by omega) (show (0 : Int) ≤ 3 by omega) (by omega), show (8 : Int) * 3 = 24 from rfl]
    rw [am_loop_eq]
    simp only [show Int32.ofInt (3 + -1) = Int32.ofInt 2 from rfl, tp_apM s1.2.1 (by omega) (show (0 : Int) ≤ 2 by omega) (by omega), show (8 : Int) * 2 = 16 from rfl]
    rw [am_loop_eq]
    simp only [show Int32.ofInt (2 + -1) = Int32.ofInt 1 from rfl, tp_apM s2.2.1 (by omega) (show (0 : Int) ≤ 1 by omega) (by omega), show (8 : Int) * 1 = 8 from rfl]
    rw [am_loop_eq]
    simp only [show Int32.ofInt (1 + -1) = Int32.ofInt 0 from rfl, tp_apM s3.2.1 (by omega) (show (0 : Int) ≤ 0 by omega) (by omega), show (8 : Int) * 0 = 0 from rfl]
    rw [am_loop_eq]
    simp (disch := omega) only [f_X12_lay_2, Option.bind_some, qi, ql, qI_lt, qI_le, qI_eq, qI_L, qI_ix, qL_lt, qL_eq, q_nat, q_cs, ← Int32.ofInt_add, ← Int32.ofInt_sub, ← Int32.ofInt_mul, ← Int32.ofInt_neg, ← Int64.ofInt_add, ← Int64.ofInt_sub, ← Int64.ofInt_mul, ← Int64.ofInt_neg, pL_I, q_mx, q_mn, q_ab, q_abL, q_mnL, q_nn0, q_nn1, q_rr, q_b1, q_b0, q_T, q_F, q_iT, q_iF, q_d, q_in, q_wi, q_hC, q_hM, pT_i, pU_i, pS_i, pS_j, pS_0, Sum.elim_inl, Sum.elim_inr, if_pos, if_neg]
  · exact (((((((qf.rf.wI rfl).wI rfl).wI rfl).wI rfl).wI rfl).wI rfl).wI rfl).wI rfl
  · exact (((((((qf.rf.wI rfl).wI rfl).wI rfl).wI rfl).wI rfl).wI rfl).wI rfl).wI rfl
theorem po_7 : am_op_7 pr_Rel := by
  intro σ1 σ2 h v1 v2 v3 v4 v5
  obtain ⟨L, ⟨l0, l1⟩, e1, e2, e3⟩ := (show pr_tape σ1 (pU σ2) from h.2.U 2 (by omega))
  obtain ⟨L, rfl⟩ : ∃ k : Nat, L = k := ⟨L.toNat, by omega⟩
  by_cases c : 600 < (L : Int) + 20
  · refine ⟨Int32.ofInt (-1), σ1, pU σ2, ?_, ?_, h.1, h.2.U⟩
    · simp (disch := omega) only [f_X11_feed, e1, Option.bind_some, qi, ql, qI_lt, qI_le, qI_eq, qI_L, qI_ix, qL_lt, qL_eq, q_nat, q_cs, ← Int32.ofInt_add, ← Int32.ofInt_sub, ← Int32.ofInt_mul, ← Int32.ofInt_neg, ← Int64.ofInt_add, ← Int64.ofInt_sub, ← Int64.ofInt_mul, ← Int64.ofInt_neg, pL_I, q_mx, q_mn, q_ab, q_abL, q_mnL, q_nn0, q_nn1, q_rr, q_b1, q_b0, q_T, q_F, q_iT, q_iF, q_d, q_in, q_wi, q_hC, q_hM, pT_i, pU_i, pS_i, pS_j, pS_0, Sum.elim_inl, Sum.elim_inr, if_pos, if_neg]
    · simp (disch := omega) only [f_X12_feed, e2, Option.bind_some, qi, ql, qI_lt, qI_le, qI_eq, qI_L, qI_ix, qL_lt, qL_eq, q_nat, q_cs, ← Int32.ofInt_add, ← Int32.ofInt_sub, ← Int32.ofInt_mul, ← Int32.ofInt_neg, ← Int64.ofInt_add, ← Int64.ofInt_sub, ← Int64.ofInt_mul, ← Int64.ofInt_neg, pL_I, q_mx, q_mn, q_ab, q_abL, q_mnL, q_nn0, q_nn1, q_rr, q_b1, q_b0, q_T, q_F, q_iT, q_iF, q_d, q_in, q_wi, q_hC, q_hM, pT_i, pU_i, pS_i, pS_j, pS_0, Sum.elim_inl, Sum.elim_inr, if_pos, if_neg]
  · have R0 : tp_R σ1 (pU σ2) L := ⟨e1, e2, fun j hj => e3 j (by omega)⟩
    obtain ⟨p1, q1, a1, b1, R1, f1, g1⟩ := tp_ap v1 R0 (by omega)
    obtain ⟨p2, q2, a2, b2, R2, f2, g2⟩ := tp_ap v2 R1 (by omega)
    obtain ⟨p3, q3, a3, b3, R3, f3, g3⟩ := tp_ap v3 R2 (by omega)
    obtain ⟨p4, q4, a4, b4, R4, f4, g4⟩ := tp_ap v4 R3 (by omega)
    obtain ⟨p5, q5, a5, b5, R5, f5, g5⟩ := tp_ap v5 R4 (by omega)
    have F := (((f1.tr f2).tr f3).tr f4).tr f5
    have G : qf [(12, 1), (12, 8), (1307, 999)] σ2 q5 := ((((qf.tr (qf.rf.wI rfl) g1).tr g2).tr g3).tr g4).tr g5
    refine ⟨p5.1 5 0 1, p5, q5, ?_, ?_, ?_, ?_⟩
    · simp (disch := omega) only [f_X11_feed, e1, a1, a2, a3, a4, a5, Option.bind_some, qi, ql, qI_lt, qI_le, qI_eq, qI_L, qI_ix, qL_lt, qL_eq, q_nat, q_cs, ← Int32.ofInt_add, ← Int32.ofInt_sub, ← Int32.ofInt_mul, ← Int32.ofInt_neg, ← Int64.ofInt_add, ← Int64.ofInt_sub, ← Int64.ofInt_mul, ← Int64.ofInt_neg, pL_I, q_mx, q_mn, q_ab, q_abL, q_mnL, q_nn0, q_nn1, q_rr, q_b1, q_b0, q_T, q_F, q_iT, q_iF, q_d, q_in, q_wi, q_hC, q_hM, pT_i, pU_i, pS_i, pS_j, pS_0, Sum.elim_inl, Sum.elim_inr, if_pos, if_neg]
    · simp (disch := omega) only [f_X12_feed, e2, b1, b2, b3, b4, b5, Option.bind_some, qi, ql, qI_lt, qI_le, qI_eq, qI_L, qI_ix, qL_lt, qL_eq, q_nat, q_cs, ← Int32.ofInt_add, ← Int32.ofInt_sub, ← Int32.ofInt_mul, ← Int32.ofInt_neg, ← Int64.ofInt_add, ← Int64.ofInt_sub, ← Int64.ofInt_mul, ← Int64.ofInt_neg, pL_I, q_mx, q_mn, q_ab, q_abL, q_mnL, q_nn0, q_nn1, q_rr, q_b1, q_b0, q_T, q_F, q_iT, q_iF, q_d, q_in, q_wi, q_hC, q_hM, pT_i, pU_i, pS_i, pS_j, pS_0, Sum.elim_inl, Sum.elim_inr, if_pos, if_neg]
      rw [R5.2.1, R5.1]
    · rw [(F 11 0 0 rfl).1, (G 12 0 0 rfl).1]
      exact h.1
    · refine h.2.st [(5, 1), (600, 999)] [(12, 1), (12, 8), (1307, 999)] [2] (by decide +kernel) F G ?_
      intro n hn
      rw [List.mem_singleton] at hn
      subst hn
      exact ⟨((L + 4 + 4 + 4 + 4 + 4 : Nat) : Int), by omega, R5.1, R5.2.1, fun j hj => R5.2.2 j (by omega)⟩
