/-! ===== TOKENS: what is asked of them, faults ===== -/
def gd (σ : am_H) : Prop := σ.1 12 0 12 = Int32.ofInt 0
def bd (σ : am_H) (k : Int) (p : Nat) : Prop := (1 ≤ k ∧ k ≤ 6) ∧ σ.1 12 0 12 = Int32.ofInt k ∧ σ.1 12 0 13 = Int32.ofInt (p : Int)
def flt (σ : am_H) (k : Int) (p : Nat) : Prop := σ.1 5 0 7 = Int32.ofInt k ∧ σ.1 5 0 8 = Int32.ofInt (p : Int)
def FC (σ : am_H) (k : Int) (p : Nat) : am_H := am_wI (am_wI σ 5 0 7 (Int32.ofInt k)) 5 0 8 (Int32.ofInt (p : Int))
def FM (σ : am_H) (k : Int) (p : Nat) : am_H := am_wI (am_wI σ 12 0 12 (Int32.ofInt k)) 12 0 13 (Int32.ofInt (p : Int))
theorem FC_q {σ : am_H} {k : Int} {p : Nat} : qf tlC σ (FC σ k p) := (qf.rf.wI rfl).wI rfl
theorem FM_q {σ : am_H} {k : Int} {p : Nat} : qf tlM σ (FM σ k p) := (qf.rf.wI rfl).wI rfl
theorem FC_f {σ : am_H} {k : Int} {p : Nat} : flt (FC σ k p) k p := ⟨rfl, rfl⟩
theorem FM_b {σ : am_H} {k : Int} {p : Nat} (h : 1 ≤ k ∧ k ≤ 6) : bd (FM σ k p) k p := ⟨h, rfl, rfl⟩
theorem bd_must {σ : am_H} {k : Int} {p : Nat} (h : bd σ k p) (v : Bool) : f_X12_must v σ = some σ := by
  obtain ⟨h1, h2, h3⟩ := h
  simp (disch := omega) only [f_X12_must, h2, Option.bind_some, qi, ql, qI_lt, qI_le, qI_eq, qI_L, qI_ix, qL_lt, qL_eq, q_nat, q_cs, ← Int32.ofInt_add, ← Int32.ofInt_sub, ← Int32.ofInt_mul, ← Int32.ofInt_neg, ← Int64.ofInt_add, ← Int64.ofInt_sub, ← Int64.ofInt_mul, ← Int64.ofInt_neg, pL_I, q_mx, q_mn, q_ab, q_abL, q_mnL, q_nn0, q_nn1, q_rr, q_b1, q_b0, q_T, q_F, q_iT, q_iF, q_d, q_in, q_wi, q_hC, q_hM, pT_i, pU_i, pS_i, pS_j, pS_0, Sum.elim_inl, Sum.elim_inr, if_pos, if_neg]
theorem bd_fail {σ : am_H} {k : Int} {p : Nat} (h : bd σ k p) (v w : Int32) : f_X12_fail v w σ = some σ := by
  obtain ⟨h1, h2, h3⟩ := h
  simp (disch := omega) only [f_X12_fail, h2, Option.bind_some, qi, ql, qI_lt, qI_le, qI_eq, qI_L, qI_ix, qL_lt, qL_eq, q_nat, q_cs, ← Int32.ofInt_add, ← Int32.ofInt_sub, ← Int32.ofInt_mul, ← Int32.ofInt_neg, ← Int64.ofInt_add, ← Int64.ofInt_sub, ← Int64.ofInt_mul, ← Int64.ofInt_neg, pL_I, q_mx, q_mn, q_ab, q_abL, q_mnL, q_nn0, q_nn1, q_rr, q_b1, q_b0, q_T, q_F, q_iT, q_iF, q_d, q_in, q_wi, q_hC, q_hM, pT_i, pU_i, pS_i, pS_j, pS_0, Sum.elim_inl, Sum.elim_inr, if_pos, if_neg]
theorem bd_wrong {σ : am_H} {k : Int} {p : Nat} (h : bd σ k p) : f_X12_wrong σ = some σ := by
  unfold f_X12_wrong f_X12_wrong_14
  rw [bd_fail h, bd_fail h]
  simp only [Option.bind_some]
  split <;> rfl
theorem bd_seen {σ : am_H} {k : Int} {p : Nat} (h : bd σ k p) (v w : Int32) : f_X12_seen v w σ = some (Int32.ofInt 0, σ) := by
  obtain ⟨h1, h2, h3⟩ := h
  simp (disch := omega) only [f_X12_seen, f_X12_seen_19, f_X12_seen_50, h2, Option.bind_some, qi, ql, qI_lt, qI_le, qI_eq, qI_L, qI_ix, qL_lt, qL_eq, q_nat, q_cs, ← Int32.ofInt_add, ← Int32.ofInt_sub, ← Int32.ofInt_mul, ← Int32.ofInt_neg, ← Int64.ofInt_add, ← Int64.ofInt_sub, ← Int64.ofInt_mul, ← Int64.ofInt_neg, pL_I, q_mx, q_mn, q_ab, q_abL, q_mnL, q_nn0, q_nn1, q_rr, q_b1, q_b0, q_T, q_F, q_iT, q_iF, q_d, q_in, q_wi, q_hC, q_hM, pT_i, pU_i, pS_i, pS_j, pS_0, Sum.elim_inl, Sum.elim_inr, if_pos, if_neg]
theorem bd_count {σ : am_H} {k : Int} {p : Nat} (h : bd σ k p) (v w : Int32) : f_X12_count v w σ = some (Int32.ofInt 0, σ) := by
  have e := bd_seen h v w
  obtain ⟨h1, h2, h3⟩ := h
  simp (disch := omega) only [f_X12_count, e, h2, Option.bind_some, qi, ql, qI_lt, qI_le, qI_eq, qI_L, qI_ix, qL_lt, qL_eq, q_nat, q_cs, ← Int32.ofInt_add, ← Int32.ofInt_sub, ← Int32.ofInt_mul, ← Int32.ofInt_neg, ← Int64.ofInt_add, ← Int64.ofInt_sub, ← Int64.ofInt_mul, ← Int64.ofInt_neg, pL_I, q_mx, q_mn, q_ab, q_abL, q_mnL, q_nn0, q_nn1, q_rr, q_b1, q_b0, q_T, q_F, q_iT, q_iF, q_d, q_in, q_wi, q_hC, q_hM, pT_i, pU_i, pS_i, pS_j, pS_0, Sum.elim_inl, Sum.elim_inr, if_pos, if_neg]
theorem gd_fail {σ : am_H} (g : gd σ) (v w : Int32) : f_X12_fail v w σ = some (am_wI (am_wI σ 12 0 12 v) 12 0 13 w) := by
  have g' : σ.1 12 0 12 = Int32.ofInt 0 := g
  simp (disch := omega) only [f_X12_fail, g', Option.bind_some, qi, ql, qI_lt, qI_le, qI_eq, qI_L, qI_ix, qL_lt, qL_eq, q_nat, q_cs, ← Int32.ofInt_add, ← Int32.ofInt_sub, ← Int32.ofInt_mul, ← Int32.ofInt_neg, ← Int64.ofInt_add, ← Int64.ofInt_sub, ← Int64.ofInt_mul, ← Int64.ofInt_neg, pL_I, q_mx, q_mn, q_ab, q_abL, q_mnL, q_nn0, q_nn1, q_rr, q_b1, q_b0, q_T, q_F, q_iT, q_iF, q_d, q_in, q_wi, q_hC, q_hM, pT_i, pU_i, pS_i, pS_j, pS_0, Sum.elim_inl, Sum.elim_inr, if_pos, if_neg]
theorem tk_refuse {σ1 σ2 : am_H} {n : Nat} {b : Nat → Int} {s p e : Nat} (h : tk σ1 σ2 n b s p e) (k : Int) : f_X5_refuse (Int32.ofInt k) σ1 = some (false, FC σ1 (if s = 4 then 1 else k) p) := by
  obtain ⟨C, M, ⟨k3, k4, k5, k6⟩, -, -, h2, -⟩ := h
  have k4' : ∀ v : Int32, (am_wI σ1 5 0 7 v).1 5 0 4 = Int32.ofInt (p : Int) := fun v => k4
  unfold FC
  by_cases c : s = 4
  · rw [if_pos c]
    simp (disch := omega) only [f_X5_refuse, f_X5_refuse_14, k3, k4', Option.bind_some, qi, ql, qI_lt, qI_le, qI_eq, qI_L, qI_ix, qL_lt, qL_eq, q_nat, q_cs, ← Int32.ofInt_add, ← Int32.ofInt_sub, ← Int32.ofInt_mul, ← Int32.ofInt_neg, ← Int64.ofInt_add, ← Int64.ofInt_sub, ← Int64.ofInt_mul, ← Int64.ofInt_neg, pL_I, q_mx, q_mn, q_ab, q_abL, q_mnL, q_nn0, q_nn1, q_rr, q_b1, q_b0, q_T, q_F, q_iT, q_iF, q_d, q_in, q_wi, q_hC, q_hM, pT_i, pU_i, pS_i, pS_j, pS_0, Sum.elim_inl, Sum.elim_inr, if_pos, if_neg]
  · rw [if_neg c]
    simp (disch := omega) only [f_X5_refuse, f_X5_refuse_14, k3, k4', Option.bind_some, qi, ql, qI_lt, qI_le, qI_eq, qI_L, qI_ix, qL_lt, qL_eq, q_nat, q_cs, ← Int32.ofInt_add, ← Int32.ofInt_sub, ← Int32.ofInt_mul, ← Int32.ofInt_neg, ← Int64.ofInt_add, ← Int64.ofInt_sub, ← Int64.ofInt_mul, ← Int64.ofInt_neg, pL_I, q_mx, q_mn, q_ab, q_abL, q_mnL, q_nn0, q_nn1, q_rr, q_b1, q_b0, q_T, q_F, q_iT, q_iF, q_d, q_in, q_wi, q_hC, q_hM, pT_i, pU_i, pS_i, pS_j, pS_0, Sum.elim_inl, Sum.elim_inr, if_pos, if_neg]
theorem tk_wrong {σ1 σ2 : am_H} {n : Nat} {b : Nat → Int} {s p e : Nat} (h : tk σ1 σ2 n b s p e) (g : gd σ2) : f_X12_wrong σ2 = some (FM σ2 (if s = 4 then 1 else 2) p) := by
  obtain ⟨C, M, -, ⟨m14, m15, -⟩, -, h2, -⟩ := h
  have f := gd_fail g
  unfold FM
  by_cases c : s = 4
  · rw [if_pos c]
    simp (disch := omega) only [f_X12_wrong, f_X12_wrong_14, m14, m15, f, Option.bind_some, qi, ql, qI_lt, qI_le, qI_eq, qI_L, qI_ix, qL_lt, qL_eq, q_nat, q_cs, ← Int32.ofInt_add, ← Int32.ofInt_sub, ← Int32.ofInt_mul, ← Int32.ofInt_neg, ← Int64.ofInt_add, ← Int64.ofInt_sub, ← Int64.ofInt_mul, ← Int64.ofInt_neg, pL_I, q_mx, q_mn, q_ab, q_abL, q_mnL, q_nn0, q_nn1, q_rr, q_b1, q_b0, q_T, q_F, q_iT, q_iF, q_d, q_in, q_wi, q_hC, q_hM, pT_i, pU_i, pS_i, pS_j, pS_0, Sum.elim_inl, Sum.elim_inr, if_pos, if_neg]
  · rw [if_neg c]
    simp (disch := omega) only [f_X12_wrong, f_X12_wrong_14, m14, m15, f, Option.bind_some, qi, ql, qI_lt, qI_le, qI_eq, qI_L, qI_ix, qL_lt, qL_eq, q_nat, q_cs, ← Int32.ofInt_add, ← Int32.ofInt_sub, ← Int32.ofInt_mul, ← Int32.ofInt_neg, ← Int64.ofInt_add, ← Int64.ofInt_sub, ← Int64.ofInt_mul, ← Int64.ofInt_neg, pL_I, q_mx, q_mn, q_ab, q_abL, q_mnL, q_nn0, q_nn1, q_rr, q_b1, q_b0, q_T, q_F, q_iT, q_iF, q_d, q_in, q_wi, q_hC, q_hM, pT_i, pU_i, pS_i, pS_j, pS_0, Sum.elim_inl, Sum.elim_inr, if_pos, if_neg]
theorem tl_C : qf_dj [(5, 3), (5, 4), (5, 5), (5, 6)] [(12, 12)] = true := by decide
theorem tk_takes {σ1 σ2 : am_H} {n : Nat} {b : Nat → Int} {s p e : Nat} (h : tk σ1 σ2 n b s p e) (g : gd σ2) {r : Nat} (hr : r < 22) : (wq b s p e r = true ∧ ∃ (τ1 τ2 : am_H) (s' p' e' : Nat), f_X5_takesWord r σ1 = some (true, τ1) ∧ f_X12_must (wq b s p e r) σ2 = some τ2 ∧ tk τ1 τ2 n b s' p' e' ∧ gd τ2 ∧ p < p' ∧ qf tlC σ1 τ1 ∧ qf tlM σ2 τ2) ∨ (∃ k : Int, (1 ≤ k ∧ k ≤ 6) ∧ f_X5_takesWord r σ1 = some (false, FC σ1 k p) ∧ f_X12_must (wq b s p e r) σ2 = some (FM σ2 k p)) := by
  have g' : σ2.1 12 0 12 = Int32.ofInt 0 := g
  have W := (tk_word h hr).1
  have f2 := tk_refuse h 2
  have w2 := tk_wrong h g
  have hpe := h.2.2.2.2.2.2.1
  cases c : wq b s p e r with
  | true =>
    rw [c] at W
    have s1 : s = 1 := (of_decide_eq_true c).1
    obtain ⟨τ1, τ2, s', p', e', a1, a2, a3, a4, a5, a6⟩ := tk_next h (Or.inl s1)
    have pe := (hpe (Or.inl s1)).1
    refine Or.inl ⟨rfl, τ1, τ2, s', p', e', ?_, ?_, a3, ((a6 12 0 12 rfl).1).trans g, by omega, a5.mo (by decide), a6.mo (by decide)⟩
    · simp (disch := omega) only [f_X5_takesWord, W, a1, Option.bind_some, qi, ql, qI_lt, qI_le, qI_eq, qI_L, qI_ix, qL_lt, qL_eq, q_nat, q_cs, ← Int32.ofInt_add, ← Int32.ofInt_sub, ← Int32.ofInt_mul, ← Int32.ofInt_neg, ← Int64.ofInt_add, ← Int64.ofInt_sub, ← Int64.ofInt_mul, ← Int64.ofInt_neg, pL_I, q_mx, q_mn, q_ab, q_abL, q_mnL, q_nn0, q_nn1, q_rr, q_b1, q_b0, q_T, q_F, q_iT, q_iF, q_d, q_in, q_wi, q_hC, q_hM, pT_i, pU_i, pS_i, pS_j, pS_0, Sum.elim_inl, Sum.elim_inr, if_pos, if_neg]
    · simp (disch := omega) only [f_X12_must, g', a2, Option.bind_some, qi, ql, qI_lt, qI_le, qI_eq, qI_L, qI_ix, qL_lt, qL_eq, q_nat, q_cs, ← Int32.ofInt_add, ← Int32.ofInt_sub, ← Int32.ofInt_mul, ← Int32.ofInt_neg, ← Int64.ofInt_add, ← Int64.ofInt_sub, ← Int64.ofInt_mul, ← Int64.ofInt_neg, pL_I, q_mx, q_mn, q_ab, q_abL, q_mnL, q_nn0, q_nn1, q_rr, q_b1, q_b0, q_T, q_F, q_iT, q_iF, q_d, q_in, q_wi, q_hC, q_hM, pT_i, pU_i, pS_i, pS_j, pS_0, Sum.elim_inl, Sum.elim_inr, if_pos, if_neg]
  | false =>
    rw [c] at W
    refine Or.inr ⟨if s = 4 then 1 else 2, ?_, ?_, ?_⟩
    · split <;> omega
    · simp (disch := omega) only [f_X5_takesWord, W, f2, Option.bind_some, qi, ql, qI_lt, qI_le, qI_eq, qI_L, qI_ix, qL_lt, qL_eq, q_nat, q_cs, ← Int32.ofInt_add, ← Int32.ofInt_sub, ← Int32.ofInt_mul, ← Int32.ofInt_neg, ← Int64.ofInt_add, ← Int64.ofInt_sub, ← Int64.ofInt_mul, ← Int64.ofInt_neg, pL_I, q_mx, q_mn, q_ab, q_abL, q_mnL, q_nn0, q_nn1, q_rr, q_b1, q_b0, q_T, q_F, q_iT, q_iF, q_d, q_in, q_wi, q_hC, q_hM, pT_i, pU_i, pS_i, pS_j, pS_0, Sum.elim_inl, Sum.elim_inr, if_pos, if_neg]
    · simp (disch := omega) only [f_X12_must, g', w2, Option.bind_some, qi, ql, qI_lt, qI_le, qI_eq, qI_L, qI_ix, qL_lt, qL_eq, q_nat, q_cs, ← Int32.ofInt_add, ← Int32.ofInt_sub, ← Int32.ofInt_mul, ← Int32.ofInt_neg, ← Int64.ofInt_add, ← Int64.ofInt_sub, ← Int64.ofInt_mul, ← Int64.ofInt_neg, pL_I, q_mx, q_mn, q_ab, q_abL, q_mnL, q_nn0, q_nn1, q_rr, q_b1, q_b0, q_T, q_F, q_iT, q_iF, q_d, q_in, q_wi, q_hC, q_hM, pT_i, pU_i, pS_i, pS_j, pS_0, Sum.elim_inl, Sum.elim_inr, if_pos, if_neg]
theorem tk_sign {σ1 σ2 : am_H} {n : Nat} {b : Nat → Int} {s p e : Nat} (h : tk σ1 σ2 n b s p e) (g : gd σ2) : (s = 3 ∧ ∃ (τ1 τ2 : am_H) (s' p' e' : Nat), f_X5_takesSign σ1 = some (true, τ1) ∧ f_X12_must true σ2 = some τ2 ∧ tk τ1 τ2 n b s' p' e' ∧ gd τ2 ∧ p < p' ∧ qf tlC σ1 τ1 ∧ qf tlM σ2 τ2) ∨ (s ≠ 3 ∧ ∃ k : Int, (1 ≤ k ∧ k ≤ 6) ∧ f_X5_takesSign σ1 = some (false, FC σ1 k p) ∧ f_X12_must false σ2 = some (FM σ2 k p)) := by
  have g' : σ2.1 12 0 12 = Int32.ofInt 0 := g
  have f2 := tk_refuse h 2
  have w2 := tk_wrong h g
  have hpe := h.2.2.2.2.2.2.1
  have k3 := h.2.2.1.1
  have s4 := h.2.2.2.2.2.1
  by_cases c : s = 3
  · obtain ⟨τ1, τ2, s', p', e', a1, a2, a3, a4, a5, a6⟩ := tk_next h (Or.inr (Or.inr c))
    have pe := (hpe (Or.inr (Or.inr c))).1
    refine Or.inl ⟨c, τ1, τ2, s', p', e', ?_, ?_, a3, ((a6 12 0 12 rfl).1).trans g, by omega, a5.mo (by decide), a6.mo (by decide)⟩
    · simp (disch := omega) only [f_X5_takesSign, f_X5_isSign, k3, a1, Option.bind_some, qi, ql, qI_lt, qI_le, qI_eq, qI_L, qI_ix, qL_lt, qL_eq, q_nat, q_cs, ← Int32.ofInt_add, ← Int32.ofInt_sub, ← Int32.ofInt_mul, ← Int32.ofInt_neg, ← Int64.ofInt_add, ← Int64.ofInt_sub, ← Int64.ofInt_mul, ← Int64.ofInt_neg, pL_I, q_mx, q_mn, q_ab, q_abL, q_mnL, q_nn0, q_nn1, q_rr, q_b1, q_b0, q_T, q_F, q_iT, q_iF, q_d, q_in, q_wi, q_hC, q_hM, pT_i, pU_i, pS_i, pS_j, pS_0, Sum.elim_inl, Sum.elim_inr, if_pos, if_neg]
    · simp (disch := omega) only [f_X12_must, g', a2, Option.bind_some, qi, ql, qI_lt, qI_le, qI_eq, qI_L, qI_ix, qL_lt, qL_eq, q_nat, q_cs, ← Int32.ofInt_add, ← Int32.ofInt_sub, ← Int32.ofInt_mul, ← Int32.ofInt_neg, ← Int64.ofInt_add, ← Int64.ofInt_sub, ← Int64.ofInt_mul, ← Int64.ofInt_neg, pL_I, q_mx, q_mn, q_ab, q_abL, q_mnL, q_nn0, q_nn1, q_rr, q_b1, q_b0, q_T, q_F, q_iT, q_iF, q_d, q_in, q_wi, q_hC, q_hM, pT_i, pU_i, pS_i, pS_j, pS_0, Sum.elim_inl, Sum.elim_inr, if_pos, if_neg]
  · refine Or.inr ⟨c, if s = 4 then 1 else 2, ?_, ?_, ?_⟩
    · split <;> omega
    · simp (disch := omega) only [f_X5_takesSign, f_X5_isSign, k3, f2, Option.bind_some, qi, ql, qI_lt, qI_le, qI_eq, qI_L, qI_ix, qL_lt, qL_eq, q_nat, q_cs, ← Int32.ofInt_add, ← Int32.ofInt_sub, ← Int32.ofInt_mul, ← Int32.ofInt_neg, ← Int64.ofInt_add, ← Int64.ofInt_sub, ← Int64.ofInt_mul, ← Int64.ofInt_neg, pL_I, q_mx, q_mn, q_ab, q_abL, q_mnL, q_nn0, q_nn1, q_rr, q_b1, q_b0, q_T, q_F, q_iT, q_iF, q_d, q_in, q_wi, q_hC, q_hM, pT_i, pU_i, pS_i, pS_j, pS_0, Sum.elim_inl, Sum.elim_inr, if_pos, if_neg]
    · simp (disch := omega) only [f_X12_must, g', w2, Option.bind_some, qi, ql, qI_lt, qI_le, qI_eq, qI_L, qI_ix, qL_lt, qL_eq, q_nat, q_cs, ← Int32.ofInt_add, ← Int32.ofInt_sub, ← Int32.ofInt_mul, ← Int32.ofInt_neg, ← Int64.ofInt_add, ← Int64.ofInt_sub, ← Int64.ofInt_mul, ← Int64.ofInt_neg, pL_I, q_mx, q_mn, q_ab, q_abL, q_mnL, q_nn0, q_nn1, q_rr, q_b1, q_b0, q_T, q_F, q_iT, q_iF, q_d, q_in, q_wi, q_hC, q_hM, pT_i, pU_i, pS_i, pS_j, pS_0, Sum.elim_inl, Sum.elim_inr, if_pos, if_neg]
/-- a NUMBER from lo to hi -/
theorem tk_num {σ1 σ2 : am_H} {n : Nat} {b : Nat → Int} {s p e : Nat} (h : tk σ1 σ2 n b s p e) (g : gd σ2) {lo hi : Int} (l0 : 0 ≤ lo ∧ lo ≤ 9999) (h0 : 0 ≤ hi ∧ hi ≤ 9999) : (∃ (v : Int) (τ1 τ2 : am_H) (s' p' e' : Nat), s = 2 ∧ (lo ≤ v ∧ v ≤ hi) ∧ σ1.1 5 0 6 = Int32.ofInt v ∧ f_X5_standsNumber (Int32.ofInt lo) (Int32.ofInt hi) σ1 = some (true, σ1) ∧ f_X12_seen (Int32.ofInt lo) (Int32.ofInt hi) σ2 = some (Int32.ofInt v, σ2) ∧ f_X12_count (Int32.ofInt lo) (Int32.ofInt hi) σ2 = some (Int32.ofInt v, τ2) ∧ f_X5_advance σ1 = some τ1 ∧ f_X12_next σ2 = some τ2 ∧ tk τ1 τ2 n b s' p' e' ∧ gd τ2 ∧ p < p' ∧ qf tlC σ1 τ1 ∧ qf tlM σ2 τ2) ∨ (∃ k : Int, (1 ≤ k ∧ k ≤ 6) ∧ f_X5_standsNumber (Int32.ofInt lo) (Int32.ofInt hi) σ1 = some (false, FC σ1 k p) ∧ f_X12_seen (Int32.ofInt lo) (Int32.ofInt hi) σ2 = some (Int32.ofInt 0, FM σ2 k p) ∧ f_X12_count (Int32.ofInt lo) (Int32.ofInt hi) σ2 = some (Int32.ofInt 0, FM σ2 k p)) := by
  have g' : σ2.1 12 0 12 = Int32.ofInt 0 := g
  have f2 := tk_refuse h 2
  have f4 := tk_refuse h 4
  have w2 := tk_wrong h g
  have fw := gd_fail g
  obtain ⟨C, M, ⟨k3, k4, k5, k6⟩, ⟨m14, m15, m16, m17, m18⟩, h1, s4, h3, h4, h5, -⟩ := id h
  by_cases c : s = 2
  · have k6 := k6 c
    have m17 := m17 c
    obtain ⟨q4, qd⟩ := h5 c
    have pe := h3 (Or.inr (Or.inl c))
    have nb := nv_b (b := b) (p := p) (e - p) q4 (fun j j1 j2 => qd j j1 (by omega))
    have np : (10 : Int) ^ (e - p) ≤ 10 ^ 4 := by
      rcases (by omega : e - p = 0 ∨ e - p = 1 ∨ e - p = 2 ∨ e - p = 3 ∨ e - p = 4) with z | z | z | z | z <;> rw [z] <;> decide
    have n4 : (10 : Int) ^ 4 = 10000 := rfl
    generalize nv b p (e - p) = v at k6 m17 nb
    by_cases cv : lo ≤ v ∧ v ≤ hi
    · obtain ⟨τ1, τ2, s', p', e', a1, a2, a3, a4, a5, a6⟩ := tk_next h (Or.inr (Or.inl c))
      have sn : f_X12_seen (Int32.ofInt lo) (Int32.ofInt hi) σ2 = some (Int32.ofInt v, σ2) := by
        simp (disch := omega) only [f_X12_seen, f_X12_seen_19, f_X12_seen_50, g', m14, m17, Option.bind_some, qi, ql, qI_lt, qI_le, qI_eq, qI_L, qI_ix, qL_lt, qL_eq, q_nat, q_cs, ← Int32.ofInt_add, ← Int32.ofInt_sub, ← Int32.ofInt_mul, ← Int32.ofInt_neg, ← Int64.ofInt_add, ← Int64.ofInt_sub, ← Int64.ofInt_mul, ← Int64.ofInt_neg, pL_I, q_mx, q_mn, q_ab, q_abL, q_mnL, q_nn0, q_nn1, q_rr, q_b1, q_b0, q_T, q_F, q_iT, q_iF, q_d, q_in, q_wi, q_hC, q_hM, pT_i, pU_i, pS_i, pS_j, pS_0, Sum.elim_inl, Sum.elim_inr, if_pos, if_neg]
      refine Or.inl ⟨v, τ1, τ2, s', p', e', c, cv, k6, ?_, sn, ?_, a1, a2, a3, ((a6 12 0 12 rfl).1).trans g, by omega, a5.mo (by decide), a6.mo (by decide)⟩
      · simp (disch := omega) only [f_X5_standsNumber, f_X5_isNumber, k3, k6, Option.bind_some, qi, ql, qI_lt, qI_le, qI_eq, qI_L, qI_ix, qL_lt, qL_eq, q_nat, q_cs, ← Int32.ofInt_add, ← Int32.ofInt_sub, ← Int32.ofInt_mul, ← Int32.ofInt_neg, ← Int64.ofInt_add, ← Int64.ofInt_sub, ← Int64.ofInt_mul, ← Int64.ofInt_neg, pL_I, q_mx, q_mn, q_ab, q_abL, q_mnL, q_nn0, q_nn1, q_rr, q_b1, q_b0, q_T, q_F, q_iT, q_iF, q_d, q_in, q_wi, q_hC, q_hM, pT_i, pU_i, pS_i, pS_j, pS_0, Sum.elim_inl, Sum.elim_inr, if_pos, if_neg]
      · simp (disch := omega) only [f_X12_count, sn, g', a2, Option.bind_some, qi, ql, qI_lt, qI_le, qI_eq, qI_L, qI_ix, qL_lt, qL_eq, q_nat, q_cs, ← Int32.ofInt_add, ← Int32.ofInt_sub, ← Int32.ofInt_mul, ← Int32.ofInt_neg, ← Int64.ofInt_add, ← Int64.ofInt_sub, ← Int64.ofInt_mul, ← Int64.ofInt_neg, pL_I, q_mx, q_mn, q_ab, q_abL, q_mnL, q_nn0, q_nn1, q_rr, q_b1, q_b0, q_T, q_F, q_iT, q_iF, q_d, q_in, q_wi, q_hC, q_hM, pT_i, pU_i, pS_i, pS_j, pS_0, Sum.elim_inl, Sum.elim_inr, if_pos, if_neg]
    · have b4 : bd (FM σ2 4 p) 4 p := FM_b (by omega)
      have sn : f_X12_seen (Int32.ofInt lo) (Int32.ofInt hi) σ2 = some (Int32.ofInt 0, FM σ2 4 p) := by
        have e4 : f_X12_fail (Int32.ofInt 4) (Int32.ofInt (p : Int)) σ2 = some (FM σ2 4 p) := fw _ _
        have b12 := b4.2.1
        simp (disch := omega) only [f_X12_seen, f_X12_seen_19, f_X12_seen_50, g', m14, m17, m15, e4, b12, Option.bind_some, qi, ql, qI_lt, qI_le, qI_eq, qI_L, qI_ix, qL_lt, qL_eq, q_nat, q_cs, ← Int32.ofInt_add, ← Int32.ofInt_sub, ← Int32.ofInt_mul, ← Int32.ofInt_neg, ← Int64.ofInt_add, ← Int64.ofInt_sub, ← Int64.ofInt_mul, ← Int64.ofInt_neg, pL_I, q_mx, q_mn, q_ab, q_abL, q_mnL, q_nn0, q_nn1, q_rr, q_b1, q_b0, q_T, q_F, q_iT, q_iF, q_d, q_in, q_wi, q_hC, q_hM, pT_i, pU_i, pS_i, pS_j, pS_0, Sum.elim_inl, Sum.elim_inr, if_pos, if_neg]
      refine Or.inr ⟨4, by omega, ?_, sn, ?_⟩
      · rw [if_neg (by omega)] at f4
        by_cases lv : v < lo
        · simp (disch := omega) only [f_X5_standsNumber, f_X5_standsNumber_29, f_X5_isNumber, k3, k6, f4, Option.bind_some, qi, ql, qI_lt, qI_le, qI_eq, qI_L, qI_ix, qL_lt, qL_eq, q_nat, q_cs, ← Int32.ofInt_add, ← Int32.ofInt_sub, ← Int32.ofInt_mul, ← Int32.ofInt_neg, ← Int64.ofInt_add, ← Int64.ofInt_sub, ← Int64.ofInt_mul, ← Int64.ofInt_neg, pL_I, q_mx, q_mn, q_ab, q_abL, q_mnL, q_nn0, q_nn1, q_rr, q_b1, q_b0, q_T, q_F, q_iT, q_iF, q_d, q_in, q_wi, q_hC, q_hM, pT_i, pU_i, pS_i, pS_j, pS_0, Sum.elim_inl, Sum.elim_inr, if_pos, if_neg]
        · simp (disch := omega) only [f_X5_standsNumber, f_X5_standsNumber_29, f_X5_isNumber, k3, k6, f4, Option.bind_some, qi, ql, qI_lt, qI_le, qI_eq, qI_L, qI_ix, qL_lt, qL_eq, q_nat, q_cs, ← Int32.ofInt_add, ← Int32.ofInt_sub, ← Int32.ofInt_mul, ← Int32.ofInt_neg, ← Int64.ofInt_add, ← Int64.ofInt_sub, ← Int64.ofInt_mul, ← Int64.ofInt_neg, pL_I, q_mx, q_mn, q_ab, q_abL, q_mnL, q_nn0, q_nn1, q_rr, q_b1, q_b0, q_T, q_F, q_iT, q_iF, q_d, q_in, q_wi, q_hC, q_hM, pT_i, pU_i, pS_i, pS_j, pS_0, Sum.elim_inl, Sum.elim_inr, if_pos, if_neg]
      · have b12 := b4.2.1
        simp (disch := omega) only [f_X12_count, sn, b12, Option.bind_some, qi, ql, qI_lt, qI_le, qI_eq, qI_L, qI_ix, qL_lt, qL_eq, q_nat, q_cs, ← Int32.ofInt_add, ← Int32.ofInt_sub, ← Int32.ofInt_mul, ← Int32.ofInt_neg, ← Int64.ofInt_add, ← Int64.ofInt_sub, ← Int64.ofInt_mul, ← Int64.ofInt_neg, pL_I, q_mx, q_mn, q_ab, q_abL, q_mnL, q_nn0, q_nn1, q_rr, q_b1, q_b0, q_T, q_F, q_iT, q_iF, q_d, q_in, q_wi, q_hC, q_hM, pT_i, pU_i, pS_i, pS_j, pS_0, Sum.elim_inl, Sum.elim_inr, if_pos, if_neg]
  · have kb : 1 ≤ (if s = 4 then 1 else 2 : Int) ∧ (if s = 4 then 1 else 2 : Int) ≤ 6 := by split <;> omega
    generalize (if s = 4 then 1 else 2 : Int) = k at f2 w2 kb
    have b4 : bd (FM σ2 k p) k p := FM_b kb
    have b12 := b4.2.1
    have sn : f_X12_seen (Int32.ofInt lo) (Int32.ofInt hi) σ2 = some (Int32.ofInt 0, FM σ2 k p) := by
      simp (disch := omega) only [f_X12_seen, f_X12_seen_19, f_X12_seen_50, g', m14, w2, b12, Option.bind_some, qi, ql, qI_lt, qI_le, qI_eq, qI_L, qI_ix, qL_lt, qL_eq, q_nat, q_cs, ← Int32.ofInt_add, ← Int32.ofInt_sub, ← Int32.ofInt_mul, ← Int32.ofInt_neg, ← Int64.ofInt_add, ← Int64.ofInt_sub, ← Int64.ofInt_mul, ← Int64.ofInt_neg, pL_I, q_mx, q_mn, q_ab, q_abL, q_mnL, q_nn0, q_nn1, q_rr, q_b1, q_b0, q_T, q_F, q_iT, q_iF, q_d, q_in, q_wi, q_hC, q_hM, pT_i, pU_i, pS_i, pS_j, pS_0, Sum.elim_inl, Sum.elim_inr, if_pos, if_neg]
    refine Or.inr ⟨k, kb, ?_, sn, ?_⟩
    · simp (disch := omega) only [f_X5_standsNumber, f_X5_isNumber, k3, f2, Option.bind_some, qi, ql, qI_lt, qI_le, qI_eq, qI_L, qI_ix, qL_lt, qL_eq, q_nat, q_cs, ← Int32.ofInt_add, ← Int32.ofInt_sub, ← Int32.ofInt_mul, ← Int32.ofInt_neg, ← Int64.ofInt_add, ← Int64.ofInt_sub, ← Int64.ofInt_mul, ← Int64.ofInt_neg, pL_I, q_mx, q_mn, q_ab, q_abL, q_mnL, q_nn0, q_nn1, q_rr, q_b1, q_b0, q_T, q_F, q_iT, q_iF, q_d, q_in, q_wi, q_hC, q_hM, pT_i, pU_i, pS_i, pS_j, pS_0, Sum.elim_inl, Sum.elim_inr, if_pos, if_neg]
    · simp (disch := omega) only [f_X12_count, sn, b12, Option.bind_some, qi, ql, qI_lt, qI_le, qI_eq, qI_L, qI_ix, qL_lt, qL_eq, q_nat, q_cs, ← Int32.ofInt_add, ← Int32.ofInt_sub, ← Int32.ofInt_mul, ← Int32.ofInt_neg, ← Int64.ofInt_add, ← Int64.ofInt_sub, ← Int64.ofInt_mul, ← Int64.ofInt_neg, pL_I, q_mx, q_mn, q_ab, q_abL, q_mnL, q_nn0, q_nn1, q_rr, q_b1, q_b0, q_T, q_F, q_iT, q_iF, q_d, q_in, q_wi, q_hC, q_hM, pT_i, pU_i, pS_i, pS_j, pS_0, Sum.elim_inl, Sum.elim_inr, if_pos, if_neg]
/-! ===== the reference's WORDS ===== -/
theorem sp_0 {σ : am_H} : f_X12_spelled 119 97 118 101 0 σ = some (Int64.ofInt (ev 32 (wl 0))) := rfl
theorem sp_1 {σ : am_H} : f_X12_spelled 116 117 114 110 115 σ = some (Int64.ofInt (ev 32 (wl 1))) := rfl
theorem sp_2 {σ : am_H} : f_X12_spelled 105 110 0 0 0 σ = some (Int64.ofInt (ev 32 (wl 2))) := rfl
theorem sp_3 {σ : am_H} : f_X12_spelled 115 105 122 101 0 σ = some (Int64.ofInt (ev 32 (wl 3))) := rfl
theorem sp_4 {σ : am_H} : f_X12_spelled 97 116 0 0 0 σ = some (Int64.ofInt (ev 32 (wl 4))) := rfl
theorem sp_5 {σ : am_H} : f_X12_spelled 116 114 97 105 110 σ = some (Int64.ofInt (ev 32 (wl 5))) := rfl
theorem sp_6 {σ : am_H} : f_X12_spelled 98 111 120 0 0 σ = some (Int64.ofInt (ev 32 (wl 6))) := rfl
theorem sp_7 {σ : am_H} : f_X12_spelled 111 102 0 0 0 σ = some (Int64.ofInt (ev 32 (wl 7))) := rfl
theorem sp_8 {σ : am_H} : f_X12_spelled 115 108 97 99 107 σ = some (Int64.ofInt (ev 32 (wl 8))) := rfl
theorem sp_9 {σ : am_H} : f_X12_spelled 122 101 114 111 0 σ = some (Int64.ofInt (ev 32 (wl 9))) := rfl
theorem sp_10 {σ : am_H} : f_X12_spelled 101 110 100 0 0 σ = some (Int64.ofInt (ev 32 (wl 10))) := rfl
theorem sp_11 {σ : am_H} : f_X12_spelled 103 111 0 0 0 σ = some (Int64.ofInt (ev 32 (wl 11))) := rfl
theorem sp_12 {σ : am_H} : f_X12_spelled 117 110 116 105 108 σ = some (Int64.ofInt (ev 32 (wl 12))) := rfl
theorem sp_13 {σ : am_H} : f_X12_spelled 109 97 114 107 0 σ = some (Int64.ofInt (ev 32 (wl 13))) := rfl
theorem sp_14 {σ : am_H} : f_X12_spelled 114 101 97 100 0 σ = some (Int64.ofInt (ev 32 (wl 14))) := rfl
theorem sp_15 {σ : am_H} : f_X12_spelled 108 111 111 112 0 σ = some (Int64.ofInt (ev 32 (wl 15))) := rfl
theorem sp_16 {σ : am_H} : f_X12_spelled 119 104 101 110 0 σ = some (Int64.ofInt (ev 32 (wl 16))) := rfl
theorem sp_17 {σ : am_H} : f_X12_spelled 104 105 103 104 0 σ = some (Int64.ofInt (ev 32 (wl 17))) := rfl
theorem sp_18 {σ : am_H} : f_X12_spelled 108 111 119 0 0 σ = some (Int64.ofInt (ev 32 (wl 18))) := rfl
theorem sp_19 {σ : am_H} : f_X12_spelled 97 98 111 118 101 σ = some (Int64.ofInt (ev 32 (wl 19))) := rfl
theorem sp_20 {σ : am_H} : f_X12_spelled 98 101 108 111 119 σ = some (Int64.ofInt (ev 32 (wl 20))) := rfl
theorem sp_21 {σ : am_H} : f_X12_spelled 108 101 115 115 0 σ = some (Int64.ofInt (ev 32 (wl 21))) := rfl
