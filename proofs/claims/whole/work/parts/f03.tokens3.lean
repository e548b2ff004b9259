/-! ===== TOKENS: the next one, in the reference ===== -/
theorem tm_8 {n : Nat} {b : Nat → Int} : ∀ (f i : Nat) (τ : am_H), tM τ n b → τ.1 12 0 15 = Int32.ofInt (i : Int) → i + f = n → ∃ τ' : am_H, am_loop (fun s : am_H => f_X12_next_8 s) τ = some τ' ∧ qf [(12, 15)] τ τ' ∧ τ'.1 12 0 15 = Int32.ofInt ((rn pB b f i : Nat) : Int) := by
  intro f
  induction f with
  | zero =>
    intro i τ M h15 hi
    obtain ⟨c1, c2, c3⟩ := M
    refine ⟨τ, am_loop_out ?_, qf.rf, h15⟩
    simp (disch := omega) only [f_X12_next_8, h15, c2, Option.bind_some, qi, ql, qI_lt, qI_le, qI_eq, qI_L, qI_ix, qL_lt, qL_eq, q_nat, q_cs, ← Int32.ofInt_add, ← Int32.ofInt_sub, ← Int32.ofInt_mul, ← Int32.ofInt_neg, ← Int64.ofInt_add, ← Int64.ofInt_sub, ← Int64.ofInt_mul, ← Int64.ofInt_neg, pL_I, q_mx, q_mn, q_ab, q_abL, q_mnL, q_nn0, q_nn1, q_rr, q_b1, q_b0, q_T, q_F, q_iT, q_iF, q_d, q_in, q_wi, q_hC, q_hM, pT_i, pU_i, pS_i, pS_j, pS_0, Sum.elim_inl, Sum.elim_inr, if_pos, if_neg]
  | succ f ih =>
    intro i τ M h15 hi
    obtain ⟨c1, c2, c3⟩ := id M
    have lk := t_look M (by omega : i ≤ n)
    obtain ⟨b1, b2⟩ := c3 i (by omega)
    have tb := tu_b b1.1 b1.2
    obtain ⟨-, -, t10, t32, -⟩ := tu_p b1.1 b1.2
    rw [if_pos (by omega)] at lk
    rw [rn_s]
    by_cases c : pB (b i) = true
    · have d := of_decide_eq_true c
      rw [if_pos c]
      obtain ⟨τ', l1, l2, l3⟩ := ih (i + 1) (am_wI τ 12 0 15 (Int32.ofInt ((i : Int) + 1))) (M.q (qf.rf.wI (l := [(12, 15)]) rfl) (by decide +kernel)) rfl (by omega)
      refine ⟨τ', (am_loop_in (s' := am_wI τ 12 0 15 (Int32.ofInt ((i : Int) + 1))) ?_).trans l1, (qf.rf.wI rfl).tr l2, l3⟩
      by_cases c10 : tu (b i) = 10
      · simp (disch := omega) only [f_X12_next_8, f_X12_next_45, h15, c2, lk, Option.bind_some, qi, ql, qI_lt, qI_le, qI_eq, qI_L, qI_ix, qL_lt, qL_eq, q_nat, q_cs, ← Int32.ofInt_add, ← Int32.ofInt_sub, ← Int32.ofInt_mul, ← Int32.ofInt_neg, ← Int64.ofInt_add, ← Int64.ofInt_sub, ← Int64.ofInt_mul, ← Int64.ofInt_neg, pL_I, q_mx, q_mn, q_ab, q_abL, q_mnL, q_nn0, q_nn1, q_rr, q_b1, q_b0, q_T, q_F, q_iT, q_iF, q_d, q_in, q_wi, q_hC, q_hM, pT_i, pU_i, pS_i, pS_j, pS_0, Sum.elim_inl, Sum.elim_inr, if_pos, if_neg]
      · simp (disch := omega) only [f_X12_next_8, f_X12_next_45, h15, c2, lk, Option.bind_some, qi, ql, qI_lt, qI_le, qI_eq, qI_L, qI_ix, qL_lt, qL_eq, q_nat, q_cs, ← Int32.ofInt_add, ← Int32.ofInt_sub, ← Int32.ofInt_mul, ← Int32.ofInt_neg, ← Int64.ofInt_add, ← Int64.ofInt_sub, ← Int64.ofInt_mul, ← Int64.ofInt_neg, pL_I, q_mx, q_mn, q_ab, q_abL, q_mnL, q_nn0, q_nn1, q_rr, q_b1, q_b0, q_T, q_F, q_iT, q_iF, q_d, q_in, q_wi, q_hC, q_hM, pT_i, pU_i, pS_i, pS_j, pS_0, Sum.elim_inl, Sum.elim_inr, if_pos, if_neg]
    · rw [if_neg c]
      have d : ¬ (b i = 10 ∨ b i = 32) := fun z => c (decide_eq_true z)
      refine ⟨τ, am_loop_out ?_, qf.rf, h15⟩
      simp (disch := omega) only [f_X12_next_8, h15, c2, lk, Option.bind_some, qi, ql, qI_lt, qI_le, qI_eq, qI_L, qI_ix, qL_lt, qL_eq, q_nat, q_cs, ← Int32.ofInt_add, ← Int32.ofInt_sub, ← Int32.ofInt_mul, ← Int32.ofInt_neg, ← Int64.ofInt_add, ← Int64.ofInt_sub, ← Int64.ofInt_mul, ← Int64.ofInt_neg, pL_I, q_mx, q_mn, q_ab, q_abL, q_mnL, q_nn0, q_nn1, q_rr, q_b1, q_b0, q_T, q_F, q_iT, q_iF, q_d, q_in, q_wi, q_hC, q_hM, pT_i, pU_i, pS_i, pS_j, pS_0, Sum.elim_inl, Sum.elim_inr, if_pos, if_neg]
theorem wd_s {b : Nat → Int} {p i : Nat} (h : p ≤ i) : wd b p (i + 1 - p) = if i - p < 8 then wd b p (i - p) * 32 + b i - 96 else -1 := by
  rw [show i + 1 - p = (i - p) + 1 by omega]
  show (if i - p < 8 then wd b p (i - p) * 32 + (b (p + (i - p)) - 96) else -1) = _
  rw [show p + (i - p) = i by omega]
  split <;> omega
theorem tm_109 {n : Nat} {b : Nat → Int} {p : Nat} : ∀ (f i : Nat) (τ : am_H), tM τ n b → τ.1 12 0 15 = Int32.ofInt (p : Int) → τ.1 12 0 16 = Int32.ofInt (i : Int) → p ≤ i → i + f = n → τ.2.1 12 0 19 = Int64.ofInt (wd b p (i - p)) → ∃ τ' : am_H, am_loop (fun s : am_H => f_X12_next_109 s) τ = some τ' ∧ qf [(12, 16), (12, 19)] τ τ' ∧ τ'.1 12 0 16 = Int32.ofInt ((rn pL b f i : Nat) : Int) ∧ τ'.2.1 12 0 19 = Int64.ofInt (wd b p (rn pL b f i - p)) := by
  intro f
  induction f with
  | zero =>
    intro i τ M h15 h16 hp hi h19
    have c1 := M.1
    have lk := t_look M (by omega : i ≤ n)
    rw [if_neg (by omega)] at lk
    have lt := t_let (σ := τ) (v := 0) (by omega) (by omega)
    have e0 : pL 0 = false := rfl
    rw [e0] at lt
    refine ⟨τ, am_loop_out ?_, qf.rf, h16, h19⟩
    simp (disch := omega) only [f_X12_next_109, h16, lk, lt, Option.bind_some, qi, ql, qI_lt, qI_le, qI_eq, qI_L, qI_ix, qL_lt, qL_eq, q_nat, q_cs, ← Int32.ofInt_add, ← Int32.ofInt_sub, ← Int32.ofInt_mul, ← Int32.ofInt_neg, ← Int64.ofInt_add, ← Int64.ofInt_sub, ← Int64.ofInt_mul, ← Int64.ofInt_neg, pL_I, q_mx, q_mn, q_ab, q_abL, q_mnL, q_nn0, q_nn1, q_rr, q_b1, q_b0, q_T, q_F, q_iT, q_iF, q_d, q_in, q_wi, q_hC, q_hM, pT_i, pU_i, pS_i, pS_j, pS_0, Sum.elim_inl, Sum.elim_inr, if_pos, if_neg]
  | succ f ih =>
    intro i τ M h15 h16 hp hi h19
    obtain ⟨c1, c2, c3⟩ := id M
    have lk := t_look M (by omega : i ≤ n)
    obtain ⟨b1, b2⟩ := c3 i (by omega)
    have tb := tu_b b1.1 b1.2
    obtain ⟨tl, td, -⟩ := tu_p b1.1 b1.2
    rw [if_pos (by omega)] at lk
    have lt := t_let (σ := τ) (v := tu (b i)) (by omega) (by omega)
    rw [tl] at lt
    rw [rn_s]
    by_cases c : pL (b i) = true
    · have d := of_decide_eq_true c
      have te : tu (b i) = b i := by omega
      rw [te] at lk lt
      rw [if_pos c]
      rw [c] at lt
      by_cases c8 : i - p < 8
      · obtain ⟨τ', l1, l2, l3, l4⟩ := ih (i + 1) (am_wI (am_wL τ 12 0 19 (Int64.ofInt (wd b p (i - p) * 32 + b i - 96))) 12 0 16 (Int32.ofInt ((i : Int) + 1))) (M.q ((qf.rf.wL (l := [(12, 16), (12, 19)]) rfl).wI rfl) (by decide +kernel)) h15 rfl (by omega) (by omega) (by
          rw [wd_s hp, if_pos c8]
          rfl)
        refine ⟨τ', (am_loop_in (s' := am_wI (am_wL τ 12 0 19 (Int64.ofInt (wd b p (i - p) * 32 + b i - 96))) 12 0 16 (Int32.ofInt ((i : Int) + 1))) ?_).trans l1, ((qf.rf.wL rfl).wI rfl).tr l2, l3, l4⟩
        have k16 : (am_wL τ 12 0 19 (Int64.ofInt (wd b p (i - p) * 32 + b i - 96))).1 12 0 16 = Int32.ofInt (i : Int) := h16
        simp (disch := omega) only [f_X12_next_109, f_X12_next_166, h16, h15, lk, lt, h19, k16, Option.bind_some, qi, ql, qI_lt, qI_le, qI_eq, qI_L, qI_ix, qL_lt, qL_eq, q_nat, q_cs, ← Int32.ofInt_add, ← Int32.ofInt_sub, ← Int32.ofInt_mul, ← Int32.ofInt_neg, ← Int64.ofInt_add, ← Int64.ofInt_sub, ← Int64.ofInt_mul, ← Int64.ofInt_neg, pL_I, q_mx, q_mn, q_ab, q_abL, q_mnL, q_nn0, q_nn1, q_rr, q_b1, q_b0, q_T, q_F, q_iT, q_iF, q_d, q_in, q_wi, q_hC, q_hM, pT_i, pU_i, pS_i, pS_j, pS_0, Sum.elim_inl, Sum.elim_inr, if_pos, if_neg]
      · obtain ⟨τ', l1, l2, l3, l4⟩ := ih (i + 1) (am_wI (am_wL τ 12 0 19 (Int64.ofInt (-1))) 12 0 16 (Int32.ofInt ((i : Int) + 1))) (M.q ((qf.rf.wL (l := [(12, 16), (12, 19)]) rfl).wI rfl) (by decide +kernel)) h15 rfl (by omega) (by omega) (by
          rw [wd_s hp, if_neg c8]
          rfl)
        refine ⟨τ', (am_loop_in (s' := am_wI (am_wL τ 12 0 19 (Int64.ofInt (-1))) 12 0 16 (Int32.ofInt ((i : Int) + 1))) ?_).trans l1, ((qf.rf.wL rfl).wI rfl).tr l2, l3, l4⟩
        have k16 : (am_wL τ 12 0 19 (Int64.ofInt (-1))).1 12 0 16 = Int32.ofInt (i : Int) := h16
        simp (disch := omega) only [f_X12_next_109, f_X12_next_166, h16, h15, lk, lt, k16, Option.bind_some, qi, ql, qI_lt, qI_le, qI_eq, qI_L, qI_ix, qL_lt, qL_eq, q_nat, q_cs, ← Int32.ofInt_add, ← Int32.ofInt_sub, ← Int32.ofInt_mul, ← Int32.ofInt_neg, ← Int64.ofInt_add, ← Int64.ofInt_sub, ← Int64.ofInt_mul, ← Int64.ofInt_neg, pL_I, q_mx, q_mn, q_ab, q_abL, q_mnL, q_nn0, q_nn1, q_rr, q_b1, q_b0, q_T, q_F, q_iT, q_iF, q_d, q_in, q_wi, q_hC, q_hM, pT_i, pU_i, pS_i, pS_j, pS_0, Sum.elim_inl, Sum.elim_inr, if_pos, if_neg]
    · rw [if_neg c]
      rw [(Bool.not_eq_true _).mp c] at lt
      refine ⟨τ, am_loop_out ?_, qf.rf, h16, h19⟩
      simp (disch := omega) only [f_X12_next_109, h16, lk, lt, Option.bind_some, qi, ql, qI_lt, qI_le, qI_eq, qI_L, qI_ix, qL_lt, qL_eq, q_nat, q_cs, ← Int32.ofInt_add, ← Int32.ofInt_sub, ← Int32.ofInt_mul, ← Int32.ofInt_neg, ← Int64.ofInt_add, ← Int64.ofInt_sub, ← Int64.ofInt_mul, ← Int64.ofInt_neg, pL_I, q_mx, q_mn, q_ab, q_abL, q_mnL, q_nn0, q_nn1, q_rr, q_b1, q_b0, q_T, q_F, q_iT, q_iF, q_d, q_in, q_wi, q_hC, q_hM, pT_i, pU_i, pS_i, pS_j, pS_0, Sum.elim_inl, Sum.elim_inr, if_pos, if_neg]
theorem tm_210 {n : Nat} {b : Nat → Int} {p : Nat} : ∀ (f i : Nat) (τ : am_H), tM τ n b → τ.1 12 0 15 = Int32.ofInt (p : Int) → τ.1 12 0 16 = Int32.ofInt (i : Int) → p ≤ i → i + f = n → τ.1 12 0 17 = Int32.ofInt (nv b p (i - p)) → ∃ τ' : am_H, am_loop (fun s : am_H => f_X12_next_210 s) τ = some τ' ∧ qf [(12, 16), (12, 17)] τ τ' ∧ τ'.1 12 0 16 = Int32.ofInt ((rn pD b f i : Nat) : Int) ∧ τ'.1 12 0 17 = Int32.ofInt (nv b p (rn pD b f i - p)) := by
  intro f
  induction f with
  | zero =>
    intro i τ M h15 h16 hp hi h17
    have c1 := M.1
    have lk := t_look M (by omega : i ≤ n)
    rw [if_neg (by omega)] at lk
    have lt := t_dig (σ := τ) (v := 0) (by omega) (by omega)
    have e0 : pD 0 = false := rfl
    rw [e0] at lt
    refine ⟨τ, am_loop_out ?_, qf.rf, h16, h17⟩
    simp (disch := omega) only [f_X12_next_210, h16, lk, lt, Option.bind_some, qi, ql, qI_lt, qI_le, qI_eq, qI_L, qI_ix, qL_lt, qL_eq, q_nat, q_cs, ← Int32.ofInt_add, ← Int32.ofInt_sub, ← Int32.ofInt_mul, ← Int32.ofInt_neg, ← Int64.ofInt_add, ← Int64.ofInt_sub, ← Int64.ofInt_mul, ← Int64.ofInt_neg, pL_I, q_mx, q_mn, q_ab, q_abL, q_mnL, q_nn0, q_nn1, q_rr, q_b1, q_b0, q_T, q_F, q_iT, q_iF, q_d, q_in, q_wi, q_hC, q_hM, pT_i, pU_i, pS_i, pS_j, pS_0, Sum.elim_inl, Sum.elim_inr, if_pos, if_neg]
  | succ f ih =>
    intro i τ M h15 h16 hp hi h17
    obtain ⟨c1, c2, c3⟩ := id M
    have lk := t_look M (by omega : i ≤ n)
    obtain ⟨b1, b2⟩ := c3 i (by omega)
    have tb := tu_b b1.1 b1.2
    obtain ⟨tl, td, -⟩ := tu_p b1.1 b1.2
    rw [if_pos (by omega)] at lk
    have lt := t_dig (σ := τ) (v := tu (b i)) (by omega) (by omega)
    rw [td] at lt
    rw [rn_s]
    by_cases c : pD (b i) = true
    · have d := of_decide_eq_true c
      have te : tu (b i) = b i := by omega
      rw [te] at lk lt
      rw [if_pos c]
      rw [c] at lt
      by_cases c4 : i - p < 4
      · obtain ⟨τ', l1, l2, l3, l4⟩ := ih (i + 1) (am_wI (am_wI τ 12 0 17 (Int32.ofInt (10 * nv b p (i - p) + b i - 48))) 12 0 16 (Int32.ofInt ((i : Int) + 1))) (M.q ((qf.rf.wI (l := [(12, 16), (12, 17)]) rfl).wI rfl) (by decide +kernel)) h15 rfl (by omega) (by omega) (by
          rw [nv_s hp, if_pos c4, Int.mul_comm]
          rfl)
        refine ⟨τ', (am_loop_in (s' := am_wI (am_wI τ 12 0 17 (Int32.ofInt (10 * nv b p (i - p) + b i - 48))) 12 0 16 (Int32.ofInt ((i : Int) + 1))) ?_).trans l1, ((qf.rf.wI rfl).wI rfl).tr l2, l3, l4⟩
        have k16 : (am_wI τ 12 0 17 (Int32.ofInt (10 * nv b p (i - p) + b i - 48))).1 12 0 16 = Int32.ofInt (i : Int) := h16
        simp (disch := omega) only [f_X12_next_210, f_X12_next_260, h16, h15, lk, lt, h17, k16, Option.bind_some, qi, ql, qI_lt, qI_le, qI_eq, qI_L, qI_ix, qL_lt, qL_eq, q_nat, q_cs, ← Int32.ofInt_add, ← Int32.ofInt_sub, ← Int32.ofInt_mul, ← Int32.ofInt_neg, ← Int64.ofInt_add, ← Int64.ofInt_sub, ← Int64.ofInt_mul, ← Int64.ofInt_neg, pL_I, q_mx, q_mn, q_ab, q_abL, q_mnL, q_nn0, q_nn1, q_rr, q_b1, q_b0, q_T, q_F, q_iT, q_iF, q_d, q_in, q_wi, q_hC, q_hM, pT_i, pU_i, pS_i, pS_j, pS_0, Sum.elim_inl, Sum.elim_inr, if_pos, if_neg]
      · obtain ⟨τ', l1, l2, l3, l4⟩ := ih (i + 1) (am_wI τ 12 0 16 (Int32.ofInt ((i : Int) + 1))) (M.q (qf.rf.wI (l := [(12, 16), (12, 17)]) rfl) (by decide +kernel)) h15 rfl (by omega) (by omega) (by
          rw [nv_s hp, if_neg c4]
          exact h17)
        refine ⟨τ', (am_loop_in (s' := am_wI τ 12 0 16 (Int32.ofInt ((i : Int) + 1))) ?_).trans l1, (qf.rf.wI rfl).tr l2, l3, l4⟩
        simp (disch := omega) only [f_X12_next_210, f_X12_next_260, h16, h15, lk, lt, Option.bind_some, qi, ql, qI_lt, qI_le, qI_eq, qI_L, qI_ix, qL_lt, qL_eq, q_nat, q_cs, ← Int32.ofInt_add, ← Int32.ofInt_sub, ← Int32.ofInt_mul, ← Int32.ofInt_neg, ← Int64.ofInt_add, ← Int64.ofInt_sub, ← Int64.ofInt_mul, ← Int64.ofInt_neg, pL_I, q_mx, q_mn, q_ab, q_abL, q_mnL, q_nn0, q_nn1, q_rr, q_b1, q_b0, q_T, q_F, q_iT, q_iF, q_d, q_in, q_wi, q_hC, q_hM, pT_i, pU_i, pS_i, pS_j, pS_0, Sum.elim_inl, Sum.elim_inr, if_pos, if_neg]
    · rw [if_neg c]
      rw [(Bool.not_eq_true _).mp c] at lt
      refine ⟨τ, am_loop_out ?_, qf.rf, h16, h17⟩
      simp (disch := omega) only [f_X12_next_210, h16, lk, lt, Option.bind_some, qi, ql, qI_lt, qI_le, qI_eq, qI_L, qI_ix, qL_lt, qL_eq, q_nat, q_cs, ← Int32.ofInt_add, ← Int32.ofInt_sub, ← Int32.ofInt_mul, ← Int32.ofInt_neg, ← Int64.ofInt_add, ← Int64.ofInt_sub, ← Int64.ofInt_mul, ← Int64.ofInt_neg, pL_I, q_mx, q_mn, q_ab, q_abL, q_mnL, q_nn0, q_nn1, q_rr, q_b1, q_b0, q_T, q_F, q_iT, q_iF, q_d, q_in, q_wi, q_hC, q_hM, pT_i, pU_i, pS_i, pS_j, pS_0, Sum.elim_inl, Sum.elim_inr, if_pos, if_neg]
/-- the TOKEN of the reference -/
def kM (σ : am_H) (b : Nat → Int) (s p e : Nat) : Prop := σ.1 12 0 14 = Int32.ofInt (s : Int) ∧ σ.1 12 0 15 = Int32.ofInt (p : Int) ∧ (s = 1 ∨ s = 2 ∨ s = 3 → σ.1 12 0 16 = Int32.ofInt (e : Int)) ∧ (s = 2 → σ.1 12 0 17 = Int32.ofInt (nv b p (e - p))) ∧ (s = 1 → σ.1 12 0 18 = Int32.ofInt ((e : Int) - (p : Int)) ∧ σ.2.1 12 0 19 = Int64.ofInt (wd b p (e - p)))
def tl_M : List (Nat × Nat) := [(12, 14), (12, 15), (12, 16), (12, 17), (12, 18), (12, 19)]
theorem tm_next {σ : am_H} {n : Nat} {b : Nat → Int} {q : Nat} (M : tM σ n b) (h16 : σ.1 12 0 16 = Int32.ofInt (q : Int)) (hq : q ≤ n) : ∃ τ : am_H, f_X12_next σ = some τ ∧ qf tl_M σ τ ∧ kM τ b (tS b n (rn pB b (n - q) q)) (rn pB b (n - q) q) (tE b n (rn pB b (n - q) q)) := by
  have c1 := M.1
  have Q0 : qf tl_M σ (am_wI σ 12 0 15 (Int32.ofInt (q : Int))) := qf.rf.wI rfl
  obtain ⟨τ1, l1, l2, l3⟩ := tm_8 (n - q) q (am_wI σ 12 0 15 (Int32.ofInt (q : Int))) (M.q Q0 (by decide +kernel)) rfl (by omega)
  have rb := rn_b (P := pB) (b := b) (n - q) q
  generalize hp : rn pB b (n - q) q = p at l3 rb ⊢
  have Q1 : qf tl_M σ (am_wI τ1 12 0 16 (Int32.ofInt (p : Int))) := (Q0.tr (l2.mo (by decide))).wI rfl
  have M1 : tM (am_wI τ1 12 0 16 (Int32.ofInt (p : Int))) n b := M.q Q1 (by decide +kernel)
  have k15 : (am_wI τ1 12 0 16 (Int32.ofInt (p : Int))).1 12 0 15 = Int32.ofInt (p : Int) := l3
  have k16 : (am_wI τ1 12 0 16 (Int32.ofInt (p : Int))).1 12 0 16 = Int32.ofInt (p : Int) := rfl
  generalize hρ : am_wI τ1 12 0 16 (Int32.ofInt (p : Int)) = ρ at Q1 M1 k15 k16
  obtain ⟨-, c2, c3⟩ := id M1
  by_cases c : p < n
  rotate_left
  · have sS : tS b n p = 0 := by
      unfold tS
      rw [if_neg c]
    refine ⟨am_wI ρ 12 0 14 (Int32.ofInt 0), ?_, Q1.wI rfl, ?_⟩
    · simp (disch := omega) only [f_X12_next, h16, l1, l3, hρ, k15, c2, Option.bind_some, qi, ql, qI_lt, qI_le, qI_eq, qI_L, qI_ix, qL_lt, qL_eq, q_nat, q_cs, ← Int32.ofInt_add, ← Int32.ofInt_sub, ← Int32.ofInt_mul, ← Int32.ofInt_neg, ← Int64.ofInt_add, ← Int64.ofInt_sub, ← Int64.ofInt_mul, ← Int64.ofInt_neg, pL_I, q_mx, q_mn, q_ab, q_abL, q_mnL, q_nn0, q_nn1, q_rr, q_b1, q_b0, q_T, q_F, q_iT, q_iF, q_d, q_in, q_wi, q_hC, q_hM, pT_i, pU_i, pS_i, pS_j, pS_0, Sum.elim_inl, Sum.elim_inr, if_pos, if_neg]
    · rw [sS]
      exact ⟨rfl, k15, fun z => by omega, fun z => by omega, fun z => by omega⟩
  obtain ⟨b1, b2⟩ := c3 p c
  have tb := tu_b b1.1 b1.2
  obtain ⟨tl, td, -, -, t59⟩ := tu_p b1.1 b1.2
  have lk := t_look M1 (by omega : p ≤ n)
  rw [if_pos c] at lk
  have lt := t_let (σ := ρ) (v := tu (b p)) (by omega) (by omega)
  rw [tl] at lt
  have ld := t_dig (σ := ρ) (v := tu (b p)) (by omega) (by omega)
  rw [td] at ld
  rcases so_c (b p) with ⟨e1, d1⟩ | ⟨e1, d1, d2⟩ | ⟨e1, d1, d2, d3⟩ | ⟨e1, d1, d2, d3⟩
  · rw [d1] at lt
    have sS : tS b n p = 1 := by
      unfold tS
      rw [if_pos c, if_neg (by omega)]
      exact e1
    have sE : tE b n p = rn pL b (n - p) p := by
      unfold tE
      rw [if_pos e1]
    have Q2 : qf tl_M σ (am_wL (am_wI ρ 12 0 14 (Int32.ofInt 1)) 12 0 19 (Int64.ofInt 0)) := (Q1.wI rfl).wL rfl
    obtain ⟨τ2, m1, m2, m3, m4⟩ := tm_109 (p := p) (n - p) p (am_wL (am_wI ρ 12 0 14 (Int32.ofInt 1)) 12 0 19 (Int64.ofInt 0)) (M.q Q2 (by decide +kernel)) k15 k16 (by omega) (by omega) (by
      rw [Nat.sub_self]
      rfl)
    have n15 : τ2.1 12 0 15 = Int32.ofInt (p : Int) := ((m2 12 0 15 rfl).1).trans k15
    refine ⟨am_wI τ2 12 0 18 (Int32.ofInt (((rn pL b (n - p) p : Nat) : Int) - (p : Int))), ?_, (Q2.tr (m2.mo (by decide))).wI rfl, ?_⟩
    · simp (disch := omega) only [f_X12_next, h16, l1, l3, hρ, k15, c2, lk, lt, m1, m3, n15, Option.bind_some, qi, ql, qI_lt, qI_le, qI_eq, qI_L, qI_ix, qL_lt, qL_eq, q_nat, q_cs, ← Int32.ofInt_add, ← Int32.ofInt_sub, ← Int32.ofInt_mul, ← Int32.ofInt_neg, ← Int64.ofInt_add, ← Int64.ofInt_sub, ← Int64.ofInt_mul, ← Int64.ofInt_neg, pL_I, q_mx, q_mn, q_ab, q_abL, q_mnL, q_nn0, q_nn1, q_rr, q_b1, q_b0, q_T, q_F, q_iT, q_iF, q_d, q_in, q_wi, q_hC, q_hM, pT_i, pU_i, pS_i, pS_j, pS_0, Sum.elim_inl, Sum.elim_inr, if_pos, if_neg]
    · rw [sS, sE]
      exact ⟨(m2 12 0 14 rfl).1, n15, fun _ => m3, fun z => by omega, fun _ => ⟨rfl, m4⟩⟩
  · rw [d1] at lt
    rw [d2] at ld
    have Q2 : qf tl_M σ (am_wI ρ 12 0 17 (Int32.ofInt 0)) := Q1.wI rfl
    obtain ⟨τ2, m1, m2, m3, m4⟩ := tm_210 (p := p) (n - p) p (am_wI ρ 12 0 17 (Int32.ofInt 0)) (M.q Q2 (by decide +kernel)) k15 k16 (by omega) (by omega) (by
      rw [Nat.sub_self]
      rfl)
    have n15 : τ2.1 12 0 15 = Int32.ofInt (p : Int) := ((m2 12 0 15 rfl).1).trans k15
    have rb2 := rn_b (P := pD) (b := b) (n - p) p
    have sE : tE b n p = rn pD b (n - p) p := by
      unfold tE
      rw [if_neg (by omega), if_pos e1]
    by_cases c4 : 4 < rn pD b (n - p) p - p
    · have sS : tS b n p = 4 := by
        unfold tS
        rw [if_pos c, if_pos ⟨e1, c4⟩]
      refine ⟨am_wI τ2 12 0 14 (Int32.ofInt 4), ?_, (Q2.tr (m2.mo (by decide))).wI rfl, ?_⟩
      · simp (disch := omega) only [f_X12_next, f_X12_next_292, h16, l1, l3, hρ, k15, c2, lk, lt, ld, m1, m3, n15, Option.bind_some, qi, ql, qI_lt, qI_le, qI_eq, qI_L, qI_ix, qL_lt, qL_eq, q_nat, q_cs, ← Int32.ofInt_add, ← Int32.ofInt_sub, ← Int32.ofInt_mul, ← Int32.ofInt_neg, ← Int64.ofInt_add, ← Int64.ofInt_sub, ← Int64.ofInt_mul, ← Int64.ofInt_neg, pL_I, q_mx, q_mn, q_ab, q_abL, q_mnL, q_nn0, q_nn1, q_rr, q_b1, q_b0, q_T, q_F, q_iT, q_iF, q_d, q_in, q_wi, q_hC, q_hM, pT_i, pU_i, pS_i, pS_j, pS_0, Sum.elim_inl, Sum.elim_inr, if_pos, if_neg]
      · rw [sS, sE]
        exact ⟨rfl, n15, fun z => by omega, fun z => by omega, fun z => by omega⟩
    · have sS : tS b n p = 2 := by
        unfold tS
        rw [if_pos c, if_neg (by omega)]
        exact e1
      refine ⟨am_wI τ2 12 0 14 (Int32.ofInt 2), ?_, (Q2.tr (m2.mo (by decide))).wI rfl, ?_⟩
      · simp (disch := omega) only [f_X12_next, f_X12_next_292, h16, l1, l3, hρ, k15, c2, lk, lt, ld, m1, m3, n15, Option.bind_some, qi, ql, qI_lt, qI_le, qI_eq, qI_L, qI_ix, qL_lt, qL_eq, q_nat, q_cs, ← Int32.ofInt_add, ← Int32.ofInt_sub, ← Int32.ofInt_mul, ← Int32.ofInt_neg, ← Int64.ofInt_add, ← Int64.ofInt_sub, ← Int64.ofInt_mul, ← Int64.ofInt_neg, pL_I, q_mx, q_mn, q_ab, q_abL, q_mnL, q_nn0, q_nn1, q_rr, q_b1, q_b0, q_T, q_F, q_iT, q_iF, q_d, q_in, q_wi, q_hC, q_hM, pT_i, pU_i, pS_i, pS_j, pS_0, Sum.elim_inl, Sum.elim_inr, if_pos, if_neg]
      · rw [sS, sE]
        exact ⟨rfl, n15, fun _ => m3, fun _ => m4, fun z => by omega⟩
  · rw [d1] at lt
    rw [d2] at ld
    have sS : tS b n p = 3 := by
      unfold tS
      rw [if_pos c, if_neg (by omega)]
      exact e1
    have sE : tE b n p = p + 1 := by
      unfold tE
      rw [if_neg (by omega), if_neg (by omega)]
    refine ⟨am_wI (am_wI (am_wI ρ 12 0 16 (Int32.ofInt ((p : Int) + 1))) 12 0 17 (Int32.ofInt (tu (b p)))) 12 0 14 (Int32.ofInt 3), ?_, ((Q1.wI rfl).wI rfl).wI rfl, ?_⟩
    · have t5 : tu (b p) = 59 := t59.mpr d3
      simp (disch := omega) only [f_X12_next, f_X12_next_325, h16, l1, l3, hρ, k15, c2, lk, lt, ld, Option.bind_some, qi, ql, qI_lt, qI_le, qI_eq, qI_L, qI_ix, qL_lt, qL_eq, q_nat, q_cs, ← Int32.ofInt_add, ← Int32.ofInt_sub, ← Int32.ofInt_mul, ← Int32.ofInt_neg, ← Int64.ofInt_add, ← Int64.ofInt_sub, ← Int64.ofInt_mul, ← Int64.ofInt_neg, pL_I, q_mx, q_mn, q_ab, q_abL, q_mnL, q_nn0, q_nn1, q_rr, q_b1, q_b0, q_T, q_F, q_iT, q_iF, q_d, q_in, q_wi, q_hC, q_hM, pT_i, pU_i, pS_i, pS_j, pS_0, Sum.elim_inl, Sum.elim_inr, if_pos, if_neg]
    · rw [sS, sE]
      exact ⟨rfl, k15, fun _ => rfl, fun z => by omega, fun z => by omega⟩
  · rw [d1] at lt
    rw [d2] at ld
    have sS : tS b n p = 4 := by
      unfold tS
      rw [if_pos c, if_neg (by omega)]
      exact e1
    refine ⟨am_wI (am_wI (am_wI ρ 12 0 16 (Int32.ofInt ((p : Int) + 1))) 12 0 17 (Int32.ofInt (tu (b p)))) 12 0 14 (Int32.ofInt 4), ?_, ((Q1.wI rfl).wI rfl).wI rfl, ?_⟩
    · have t5 : tu (b p) ≠ 59 := fun z => d3 (t59.mp z)
      simp (disch := omega) only [f_X12_next, f_X12_next_325, h16, l1, l3, hρ, k15, c2, lk, lt, ld, Option.bind_some, qi, ql, qI_lt, qI_le, qI_eq, qI_L, qI_ix, qL_lt, qL_eq, q_nat, q_cs, ← Int32.ofInt_add, ← Int32.ofInt_sub, ← Int32.ofInt_mul, ← Int32.ofInt_neg, ← Int64.ofInt_add, ← Int64.ofInt_sub, ← Int64.ofInt_mul, ← Int64.ofInt_neg, pL_I, q_mx, q_mn, q_ab, q_abL, q_mnL, q_nn0, q_nn1, q_rr, q_b1, q_b0, q_T, q_F, q_iT, q_iF, q_d, q_in, q_wi, q_hC, q_hM, pT_i, pU_i, pS_i, pS_j, pS_0, Sum.elim_inl, Sum.elim_inr, if_pos, if_neg]
    · rw [sS]
      exact ⟨rfl, k15, fun z => by omega, fun z => by omega, fun z => by omega⟩
