/-! ===== TOKENS: the next one, in the class ===== -/
theorem so_c (v : Int) : (so v = 1 ∧ pL v = true) ∨ (so v = 2 ∧ pL v = false ∧ pD v = true) ∨ (so v = 3 ∧ pL v = false ∧ pD v = false ∧ v = 59) ∨ (so v = 4 ∧ pL v = false ∧ pD v = false ∧ v ≠ 59) := by
  unfold so
  by_cases c1 : pL v = true
  · rw [if_pos c1]
    exact Or.inl ⟨rfl, c1⟩
  · have f1 : pL v = false := by
      cases h : pL v
      · rfl
      · exact absurd h c1
    rw [if_neg c1]
    by_cases c2 : pD v = true
    · rw [if_pos c2]
      exact Or.inr (Or.inl ⟨rfl, f1, c2⟩)
    · have f2 : pD v = false := by
        cases h : pD v
        · rfl
        · exact absurd h c2
      rw [if_neg c2]
      by_cases c3 : v = 59
      · rw [if_pos c3]
        exact Or.inr (Or.inr (Or.inl ⟨rfl, f1, f2, c3⟩))
      · rw [if_neg c3]
        exact Or.inr (Or.inr (Or.inr ⟨rfl, f1, f2, c3⟩))
theorem rn_s {P : Int → Bool} {b : Nat → Int} {f i : Nat} : rn P b (f + 1) i = if P (b i) = true then rn P b f (i + 1) else i := rfl
theorem tc_5 {σ : am_H} {n : Nat} {b : Nat → Int} (C : tC σ n b) : ∀ f i : Nat, i + f = n → am_loop (fun s : Int32 => f_X5_advance_5 s σ) (Int32.ofInt (i : Int)) = some (Int32.ofInt ((rn pB b f i : Nat) : Int)) := by
  obtain ⟨c1, c2, c3⟩ := C
  intro f
  induction f with
  | zero =>
    intro i hi
    refine am_loop_out ?_
    show _ = some (Sum.inr (Int32.ofInt (i : Int)))
    simp (disch := omega) only [f_X5_advance_5, c2, Option.bind_some, qi, ql, qI_lt, qI_le, qI_eq, qI_L, qI_ix, qL_lt, qL_eq, q_nat, q_cs, ← Int32.ofInt_add, ← Int32.ofInt_sub, ← Int32.ofInt_mul, ← Int32.ofInt_neg, ← Int64.ofInt_add, ← Int64.ofInt_sub, ← Int64.ofInt_mul, ← Int64.ofInt_neg, pL_I, q_mx, q_mn, q_ab, q_abL, q_mnL, q_nn0, q_nn1, q_rr, q_b1, q_b0, q_T, q_F, q_iT, q_iF, q_d, q_in, q_wi, q_hC, q_hM, pT_i, pU_i, pS_i, pS_j, pS_0, Sum.elim_inl, Sum.elim_inr, if_pos, if_neg]
  | succ f ih =>
    intro i hi
    obtain ⟨b1, b2⟩ := c3 i (by omega)
    have bl := t_bl (σ := σ) b1.1 b1.2
    rw [rn_s]
    by_cases c : pB (b i) = true
    · rw [if_pos c]
      rw [c] at bl
      refine (am_loop_in (s' := Int32.ofInt ((i : Int) + 1)) ?_).trans (ih (i + 1) (by omega))
      simp (disch := omega) only [f_X5_advance_5, c2, b2, bl, Option.bind_some, qi, ql, qI_lt, qI_le, qI_eq, qI_L, qI_ix, qL_lt, qL_eq, q_nat, q_cs, ← Int32.ofInt_add, ← Int32.ofInt_sub, ← Int32.ofInt_mul, ← Int32.ofInt_neg, ← Int64.ofInt_add, ← Int64.ofInt_sub, ← Int64.ofInt_mul, ← Int64.ofInt_neg, pL_I, q_mx, q_mn, q_ab, q_abL, q_mnL, q_nn0, q_nn1, q_rr, q_b1, q_b0, q_T, q_F, q_iT, q_iF, q_d, q_in, q_wi, q_hC, q_hM, pT_i, pU_i, pS_i, pS_j, pS_0, Sum.elim_inl, Sum.elim_inr, if_pos, if_neg]
    · rw [if_neg c]
      rw [(Bool.not_eq_true _).mp c] at bl
      refine am_loop_out ?_
      simp (disch := omega) only [f_X5_advance_5, c2, b2, bl, Option.bind_some, qi, ql, qI_lt, qI_le, qI_eq, qI_L, qI_ix, qL_lt, qL_eq, q_nat, q_cs, ← Int32.ofInt_add, ← Int32.ofInt_sub, ← Int32.ofInt_mul, ← Int32.ofInt_neg, ← Int64.ofInt_add, ← Int64.ofInt_sub, ← Int64.ofInt_mul, ← Int64.ofInt_neg, pL_I, q_mx, q_mn, q_ab, q_abL, q_mnL, q_nn0, q_nn1, q_rr, q_b1, q_b0, q_T, q_F, q_iT, q_iF, q_d, q_in, q_wi, q_hC, q_hM, pT_i, pU_i, pS_i, pS_j, pS_0, Sum.elim_inl, Sum.elim_inr, if_pos, if_neg]
theorem tc_77 {σ : am_H} {n : Nat} {b : Nat → Int} (C : tC σ n b) (h3 : σ.1 5 0 3 = Int32.ofInt 1) : ∀ f i : Nat, i + f = n → am_loop (fun s : Int32 => f_X5_advance_77 s σ) (Int32.ofInt (i : Int)) = some (Int32.ofInt ((rn pL b f i : Nat) : Int)) := by
  obtain ⟨c1, c2, c3⟩ := C
  intro f
  induction f with
  | zero =>
    intro i hi
    refine am_loop_out ?_
    show _ = some (Sum.inr (Int32.ofInt (i : Int)))
    simp (disch := omega) only [f_X5_advance_77, h3, c2, Option.bind_some, qi, ql, qI_lt, qI_le, qI_eq, qI_L, qI_ix, qL_lt, qL_eq, q_nat, q_cs, ← Int32.ofInt_add, ← Int32.ofInt_sub, ← Int32.ofInt_mul, ← Int32.ofInt_neg, ← Int64.ofInt_add, ← Int64.ofInt_sub, ← Int64.ofInt_mul, ← Int64.ofInt_neg, pL_I, q_mx, q_mn, q_ab, q_abL, q_mnL, q_nn0, q_nn1, q_rr, q_b1, q_b0, q_T, q_F, q_iT, q_iF, q_d, q_in, q_wi, q_hC, q_hM, pT_i, pU_i, pS_i, pS_j, pS_0, Sum.elim_inl, Sum.elim_inr, if_pos, if_neg]
  | succ f ih =>
    intro i hi
    obtain ⟨b1, b2⟩ := c3 i (by omega)
    have sv := t_so (σ := σ) b1.1 b1.2
    rw [rn_s]
    rcases so_c (b i) with ⟨e1, c⟩ | ⟨e1, c, -⟩ | ⟨e1, c, -⟩ | ⟨e1, c, -⟩
    · rw [if_pos c]
      refine (am_loop_in (s' := Int32.ofInt ((i : Int) + 1)) ?_).trans (ih (i + 1) (by omega))
      simp (disch := omega) only [f_X5_advance_77, h3, c2, b2, sv, Option.bind_some, qi, ql, qI_lt, qI_le, qI_eq, qI_L, qI_ix, qL_lt, qL_eq, q_nat, q_cs, ← Int32.ofInt_add, ← Int32.ofInt_sub, ← Int32.ofInt_mul, ← Int32.ofInt_neg, ← Int64.ofInt_add, ← Int64.ofInt_sub, ← Int64.ofInt_mul, ← Int64.ofInt_neg, pL_I, q_mx, q_mn, q_ab, q_abL, q_mnL, q_nn0, q_nn1, q_rr, q_b1, q_b0, q_T, q_F, q_iT, q_iF, q_d, q_in, q_wi, q_hC, q_hM, pT_i, pU_i, pS_i, pS_j, pS_0, Sum.elim_inl, Sum.elim_inr, if_pos, if_neg]
    all_goals
      rw [if_neg (by rw [c]; exact Bool.false_ne_true)]
      refine am_loop_out ?_
      simp (disch := omega) only [f_X5_advance_77, h3, c2, b2, sv, Option.bind_some, qi, ql, qI_lt, qI_le, qI_eq, qI_L, qI_ix, qL_lt, qL_eq, q_nat, q_cs, ← Int32.ofInt_add, ← Int32.ofInt_sub, ← Int32.ofInt_mul, ← Int32.ofInt_neg, ← Int64.ofInt_add, ← Int64.ofInt_sub, ← Int64.ofInt_mul, ← Int64.ofInt_neg, pL_I, q_mx, q_mn, q_ab, q_abL, q_mnL, q_nn0, q_nn1, q_rr, q_b1, q_b0, q_T, q_F, q_iT, q_iF, q_d, q_in, q_wi, q_hC, q_hM, pT_i, pU_i, pS_i, pS_j, pS_0, Sum.elim_inl, Sum.elim_inr, if_pos, if_neg]
theorem tc_77n {σ : am_H} {k : Int} {v : Int32} (h3 : σ.1 5 0 3 = Int32.ofInt k) (hk : 0 ≤ k ∧ k ≤ 4) (h1 : k ≠ 1) : am_loop (fun s : Int32 => f_X5_advance_77 s σ) v = some v := by
  refine am_loop_out ?_
  simp (disch := omega) only [f_X5_advance_77, h3, Option.bind_some, qi, ql, qI_lt, qI_le, qI_eq, qI_L, qI_ix, qL_lt, qL_eq, q_nat, q_cs, ← Int32.ofInt_add, ← Int32.ofInt_sub, ← Int32.ofInt_mul, ← Int32.ofInt_neg, ← Int64.ofInt_add, ← Int64.ofInt_sub, ← Int64.ofInt_mul, ← Int64.ofInt_neg, pL_I, q_mx, q_mn, q_ab, q_abL, q_mnL, q_nn0, q_nn1, q_rr, q_b1, q_b0, q_T, q_F, q_iT, q_iF, q_d, q_in, q_wi, q_hC, q_hM, pT_i, pU_i, pS_i, pS_j, pS_0, Sum.elim_inl, Sum.elim_inr, if_pos, if_neg]
theorem tc_112n {σ : am_H} {k : Int} {v : Int32} (h3 : σ.1 5 0 3 = Int32.ofInt k) (hk : 0 ≤ k ∧ k ≤ 4) (h1 : k ≠ 2) : am_loop (fun s : Int32 × am_H => f_X5_advance_112 s.1 s.2) (v, σ) = some (v, σ) := by
  refine am_loop_out ?_
  simp (disch := omega) only [f_X5_advance_112, h3, Option.bind_some, qi, ql, qI_lt, qI_le, qI_eq, qI_L, qI_ix, qL_lt, qL_eq, q_nat, q_cs, ← Int32.ofInt_add, ← Int32.ofInt_sub, ← Int32.ofInt_mul, ← Int32.ofInt_neg, ← Int64.ofInt_add, ← Int64.ofInt_sub, ← Int64.ofInt_mul, ← Int64.ofInt_neg, pL_I, q_mx, q_mn, q_ab, q_abL, q_mnL, q_nn0, q_nn1, q_rr, q_b1, q_b0, q_T, q_F, q_iT, q_iF, q_d, q_in, q_wi, q_hC, q_hM, pT_i, pU_i, pS_i, pS_j, pS_0, Sum.elim_inl, Sum.elim_inr, if_pos, if_neg]
theorem nv_s {b : Nat → Int} {p i : Nat} (h : p ≤ i) : nv b p (i + 1 - p) = if i - p < 4 then nv b p (i - p) * 10 + b i - 48 else nv b p (i - p) := by
  rw [show i + 1 - p = (i - p) + 1 by omega]
  show (if i - p < 4 then 10 * nv b p (i - p) + (b (p + (i - p)) - 48) else nv b p (i - p)) = _
  rw [show p + (i - p) = i by omega]
  split <;> omega
theorem tc_112 {n : Nat} {b : Nat → Int} {p : Nat} : ∀ (f i : Nat) (τ : am_H), tC τ n b → τ.1 5 0 3 = Int32.ofInt 2 → τ.1 5 0 4 = Int32.ofInt (p : Int) → p ≤ i → i + f = n → τ.1 5 0 6 = Int32.ofInt (nv b p (i - p)) → ∃ τ' : am_H, am_loop (fun s : Int32 × am_H => f_X5_advance_112 s.1 s.2) (Int32.ofInt (i : Int), τ) = some (Int32.ofInt ((rn pD b f i : Nat) : Int), τ') ∧ qf [(5, 6)] τ τ' ∧ τ'.1 5 0 6 = Int32.ofInt (nv b p (rn pD b f i - p)) := by
  intro f
  induction f with
  | zero =>
    intro i τ C h3 h4 hp hi h6
    obtain ⟨c1, c2, c3⟩ := C
    refine ⟨τ, am_loop_out ?_, qf.rf, h6⟩
    show _ = some (Sum.inr (Int32.ofInt (i : Int), τ))
    simp (disch := omega) only [f_X5_advance_112, h3, c2, Option.bind_some, qi, ql, qI_lt, qI_le, qI_eq, qI_L, qI_ix, qL_lt, qL_eq, q_nat, q_cs, ← Int32.ofInt_add, ← Int32.ofInt_sub, ← Int32.ofInt_mul, ← Int32.ofInt_neg, ← Int64.ofInt_add, ← Int64.ofInt_sub, ← Int64.ofInt_mul, ← Int64.ofInt_neg, pL_I, q_mx, q_mn, q_ab, q_abL, q_mnL, q_nn0, q_nn1, q_rr, q_b1, q_b0, q_T, q_F, q_iT, q_iF, q_d, q_in, q_wi, q_hC, q_hM, pT_i, pU_i, pS_i, pS_j, pS_0, Sum.elim_inl, Sum.elim_inr, if_pos, if_neg]
  | succ f ih =>
    intro i τ C h3 h4 hp hi h6
    obtain ⟨c1, c2, c3⟩ := id C
    obtain ⟨b1, b2⟩ := c3 i (by omega)
    have sv := t_so (σ := τ) b1.1 b1.2
    rw [rn_s]
    by_cases c : pD (b i) = true
    · have e1 : so (b i) = 2 := by
        rcases so_c (b i) with ⟨e1, d⟩ | ⟨e1, -⟩ | ⟨e1, -, d, -⟩ | ⟨e1, -, d, -⟩
        · have d1 := of_decide_eq_true c
          have d2 := of_decide_eq_true d
          omega
        · exact e1
        · rw [c] at d; cases d
        · rw [c] at d; cases d
      rw [if_pos c]
      by_cases c4 : i - p < 4
      · obtain ⟨τ', l1, l2, l3⟩ := ih (i + 1) (am_wI τ 5 0 6 (Int32.ofInt (nv b p (i - p) * 10 + b i - 48))) (C.q (qf.rf.wI (l := [(5, 6)]) rfl) (by decide +kernel)) h3 h4 (by omega) (by omega) (by
          rw [nv_s hp, if_pos c4]
          rfl)
        refine ⟨τ', (am_loop_in (s' := (Int32.ofInt ((i : Int) + 1), am_wI τ 5 0 6 (Int32.ofInt (nv b p (i - p) * 10 + b i - 48)))) ?_).trans l1, (qf.rf.wI rfl).tr l2, l3⟩
        simp (disch := omega) only [f_X5_advance_112, f_X5_advance_176, h3, h4, h6, c2, b2, sv, Option.bind_some, qi, ql, qI_lt, qI_le, qI_eq, qI_L, qI_ix, qL_lt, qL_eq, q_nat, q_cs, ← Int32.ofInt_add, ← Int32.ofInt_sub, ← Int32.ofInt_mul, ← Int32.ofInt_neg, ← Int64.ofInt_add, ← Int64.ofInt_sub, ← Int64.ofInt_mul, ← Int64.ofInt_neg, pL_I, q_mx, q_mn, q_ab, q_abL, q_mnL, q_nn0, q_nn1, q_rr, q_b1, q_b0, q_T, q_F, q_iT, q_iF, q_d, q_in, q_wi, q_hC, q_hM, pT_i, pU_i, pS_i, pS_j, pS_0, Sum.elim_inl, Sum.elim_inr, if_pos, if_neg]
      · obtain ⟨τ', l1, l2, l3⟩ := ih (i + 1) (am_wI τ 5 0 6 (Int32.ofInt (nv b p (i - p)))) (C.q (qf.rf.wI (l := [(5, 6)]) rfl) (by decide +kernel)) h3 h4 (by omega) (by omega) (by
          rw [nv_s hp, if_neg c4]
          rfl)
        refine ⟨τ', (am_loop_in (s' := (Int32.ofInt ((i : Int) + 1), am_wI τ 5 0 6 (Int32.ofInt (nv b p (i - p))))) ?_).trans l1, (qf.rf.wI rfl).tr l2, l3⟩
        simp (disch := omega) only [f_X5_advance_112, f_X5_advance_176, h3, h4, h6, c2, b2, sv, Option.bind_some, qi, ql, qI_lt, qI_le, qI_eq, qI_L, qI_ix, qL_lt, qL_eq, q_nat, q_cs, ← Int32.ofInt_add, ← Int32.ofInt_sub, ← Int32.ofInt_mul, ← Int32.ofInt_neg, ← Int64.ofInt_add, ← Int64.ofInt_sub, ← Int64.ofInt_mul, ← Int64.ofInt_neg, pL_I, q_mx, q_mn, q_ab, q_abL, q_mnL, q_nn0, q_nn1, q_rr, q_b1, q_b0, q_T, q_F, q_iT, q_iF, q_d, q_in, q_wi, q_hC, q_hM, pT_i, pU_i, pS_i, pS_j, pS_0, Sum.elim_inl, Sum.elim_inr, if_pos, if_neg]
    · have e1 : so (b i) ≠ 2 := by
        rcases so_c (b i) with ⟨e1, d⟩ | ⟨e1, -, d⟩ | ⟨e1, -, d, -⟩ | ⟨e1, -, d, -⟩
        · omega
        · exact absurd d c
        · omega
        · omega
      have e2 : so (b i) ≤ 4 := by
        rcases so_c (b i) with ⟨e1, d⟩ | ⟨e1, -⟩ | ⟨e1, -⟩ | ⟨e1, -⟩ <;> omega
      rw [if_neg c]
      refine ⟨τ, am_loop_out ?_, qf.rf, h6⟩
      simp (disch := omega) only [f_X5_advance_112, h3, c2, b2, sv, Option.bind_some, qi, ql, qI_lt, qI_le, qI_eq, qI_L, qI_ix, qL_lt, qL_eq, q_nat, q_cs, ← Int32.ofInt_add, ← Int32.ofInt_sub, ← Int32.ofInt_mul, ← Int32.ofInt_neg, ← Int64.ofInt_add, ← Int64.ofInt_sub, ← Int64.ofInt_mul, ← Int64.ofInt_neg, pL_I, q_mx, q_mn, q_ab, q_abL, q_mnL, q_nn0, q_nn1, q_rr, q_b1, q_b0, q_T, q_F, q_iT, q_iF, q_d, q_in, q_wi, q_hC, q_hM, pT_i, pU_i, pS_i, pS_j, pS_0, Sum.elim_inl, Sum.elim_inr, if_pos, if_neg]
/-- the sort and the end of the TOKEN that begins at p -/
def tS (b : Nat → Int) (n p : Nat) : Nat := if p < n then (if so (b p) = 2 ∧ 4 < rn pD b (n - p) p - p then 4 else so (b p)) else 0
def tE (b : Nat → Int) (n p : Nat) : Nat := if so (b p) = 1 then rn pL b (n - p) p else if so (b p) = 2 then rn pD b (n - p) p else p + 1
/-- the TOKEN of the class -/
def kC (σ : am_H) (b : Nat → Int) (s p e : Nat) : Prop := σ.1 5 0 3 = Int32.ofInt (s : Int) ∧ σ.1 5 0 4 = Int32.ofInt (p : Int) ∧ (s = 1 ∨ s = 2 ∨ s = 3 → σ.1 5 0 5 = Int32.ofInt (e : Int)) ∧ (s = 2 → σ.1 5 0 6 = Int32.ofInt (nv b p (e - p)))
theorem tc_63 {σ : am_H} {n : Nat} {b : Nat → Int} {p k : Nat} (C : tC σ n b) (h4 : σ.1 5 0 4 = Int32.ofInt (p : Int)) (h6 : σ.1 5 0 6 = Int32.ofInt 0) (hk : (p < n ∧ k = so (b p)) ∨ (p = n ∧ k = 0)) : ∃ τ : am_H, f_X5_advance_63 (Int32.ofInt (p : Int)) (Int32.ofInt (k : Int)) σ = some τ ∧ qf [(5, 3), (5, 5), (5, 6)] σ τ ∧ kC τ b (tS b n p) p (tE b n p) := by
  have c1 := C.1
  have Q1 : qf [(5, 3), (5, 5), (5, 6)] σ (am_wI σ 5 0 3 (Int32.ofInt (k : Int))) := qf.rf.wI rfl
  have C1 : tC (am_wI σ 5 0 3 (Int32.ofInt (k : Int))) n b := C.q Q1 (by decide +kernel)
  have k3 : (am_wI σ 5 0 3 (Int32.ofInt (k : Int))).1 5 0 3 = Int32.ofInt (k : Int) := rfl
  have k4 : (am_wI σ 5 0 3 (Int32.ofInt (k : Int))).1 5 0 4 = Int32.ofInt (p : Int) := h4
  have k6 : (am_wI σ 5 0 3 (Int32.ofInt (k : Int))).1 5 0 6 = Int32.ofInt (nv b p (p - p)) := by
    rw [Nat.sub_self]
    exact h6
  have kk : k ≤ 4 := by
    rcases hk with ⟨-, hk⟩ | ⟨-, hk⟩
    · rcases so_c (b p) with ⟨e1, d⟩ | ⟨e1, -⟩ | ⟨e1, -⟩ | ⟨e1, -⟩ <;> omega
    · omega
  rcases (by omega : k = 0 ∨ k = 4 ∨ k = 3 ∨ k = 1 ∨ k = 2) with z | z | z | z | z
  · have zz : Int32.ofInt (k : Int) = Int32.ofInt ((0 : Nat) : Int) := by rw [z]
    have pn : p = n := by
      rcases hk with ⟨-, hk⟩ | ⟨hk, -⟩
      · rcases so_c (b p) with ⟨e1, d⟩ | ⟨e1, -⟩ | ⟨e1, -⟩ | ⟨e1, -⟩ <;> omega
      · exact hk
    have a1 := tc_77n (v := Int32.ofInt (p : Int)) k3 (by omega) (by omega)
    have a2 := tc_112n (v := Int32.ofInt (p : Int)) k3 (by omega) (by omega)
    have sS : tS b n p = 0 := by
      unfold tS
      rw [if_neg (by omega)]
    refine ⟨am_wI (am_wI σ 5 0 3 (Int32.ofInt (k : Int))) 5 0 5 (Int32.ofInt (p : Int)), ?_, Q1.wI rfl, ?_⟩
    · simp (disch := omega) only [f_X5_advance_63, f_X5_advance_208, k3, a1, a2, Option.bind_some, qi, ql, qI_lt, qI_le, qI_eq, qI_L, qI_ix, qL_lt, qL_eq, q_nat, q_cs, ← Int32.ofInt_add, ← Int32.ofInt_sub, ← Int32.ofInt_mul, ← Int32.ofInt_neg, ← Int64.ofInt_add, ← Int64.ofInt_sub, ← Int64.ofInt_mul, ← Int64.ofInt_neg, pL_I, q_mx, q_mn, q_ab, q_abL, q_mnL, q_nn0, q_nn1, q_rr, q_b1, q_b0, q_T, q_F, q_iT, q_iF, q_d, q_in, q_wi, q_hC, q_hM, pT_i, pU_i, pS_i, pS_j, pS_0, Sum.elim_inl, Sum.elim_inr, if_pos, if_neg]
    · rw [sS]
      exact ⟨zz, h4, fun z => by omega, fun z => by omega⟩
  · have zz : Int32.ofInt (k : Int) = Int32.ofInt ((4 : Nat) : Int) := by rw [z]
    have pn : p < n ∧ so (b p) = 4 := by omega
    have a1 := tc_77n (v := Int32.ofInt (p : Int)) k3 (by omega) (by omega)
    have a2 := tc_112n (v := Int32.ofInt (p : Int)) k3 (by omega) (by omega)
    have sS : tS b n p = 4 := by
      unfold tS
      rw [if_pos pn.1, if_neg (by omega)]
      exact pn.2
    refine ⟨am_wI (am_wI σ 5 0 3 (Int32.ofInt (k : Int))) 5 0 5 (Int32.ofInt (p : Int)), ?_, Q1.wI rfl, ?_⟩
    · simp (disch := omega) only [f_X5_advance_63, f_X5_advance_208, k3, a1, a2, Option.bind_some, qi, ql, qI_lt, qI_le, qI_eq, qI_L, qI_ix, qL_lt, qL_eq, q_nat, q_cs, ← Int32.ofInt_add, ← Int32.ofInt_sub, ← Int32.ofInt_mul, ← Int32.ofInt_neg, ← Int64.ofInt_add, ← Int64.ofInt_sub, ← Int64.ofInt_mul, ← Int64.ofInt_neg, pL_I, q_mx, q_mn, q_ab, q_abL, q_mnL, q_nn0, q_nn1, q_rr, q_b1, q_b0, q_T, q_F, q_iT, q_iF, q_d, q_in, q_wi, q_hC, q_hM, pT_i, pU_i, pS_i, pS_j, pS_0, Sum.elim_inl, Sum.elim_inr, if_pos, if_neg]
    · rw [sS]
      exact ⟨zz, h4, fun z => by omega, fun z => by omega⟩
  · have zz : Int32.ofInt (k : Int) = Int32.ofInt ((3 : Nat) : Int) := by rw [z]
    have pn : p < n ∧ so (b p) = 3 := by omega
    have a1 := tc_77n (v := Int32.ofInt ((p : Int) + 1)) k3 (by omega) (by omega)
    have a2 := tc_112n (v := Int32.ofInt ((p : Int) + 1)) k3 (by omega) (by omega)
    have sS : tS b n p = 3 := by
      unfold tS
      rw [if_pos pn.1, if_neg (by omega)]
      exact pn.2
    have sE : tE b n p = p + 1 := by
      unfold tE
      rw [if_neg (by omega), if_neg (by omega)]
    refine ⟨am_wI (am_wI σ 5 0 3 (Int32.ofInt (k : Int))) 5 0 5 (Int32.ofInt ((p : Int) + 1)), ?_, Q1.wI rfl, ?_⟩
    · simp (disch := omega) only [f_X5_advance_63, f_X5_advance_208, k3, a1, a2, Option.bind_some, qi, ql, qI_lt, qI_le, qI_eq, qI_L, qI_ix, qL_lt, qL_eq, q_nat, q_cs, ← Int32.ofInt_add, ← Int32.ofInt_sub, ← Int32.ofInt_mul, ← Int32.ofInt_neg, ← Int64.ofInt_add, ← Int64.ofInt_sub, ← Int64.ofInt_mul, ← Int64.ofInt_neg, pL_I, q_mx, q_mn, q_ab, q_abL, q_mnL, q_nn0, q_nn1, q_rr, q_b1, q_b0, q_T, q_F, q_iT, q_iF, q_d, q_in, q_wi, q_hC, q_hM, pT_i, pU_i, pS_i, pS_j, pS_0, Sum.elim_inl, Sum.elim_inr, if_pos, if_neg]
    · rw [sS, sE]
      exact ⟨zz, h4, fun _ => rfl, fun z => by omega⟩
  · have zz : Int32.ofInt (k : Int) = Int32.ofInt ((1 : Nat) : Int) := by rw [z]
    have pn : p < n ∧ so (b p) = 1 := by omega
    have a1 := tc_77 C1 (k3.trans zz) (n - p) p (by omega)
    have a2 := tc_112n (v := Int32.ofInt ((rn pL b (n - p) p : Nat) : Int)) k3 (by omega) (by omega)
    have sS : tS b n p = 1 := by
      unfold tS
      rw [if_pos pn.1, if_neg (by omega)]
      exact pn.2
    have sE : tE b n p = rn pL b (n - p) p := by
      unfold tE
      rw [if_pos pn.2]
    refine ⟨am_wI (am_wI σ 5 0 3 (Int32.ofInt (k : Int))) 5 0 5 (Int32.ofInt ((rn pL b (n - p) p : Nat) : Int)), ?_, Q1.wI rfl, ?_⟩
    · simp (disch := omega) only [f_X5_advance_63, f_X5_advance_208, k3, a1, a2, Option.bind_some, qi, ql, qI_lt, qI_le, qI_eq, qI_L, qI_ix, qL_lt, qL_eq, q_nat, q_cs, ← Int32.ofInt_add, ← Int32.ofInt_sub, ← Int32.ofInt_mul, ← Int32.ofInt_neg, ← Int64.ofInt_add, ← Int64.ofInt_sub, ← Int64.ofInt_mul, ← Int64.ofInt_neg, pL_I, q_mx, q_mn, q_ab, q_abL, q_mnL, q_nn0, q_nn1, q_rr, q_b1, q_b0, q_T, q_F, q_iT, q_iF, q_d, q_in, q_wi, q_hC, q_hM, pT_i, pU_i, pS_i, pS_j, pS_0, Sum.elim_inl, Sum.elim_inr, if_pos, if_neg]
    · rw [sS, sE]
      exact ⟨zz, h4, fun _ => rfl, fun z => by omega⟩
  · have zz : Int32.ofInt (k : Int) = Int32.ofInt ((2 : Nat) : Int) := by rw [z]
    have pn : p < n ∧ so (b p) = 2 := by omega
    have a1 := tc_77n (v := Int32.ofInt (p : Int)) k3 (by omega) (by omega)
    obtain ⟨τ', a2, q2, v2⟩ := tc_112 (n - p) p _ C1 (k3.trans zz) k4 (by omega) (by omega) k6
    have t3 : τ'.1 5 0 3 = Int32.ofInt 2 := ((q2 5 0 3 rfl).1).trans (k3.trans zz)
    have t4 : τ'.1 5 0 4 = Int32.ofInt (p : Int) := ((q2 5 0 4 rfl).1).trans k4
    have rb := rn_b (P := pD) (b := b) (n - p) p
    have sE : tE b n p = rn pD b (n - p) p := by
      unfold tE
      rw [if_neg (by omega), if_pos pn.2]
    by_cases c4 : 4 < rn pD b (n - p) p - p
    · have sS : tS b n p = 4 := by
        unfold tS
        rw [if_pos pn.1, if_pos ⟨pn.2, c4⟩]
      refine ⟨am_wI (am_wI τ' 5 0 3 (Int32.ofInt 4)) 5 0 5 (Int32.ofInt ((rn pD b (n - p) p : Nat) : Int)), ?_, ((Q1.tr (q2.mo (by decide))).wI rfl).wI rfl, ?_⟩
      · simp (disch := omega) only [f_X5_advance_63, f_X5_advance_208, k3, a1, a2, t3, t4, Option.bind_some, qi, ql, qI_lt, qI_le, qI_eq, qI_L, qI_ix, qL_lt, qL_eq, q_nat, q_cs, ← Int32.ofInt_add, ← Int32.ofInt_sub, ← Int32.ofInt_mul, ← Int32.ofInt_neg, ← Int64.ofInt_add, ← Int64.ofInt_sub, ← Int64.ofInt_mul, ← Int64.ofInt_neg, pL_I, q_mx, q_mn, q_ab, q_abL, q_mnL, q_nn0, q_nn1, q_rr, q_b1, q_b0, q_T, q_F, q_iT, q_iF, q_d, q_in, q_wi, q_hC, q_hM, pT_i, pU_i, pS_i, pS_j, pS_0, Sum.elim_inl, Sum.elim_inr, if_pos, if_neg]
      · rw [sS, sE]
        exact ⟨rfl, t4, fun z => by omega, fun z => by omega⟩
    · have sS : tS b n p = 2 := by
        unfold tS
        rw [if_pos pn.1, if_neg (by omega)]
        exact pn.2
      refine ⟨am_wI τ' 5 0 5 (Int32.ofInt ((rn pD b (n - p) p : Nat) : Int)), ?_, (Q1.tr (q2.mo (by decide))).wI rfl, ?_⟩
      · simp (disch := omega) only [f_X5_advance_63, f_X5_advance_208, k3, a1, a2, t3, t4, Option.bind_some, qi, ql, qI_lt, qI_le, qI_eq, qI_L, qI_ix, qL_lt, qL_eq, q_nat, q_cs, ← Int32.ofInt_add, ← Int32.ofInt_sub, ← Int32.ofInt_mul, ← Int32.ofInt_neg, ← Int64.ofInt_add, ← Int64.ofInt_sub, ← Int64.ofInt_mul, ← Int64.ofInt_neg, pL_I, q_mx, q_mn, q_ab, q_abL, q_mnL, q_nn0, q_nn1, q_rr, q_b1, q_b0, q_T, q_F, q_iT, q_iF, q_d, q_in, q_wi, q_hC, q_hM, pT_i, pU_i, pS_i, pS_j, pS_0, Sum.elim_inl, Sum.elim_inr, if_pos, if_neg]
      · rw [sS, sE]
        exact ⟨t3, t4, fun _ => rfl, fun _ => v2⟩
theorem tc_adv {σ : am_H} {n : Nat} {b : Nat → Int} {q : Nat} (C : tC σ n b) (h5 : σ.1 5 0 5 = Int32.ofInt (q : Int)) (hq : q ≤ n) : ∃ τ : am_H, f_X5_advance σ = some τ ∧ qf [(5, 3), (5, 4), (5, 5), (5, 6)] σ τ ∧ kC τ b (tS b n (rn pB b (n - q) q)) (rn pB b (n - q) q) (tE b n (rn pB b (n - q) q)) := by
  obtain ⟨c1, c2, c3⟩ := id C
  have l5 := tc_5 C (n - q) q (by omega)
  have rb := rn_b (P := pB) (b := b) (n - q) q
  generalize hp : rn pB b (n - q) q = p at l5 rb ⊢
  have Q1 : qf [(5, 3), (5, 4), (5, 5), (5, 6)] σ (am_wI (am_wI σ 5 0 4 (Int32.ofInt (p : Int))) 5 0 6 (Int32.ofInt 0)) := (qf.rf.wI rfl).wI rfl
  have e2 : (am_wI (am_wI σ 5 0 4 (Int32.ofInt (p : Int))) 5 0 6 (Int32.ofInt 0)).1 5 0 2 = Int32.ofInt (n : Int) := c2
  by_cases c : p < n
  · obtain ⟨b1, b2⟩ := c3 p c
    have b2' : (am_wI (am_wI σ 5 0 4 (Int32.ofInt (p : Int))) 5 0 6 (Int32.ofInt 0)).1 600 0 p = Int32.ofInt (b p) := b2
    have sv := t_so (σ := am_wI (am_wI σ 5 0 4 (Int32.ofInt (p : Int))) 5 0 6 (Int32.ofInt 0)) b1.1 b1.2
    obtain ⟨τ, l1, l2, l3⟩ := tc_63 (k := so (b p)) (C.q Q1 (by decide +kernel)) rfl rfl (Or.inl ⟨c, rfl⟩)
    refine ⟨τ, ?_, Q1.tr (l2.mo (by decide)), l3⟩
    simp (disch := omega) only [f_X5_advance, h5, l5, e2, b2', sv, l1, Option.bind_some, qi, ql, qI_lt, qI_le, qI_eq, qI_L, qI_ix, qL_lt, qL_eq, q_nat, q_cs, ← Int32.ofInt_add, ← Int32.ofInt_sub, ← Int32.ofInt_mul, ← Int32.ofInt_neg, ← Int64.ofInt_add, ← Int64.ofInt_sub, ← Int64.ofInt_mul, ← Int64.ofInt_neg, pL_I, q_mx, q_mn, q_ab, q_abL, q_mnL, q_nn0, q_nn1, q_rr, q_b1, q_b0, q_T, q_F, q_iT, q_iF, q_d, q_in, q_wi, q_hC, q_hM, pT_i, pU_i, pS_i, pS_j, pS_0, Sum.elim_inl, Sum.elim_inr, if_pos, if_neg]
  · obtain ⟨τ, l1, l2, l3⟩ := tc_63 (k := 0) (C.q Q1 (by decide +kernel)) rfl rfl (Or.inr ⟨by omega, rfl⟩)
    have l1' : f_X5_advance_63 (Int32.ofInt (p : Int)) (Int32.ofInt 0) (am_wI (am_wI σ 5 0 4 (Int32.ofInt (p : Int))) 5 0 6 (Int32.ofInt 0)) = some τ := l1
    refine ⟨τ, ?_, Q1.tr (l2.mo (by decide)), l3⟩
    simp (disch := omega) only [f_X5_advance, h5, l5, e2, l1', Option.bind_some, qi, ql, qI_lt, qI_le, qI_eq, qI_L, qI_ix, qL_lt, qL_eq, q_nat, q_cs, ← Int32.ofInt_add, ← Int32.ofInt_sub, ← Int32.ofInt_mul, ← Int32.ofInt_neg, ← Int64.ofInt_add, ← Int64.ofInt_sub, ← Int64.ofInt_mul, ← Int64.ofInt_neg, pL_I, q_mx, q_mn, q_ab, q_abL, q_mnL, q_nn0, q_nn1, q_rr, q_b1, q_b0, q_T, q_F, q_iT, q_iF, q_d, q_in, q_wi, q_hC, q_hM, pT_i, pU_i, pS_i, pS_j, pS_0, Sum.elim_inl, Sum.elim_inr, if_pos, if_neg]
