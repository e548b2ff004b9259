/-! ===== SPREAD ===== -/
/-- the sum of differences, if a wave is set anew: D what it has to come to, H its PLACES gone by -/
def py_f (D H : Nat → Int) (n : Nat) (s t : Int) : Int := ps_sum (fun j => (((D j - s * pc_cos (H j + t)).natAbs : Nat) : Int)) n
theorem py_cv {D H : Nat → Int} {n : Nat} {s t : Int} : 2 * py_f D H n (s + 1) t ≤ py_f D H n s t + py_f D H n (s + 1 + 1) t := by
  unfold py_f
  induction n with
  | zero => show 2 * (0 : Int) ≤ 0 + 0; omega
  | succ n ih =>
    show 2 * (ps_sum _ n + (((D n - (s + 1) * pc_cos (H n + t)).natAbs : Nat) : Int)) ≤ ps_sum _ n + (((D n - s * pc_cos (H n + t)).natAbs : Nat) : Int) + (ps_sum _ n + (((D n - (s + 1 + 1) * pc_cos (H n + t)).natAbs : Nat) : Int))
    have e1 : (s + 1) * pc_cos (H n + t) = s * pc_cos (H n + t) + pc_cos (H n + t) := by rw [Int.add_mul, Int.one_mul]
    have e2 : (s + 1 + 1) * pc_cos (H n + t) = s * pc_cos (H n + t) + pc_cos (H n + t) + pc_cos (H n + t) := by rw [Int.add_mul, e1, Int.one_mul]
    rw [e1, e2]
    omega
theorem py_mono {g : Int → Int} (cv : ∀ s, 2 * g (s + 1) ≤ g s + g (s + 1 + 1)) (s : Int) (k : Nat) : g (s + 1) - g s ≤ g (s + k + 1) - g (s + k) := by
  induction k with
  | zero => rw [show s + ((0 : Nat) : Int) = s by omega]; omega
  | succ k ih =>
    have := cv (s + k)
    rw [show s + ((k + 1 : Nat) : Int) = s + k + 1 by omega]
    omega
theorem py_mono2 {g : Int → Int} (cv : ∀ s, 2 * g (s + 1) ≤ g s + g (s + 1 + 1)) {s t : Int} (h : s ≤ t) : g (s + 1) - g s ≤ g (t + 1) - g t := by
  have := py_mono cv s (t - s).toNat
  rw [show s + (((t - s).toNat : Nat) : Int) = t by omega] at this
  exact this
/-- behind the last fall there is no less -/
theorem py_least {g : Int → Int} (cv : ∀ s, 2 * g (s + 1) ≤ g s + g (s + 1 + 1)) {m : Int} (m0 : 0 ≤ m) (lo : ∀ s, 0 ≤ s → s < m → g (s + 1) < g s) (hi : m = 99 ∨ g m ≤ g (m + 1)) : ∀ s, 0 ≤ s → s ≤ 99 → (s < m → g m < g s) ∧ (m ≤ s → g m ≤ g s) := by
  have dn : ∀ k : Nat, ∀ s, 0 ≤ s → s + k + 1 = m → g m < g s := by
    intro k
    induction k with
    | zero =>
      intro s s0 e
      have := lo s s0 (by omega)
      rw [show s + 1 = m by omega] at this
      exact this
    | succ k ih =>
      intro s s0 e
      have h1 := lo s s0 (by omega)
      have h2 := ih (s + 1) (by omega) (by omega)
      omega
  have up : g m ≤ g (m + 1) → ∀ k : Nat, g m ≤ g (m + k) := by
    intro h k
    induction k with
    | zero => rw [show m + ((0 : Nat) : Int) = m by omega]; omega
    | succ k ih =>
      have := py_mono2 cv (s := m) (t := m + k) (by omega)
      rw [show m + ((k + 1 : Nat) : Int) = m + k + 1 by omega]
      omega
  intro s s0 s1
  refine ⟨fun h => dn (m - s - 1).toNat s s0 (by omega), fun h => ?_⟩
  rcases hi with hi | hi
  · have : s = m := by omega
    subst this
    omega
  · have := up hi (s - m).toNat
    rw [show m + (((s - m).toNat : Nat) : Int) = s by omega] at this
    exact this
theorem py_fb {D H : Nat → Int} {n : Nat} {s t : Int} (hn : n ≤ 48) (hD : ∀ j, j < n → -3000 ≤ D j ∧ D j ≤ 3000) (s0 : 0 ≤ s) (s1 : s ≤ 100) : 0 ≤ py_f D H n s t ∧ py_f D H n s t ≤ 240000 := by
  have := ps_b (f := fun j => (((D j - s * pc_cos (H j + t)).natAbs : Nat) : Int)) (n := n) (B := 5000) (fun j hj => by
    have h1 := hD j hj
    have c := pc_b (H j + t)
    have e1 : s * pc_cos (H j + t) ≤ s * 12 := Int.mul_le_mul_of_nonneg_left c.2 s0
    have e2 : s * (-12) ≤ s * pc_cos (H j + t) := Int.mul_le_mul_of_nonneg_left c.1 s0
    show 0 ≤ (((D j - s * pc_cos (H j + t)).natAbs : Nat) : Int) ∧ (((D j - s * pc_cos (H j + t)).natAbs : Nat) : Int) ≤ 5000
    omega)
  unfold py_f
  omega
def py_A (σ : am_H) (D H : Nat → Int) (n : Nat) : Prop := ∀ j, j < n → σ.1 100 0 j = Int32.ofInt (D j) ∧ σ.1 102 0 j = Int32.ofInt (H j) ∧ (-3000 ≤ D j ∧ D j ≤ 3000) ∧ (0 ≤ H j ∧ H j ≤ 23)
theorem py_sum {σ : am_H} {D H : Nat → Int} {n : Nat} {s t : Int} (hn : n ≤ 48) (A : py_A σ D H n) (s0 : 0 ≤ s) (s1 : s ≤ 100) (t0 : 0 ≤ t) (t1 : t ≤ 23) : f_X0_sumSpread (Int32.ofInt s) (Int32.ofInt t) (Int32.ofInt n) σ = some (Int32.ofInt (py_f D H n s t)) := by
  have lp := am_loop_n (body := fun x : Int32 × Int32 => f_X0_sumSpread_6 (Int32.ofInt s) (Int32.ofInt t) (Int32.ofInt n) x.1 x.2 σ) (fun i => (Int32.ofInt (py_f D H i s t), Int32.ofInt i)) n (r := Int32.ofInt (py_f D H n s t)) ?_ ?_
  · have lp' : am_loop (fun x : Int32 × Int32 => f_X0_sumSpread_6 (Int32.ofInt s) (Int32.ofInt t) (Int32.ofInt n) x.1 x.2 σ) (Int32.ofInt 0, Int32.ofInt 0) = _ := lp
    simp (disch := omega) only [f_X0_sumSpread, lp', Option.bind_some, qi, ql, qI_lt, qI_le, qI_eq, qI_L, qI_ix, qL_lt, qL_eq, q_nat, q_cs, ← Int32.ofInt_add, ← Int32.ofInt_sub, ← Int32.ofInt_mul, ← Int32.ofInt_neg, ← Int64.ofInt_add, ← Int64.ofInt_sub, ← Int64.ofInt_mul, ← Int64.ofInt_neg, pL_I, q_mx, q_mn, q_ab, q_abL, q_mnL, q_nn0, q_nn1, q_rr, q_b1, q_b0, q_T, q_F, q_iT, q_iF, q_d, q_in, q_wi, q_hC, q_hM, pT_i, pU_i, pS_i, pS_j, pS_0, Sum.elim_inl, Sum.elim_inr, if_pos, if_neg]
  · intro i hi
    obtain ⟨a1, a2, a3, a4⟩ := A i hi
    have c := pc_b (H i + t)
    have e1 : s * pc_cos (H i + t) ≤ s * 12 := Int.mul_le_mul_of_nonneg_left c.2 s0
    have e2 : s * (-12) ≤ s * pc_cos (H i + t) := Int.mul_le_mul_of_nonneg_left c.1 s0
    simp (disch := omega) only [f_X0_sumSpread_6, a1, a2, q_cos, Option.bind_some, qi, ql, qI_lt, qI_le, qI_eq, qI_L, qI_ix, qL_lt, qL_eq, q_nat, q_cs, ← Int32.ofInt_add, ← Int32.ofInt_sub, ← Int32.ofInt_mul, ← Int32.ofInt_neg, ← Int64.ofInt_add, ← Int64.ofInt_sub, ← Int64.ofInt_mul, ← Int64.ofInt_neg, pL_I, q_mx, q_mn, q_ab, q_abL, q_mnL, q_nn0, q_nn1, q_rr, q_b1, q_b0, q_T, q_F, q_iT, q_iF, q_d, q_in, q_wi, q_hC, q_hM, pT_i, pU_i, pS_i, pS_j, pS_0, Sum.elim_inl, Sum.elim_inr, if_pos, if_neg]
    rfl
  · simp (disch := omega) only [f_X0_sumSpread_6, Option.bind_some, qi, ql, qI_lt, qI_le, qI_eq, qI_L, qI_ix, qL_lt, qL_eq, q_nat, q_cs, ← Int32.ofInt_add, ← Int32.ofInt_sub, ← Int32.ofInt_mul, ← Int32.ofInt_neg, ← Int64.ofInt_add, ← Int64.ofInt_sub, ← Int64.ofInt_mul, ← Int64.ofInt_neg, pL_I, q_mx, q_mn, q_ab, q_abL, q_mnL, q_nn0, q_nn1, q_rr, q_b1, q_b0, q_T, q_F, q_iT, q_iF, q_d, q_in, q_wi, q_hC, q_hM, pT_i, pU_i, pS_i, pS_j, pS_0, Sum.elim_inl, Sum.elim_inr, if_pos, if_neg]
theorem py_best {σ : am_H} {D H : Nat → Int} {n : Nat} {t : Int} (hn : n ≤ 48) (A : py_A σ D H n) (t0 : 0 ≤ t) (t1 : t ≤ 23) : ∃ m : Int, (0 ≤ m ∧ m ≤ 99) ∧ f_X0_bestSize (Int32.ofInt t) (Int32.ofInt n) σ = some (Int32.ofInt m) ∧ ∀ s, 0 ≤ s → s ≤ 99 → (s < m → py_f D H n m t < py_f D H n s t) ∧ (m ≤ s → py_f D H n m t ≤ py_f D H n s t) := by
  have cv : ∀ s, 2 * py_f D H n (s + 1) t ≤ py_f D H n s t + py_f D H n (s + 1 + 1) t := fun s => py_cv
  obtain ⟨r, k1, m, rfl, mb, lo, hi⟩ := am_loop_1 (B := fun x : Int32 × Int32 × Int32 => f_X0_bestSize_9 (Int32.ofInt t) (Int32.ofInt n) x.1 x.2.1 x.2.2 σ) (fun N x => ∃ (lo hi : Int) (i : Nat), x = (Int32.ofInt lo, Int32.ofInt hi, Int32.ofInt i) ∧ (0 ≤ lo ∧ lo ≤ hi ∧ hi ≤ 99) ∧ i ≤ 10 ∧ (hi - lo).toNat ≤ 99 / 2 ^ i ∧ (∀ s, 0 ≤ s → s < lo → py_f D H n (s + 1) t < py_f D H n s t) ∧ (hi = 99 ∨ py_f D H n hi t ≤ py_f D H n (hi + 1) t) ∧ N = 10 - i) (fun r => ∃ m : Int, r = Int32.ofInt m ∧ (0 ≤ m ∧ m ≤ 99) ∧ (∀ s, 0 ≤ s → s < m → py_f D H n (s + 1) t < py_f D H n s t) ∧ (m = 99 ∨ py_f D H n m t ≤ py_f D H n (m + 1) t)) (by
    rintro N x ⟨lo, hi, i, rfl, ⟨b1, b2, b3⟩, hi10, hw, hlo, hhi, rfl⟩
    by_cases ce : lo < hi
    · have hi9 : i < 10 := by
        by_cases c : i < 10
        · exact c
        · have : i = 10 := by omega
          subst this
          have : 99 / 2 ^ 10 = 0 := by decide
          omega
      right
      have em : (lo + hi).tdiv 2 = (lo + hi) / 2 := Int.tdiv_eq_ediv_of_nonneg (by omega)
      have f1 := py_sum hn A (s := (lo + hi) / 2 + 1) (t := t) (by omega) (by omega) t0 t1
      have f2 := py_sum hn A (s := (lo + hi) / 2) (t := t) (by omega) (by omega) t0 t1
      have g1 := py_fb (D := D) (H := H) (n := n) (s := (lo + hi) / 2 + 1) (t := t) hn (fun j hj => (A j hj).2.2.1) (by omega) (by omega)
      have g2 := py_fb (D := D) (H := H) (n := n) (s := (lo + hi) / 2) (t := t) hn (fun j hj => (A j hj).2.2.1) (by omega) (by omega)
      have hdiv : 99 / 2 ^ (i + 1) = 99 / 2 ^ i / 2 := by rw [Nat.pow_succ, Nat.div_div_eq_div_mul]
      by_cases cl : py_f D H n ((lo + hi) / 2 + 1) t < py_f D H n ((lo + hi) / 2) t
      · refine ⟨(Int32.ofInt ((lo + hi) / 2 + 1), Int32.ofInt hi, Int32.ofInt ((i : Int) + 1)), 10 - (i + 1), ?_, by omega, (lo + hi) / 2 + 1, hi, i + 1, rfl, by omega, by omega, by rw [hdiv]; omega, fun s s0 s1 => ?_, hhi, rfl⟩
        · simp (disch := omega) only [f_X0_bestSize_9, qI_div, em, f1, f2, Option.bind_some, qi, ql, qI_lt, qI_le, qI_eq, qI_L, qI_ix, qL_lt, qL_eq, q_nat, q_cs, ← Int32.ofInt_add, ← Int32.ofInt_sub, ← Int32.ofInt_mul, ← Int32.ofInt_neg, ← Int64.ofInt_add, ← Int64.ofInt_sub, ← Int64.ofInt_mul, ← Int64.ofInt_neg, pL_I, q_mx, q_mn, q_ab, q_abL, q_mnL, q_nn0, q_nn1, q_rr, q_b1, q_b0, q_T, q_F, q_iT, q_iF, q_d, q_in, q_wi, q_hC, q_hM, pT_i, pU_i, pS_i, pS_j, pS_0, Sum.elim_inl, Sum.elim_inr, if_pos, if_neg]
        · have := py_mono2 cv (s := s) (t := (lo + hi) / 2) (by omega)
          omega
      · refine ⟨(Int32.ofInt lo, Int32.ofInt ((lo + hi) / 2), Int32.ofInt ((i : Int) + 1)), 10 - (i + 1), ?_, by omega, lo, (lo + hi) / 2, i + 1, rfl, by omega, by omega, by rw [hdiv]; omega, hlo, Or.inr (by omega), rfl⟩
        simp (disch := omega) only [f_X0_bestSize_9, qI_div, em, f1, f2, Option.bind_some, qi, ql, qI_lt, qI_le, qI_eq, qI_L, qI_ix, qL_lt, qL_eq, q_nat, q_cs, ← Int32.ofInt_add, ← Int32.ofInt_sub, ← Int32.ofInt_mul, ← Int32.ofInt_neg, ← Int64.ofInt_add, ← Int64.ofInt_sub, ← Int64.ofInt_mul, ← Int64.ofInt_neg, pL_I, q_mx, q_mn, q_ab, q_abL, q_mnL, q_nn0, q_nn1, q_rr, q_b1, q_b0, q_T, q_F, q_iT, q_iF, q_d, q_in, q_wi, q_hC, q_hM, pT_i, pU_i, pS_i, pS_j, pS_0, Sum.elim_inl, Sum.elim_inr, if_pos, if_neg]
    · left
      have : lo = hi := by omega
      subst this
      refine ⟨Int32.ofInt lo, ?_, lo, rfl, by omega, hlo, hhi⟩
      by_cases c : i < 10
      · simp (disch := omega) only [f_X0_bestSize_9, Option.bind_some, qi, ql, qI_lt, qI_le, qI_eq, qI_L, qI_ix, qL_lt, qL_eq, q_nat, q_cs, ← Int32.ofInt_add, ← Int32.ofInt_sub, ← Int32.ofInt_mul, ← Int32.ofInt_neg, ← Int64.ofInt_add, ← Int64.ofInt_sub, ← Int64.ofInt_mul, ← Int64.ofInt_neg, pL_I, q_mx, q_mn, q_ab, q_abL, q_mnL, q_nn0, q_nn1, q_rr, q_b1, q_b0, q_T, q_F, q_iT, q_iF, q_d, q_in, q_wi, q_hC, q_hM, pT_i, pU_i, pS_i, pS_j, pS_0, Sum.elim_inl, Sum.elim_inr, if_pos, if_neg]
      · simp (disch := omega) only [f_X0_bestSize_9, Option.bind_some, qi, ql, qI_lt, qI_le, qI_eq, qI_L, qI_ix, qL_lt, qL_eq, q_nat, q_cs, ← Int32.ofInt_add, ← Int32.ofInt_sub, ← Int32.ofInt_mul, ← Int32.ofInt_neg, ← Int64.ofInt_add, ← Int64.ofInt_sub, ← Int64.ofInt_mul, ← Int64.ofInt_neg, pL_I, q_mx, q_mn, q_ab, q_abL, q_mnL, q_nn0, q_nn1, q_rr, q_b1, q_b0, q_T, q_F, q_iT, q_iF, q_d, q_in, q_wi, q_hC, q_hM, pT_i, pU_i, pS_i, pS_j, pS_0, Sum.elim_inl, Sum.elim_inr, if_pos, if_neg]) _ (Int32.ofInt 0, Int32.ofInt 99, Int32.ofInt 0) ⟨0, 99, 0, rfl, by omega, by omega, by decide, fun s s0 s1 => by omega, Or.inl rfl, rfl⟩
  refine ⟨m, mb, ?_, py_least cv mb.1 lo hi⟩
  simp (disch := omega) only [f_X0_bestSize, k1, Option.bind_some, qi, ql, qI_lt, qI_le, qI_eq, qI_L, qI_ix, qL_lt, qL_eq, q_nat, q_cs, ← Int32.ofInt_add, ← Int32.ofInt_sub, ← Int32.ofInt_mul, ← Int32.ofInt_neg, ← Int64.ofInt_add, ← Int64.ofInt_sub, ← Int64.ofInt_mul, ← Int64.ofInt_neg, pL_I, q_mx, q_mn, q_ab, q_abL, q_mnL, q_nn0, q_nn1, q_rr, q_b1, q_b0, q_T, q_F, q_iT, q_iF, q_d, q_in, q_wi, q_hC, q_hM, pT_i, pU_i, pS_i, pS_j, pS_0, Sum.elim_inl, Sum.elim_inr, if_pos, if_neg]
/-- how it stands behind the pairs V of a wave o: as it was (S), or one of them that is best -/
def py_S (f : Int → Int → Int) (V : Int → Int → Prop) (S W z a : Int) (o : Int) (S' W' z' a' : Int) : Prop := (S' = S ∧ W' = W ∧ z' = z ∧ a' = a ∧ ∀ s t, V s t → S ≤ f s t) ∨ (W' = o ∧ (0 ≤ z' ∧ z' ≤ 99) ∧ (0 ≤ a' ∧ a' ≤ 23) ∧ S' = f z' a' ∧ S' < S ∧ pn_ok V f z' a')
def py_V (s t : Int) : Prop := (0 ≤ s ∧ s ≤ 99) ∧ (0 ≤ t ∧ t ≤ 23)
theorem py_one {f : Int → Int → Int} {S W z a z2 a2 o S1 W1 z1 a1 S3 W3 z3 a3 : Int} (h : py_S f py_V S W z a o S1 W1 z1 a1) (h' : py_S f py_V S W z2 a2 o S3 W3 z3 a3) : S1 = S3 ∧ W1 = W3 ∧ ((z1 = z ∧ a1 = a ∧ z3 = z2 ∧ a3 = a2 ∧ W1 = W) ∨ (z1 = z3 ∧ a1 = a3 ∧ W1 = o)) := by
  rcases h with ⟨e1, e2, e3, e4, h⟩ | ⟨e1, zb, ab, e2, hl, hk⟩
  · rcases h' with ⟨u1, u2, u3, u4, -⟩ | ⟨u1, -, -, u2, ul, uk⟩
    · exact ⟨by omega, by omega, Or.inl ⟨e3, e4, u3, u4, e2⟩⟩
    · have := h z3 a3 uk.1
      omega
  · rcases h' with ⟨u1, u2, u3, u4, h'⟩ | ⟨u1, -, -, u2, ul, uk⟩
    · have := h' z1 a1 hk.1
      omega
    · obtain ⟨rfl, rfl⟩ := pn_one hk uk
      exact ⟨by omega, by omega, Or.inr ⟨rfl, rfl, e1⟩⟩
