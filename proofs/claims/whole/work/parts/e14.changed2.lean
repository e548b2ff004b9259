/-! ===== CHANGED ===== -/
theorem sg_t {σ1 σ2 : am_H} {t : Nat} (h : pr_tray σ1 σ2 t) : ∃ mn : Int, (-1 ≤ mn ∧ mn ≤ 60) ∧ σ2.1 1305 0 t = Int32.ofInt mn ∧ f_X8_isMissing t σ1 = some (decide (mn < 0)) ∧ (0 ≤ mn → σ1.1 8 t 1 = Int32.ofInt mn ∧ ∀ j : Nat, (j : Int) < mn → σ1.2.1 902 t j = σ2.2.1 1306 0 (60 * t + j)) := by
  obtain ⟨so, mn, g1, g2, g3⟩ := h
  rcases g3 with ⟨rfl, rfl, g4⟩ | ⟨g4, g5, g6, g7, g8⟩
  · refine ⟨-1, by omega, g4, ?_, fun z => by omega⟩
    rw [decide_eq_true (by omega)]
    simp (disch := omega) only [f_X8_isMissing, g1, Option.bind_some, qi, ql, qI_lt, qI_le, qI_eq, qI_L, qI_ix, qL_lt, qL_eq, q_nat, q_cs, ← Int32.ofInt_add, ← Int32.ofInt_sub, ← Int32.ofInt_mul, ← Int32.ofInt_neg, ← Int64.ofInt_add, ← Int64.ofInt_sub, ← Int64.ofInt_mul, ← Int64.ofInt_neg, pL_I, q_mx, q_mn, q_ab, q_abL, q_mnL, q_nn0, q_nn1, q_rr, q_b1, q_b0, q_T, q_F, q_iT, q_iF, q_d, q_in, q_wi, q_hC, q_hM, pT_i, pU_i, pS_i, pS_j, pS_0, Sum.elim_inl, Sum.elim_inr, if_pos, if_neg]
  · refine ⟨mn, by omega, g7, ?_, fun _ => ⟨g2, g8⟩⟩
    rw [decide_eq_false (by omega)]
    simp (disch := omega) only [f_X8_isMissing, g1, Option.bind_some, qi, ql, qI_lt, qI_le, qI_eq, qI_L, qI_ix, qL_lt, qL_eq, q_nat, q_cs, ← Int32.ofInt_add, ← Int32.ofInt_sub, ← Int32.ofInt_mul, ← Int32.ofInt_neg, ← Int64.ofInt_add, ← Int64.ofInt_sub, ← Int64.ofInt_mul, ← Int64.ofInt_neg, pL_I, q_mx, q_mn, q_ab, q_abL, q_mnL, q_nn0, q_nn1, q_rr, q_b1, q_b0, q_T, q_F, q_iT, q_iF, q_d, q_in, q_wi, q_hC, q_hM, pT_i, pU_i, pS_i, pS_j, pS_0, Sum.elim_inl, Sum.elim_inr, if_pos, if_neg]
theorem sg_m {σ1 : am_H} {t u : Nat} {a b : Int} (ht : t < 5) (hu : u < 5) (h : f_X8_isMissing t σ1 = some (decide (a < 0))) (g : f_X8_isMissing u σ1 = some (decide (b < 0))) : f_X11_isOneMissing (Int32.ofInt (t : Int)) (Int32.ofInt (u : Int)) σ1 = some (decide (a < 0 ∨ b < 0)) := by
  by_cases c : a < 0
  · rw [decide_eq_true (Or.inl c)]
    rw [decide_eq_true c] at h
    simp (disch := omega) only [f_X11_isOneMissing, h, Option.bind_some, qi, ql, qI_lt, qI_le, qI_eq, qI_L, qI_ix, qL_lt, qL_eq, q_nat, q_cs, ← Int32.ofInt_add, ← Int32.ofInt_sub, ← Int32.ofInt_mul, ← Int32.ofInt_neg, ← Int64.ofInt_add, ← Int64.ofInt_sub, ← Int64.ofInt_mul, ← Int64.ofInt_neg, pL_I, q_mx, q_mn, q_ab, q_abL, q_mnL, q_nn0, q_nn1, q_rr, q_b1, q_b0, q_T, q_F, q_iT, q_iF, q_d, q_in, q_wi, q_hC, q_hM, pT_i, pU_i, pS_i, pS_j, pS_0, Sum.elim_inl, Sum.elim_inr, if_pos, if_neg]
  · rw [decide_eq_false c] at h
    by_cases d : b < 0
    · rw [decide_eq_true (Or.inr d)]
      rw [decide_eq_true d] at g
      simp (disch := omega) only [f_X11_isOneMissing, h, g, Option.bind_some, qi, ql, qI_lt, qI_le, qI_eq, qI_L, qI_ix, qL_lt, qL_eq, q_nat, q_cs, ← Int32.ofInt_add, ← Int32.ofInt_sub, ← Int32.ofInt_mul, ← Int32.ofInt_neg, ← Int64.ofInt_add, ← Int64.ofInt_sub, ← Int64.ofInt_mul, ← Int64.ofInt_neg, pL_I, q_mx, q_mn, q_ab, q_abL, q_mnL, q_nn0, q_nn1, q_rr, q_b1, q_b0, q_T, q_F, q_iT, q_iF, q_d, q_in, q_wi, q_hC, q_hM, pT_i, pU_i, pS_i, pS_j, pS_0, Sum.elim_inl, Sum.elim_inr, if_pos, if_neg]
    · rw [decide_eq_false (by omega)]
      rw [decide_eq_false d] at g
      simp (disch := omega) only [f_X11_isOneMissing, h, g, Option.bind_some, qi, ql, qI_lt, qI_le, qI_eq, qI_L, qI_ix, qL_lt, qL_eq, q_nat, q_cs, ← Int32.ofInt_add, ← Int32.ofInt_sub, ← Int32.ofInt_mul, ← Int32.ofInt_neg, ← Int64.ofInt_add, ← Int64.ofInt_sub, ← Int64.ofInt_mul, ← Int64.ofInt_neg, pL_I, q_mx, q_mn, q_ab, q_abL, q_mnL, q_nn0, q_nn1, q_rr, q_b1, q_b0, q_T, q_F, q_iT, q_iF, q_d, q_in, q_wi, q_hC, q_hM, pT_i, pU_i, pS_i, pS_j, pS_0, Sum.elim_inl, Sum.elim_inr, if_pos, if_neg]
theorem sg_b {σ1 : am_H} {t u : Nat} {a b k : Int} (ht : t < 5) (hu : u < 5) (a0 : 0 ≤ a ∧ a ≤ 60) (b0 : 0 ≤ b ∧ b ≤ 60) (k0 : 1 ≤ k ∧ k ≤ 24) (h : σ1.1 8 t 1 = Int32.ofInt a) (g : σ1.1 8 u 1 = Int32.ofInt b) : f_X11_haveBoth (Int32.ofInt (t : Int)) (Int32.ofInt (u : Int)) (Int32.ofInt k) σ1 = some (decide (k ≤ a ∧ k ≤ b)) := by
  have r1 := pt_run (σ := σ1) (x := 0) (n := k) h a0.1 a0.2 (by omega) (by omega) (by omega) (by omega)
  have r2 := pt_run (σ := σ1) (x := 0) (n := k) g b0.1 b0.2 (by omega) (by omega) (by omega) (by omega)
  by_cases c : k ≤ a
  · by_cases d : k ≤ b
    · rw [decide_eq_true (by omega)]
      simp (disch := omega) only [f_X11_haveBoth, r1, r2, Option.bind_some, qi, ql, qI_lt, qI_le, qI_eq, qI_L, qI_ix, qL_lt, qL_eq, q_nat, q_cs, ← Int32.ofInt_add, ← Int32.ofInt_sub, ← Int32.ofInt_mul, ← Int32.ofInt_neg, ← Int64.ofInt_add, ← Int64.ofInt_sub, ← Int64.ofInt_mul, ← Int64.ofInt_neg, pL_I, q_mx, q_mn, q_ab, q_abL, q_mnL, q_nn0, q_nn1, q_rr, q_b1, q_b0, q_T, q_F, q_iT, q_iF, q_d, q_in, q_wi, q_hC, q_hM, pT_i, pU_i, pS_i, pS_j, pS_0, Sum.elim_inl, Sum.elim_inr, if_pos, if_neg]
    · rw [decide_eq_false (by omega)]
      simp (disch := omega) only [f_X11_haveBoth, r1, r2, Option.bind_some, qi, ql, qI_lt, qI_le, qI_eq, qI_L, qI_ix, qL_lt, qL_eq, q_nat, q_cs, ← Int32.ofInt_add, ← Int32.ofInt_sub, ← Int32.ofInt_mul, ← Int32.ofInt_neg, ← Int64.ofInt_add, ← Int64.ofInt_sub, ← Int64.ofInt_mul, ← Int64.ofInt_neg, pL_I, q_mx, q_mn, q_ab, q_abL, q_mnL, q_nn0, q_nn1, q_rr, q_b1, q_b0, q_T, q_F, q_iT, q_iF, q_d, q_in, q_wi, q_hC, q_hM, pT_i, pU_i, pS_i, pS_j, pS_0, Sum.elim_inl, Sum.elim_inr, if_pos, if_neg]
  · rw [decide_eq_false (by omega)]
    simp (disch := omega) only [f_X11_haveBoth, r1, Option.bind_some, qi, ql, qI_lt, qI_le, qI_eq, qI_L, qI_ix, qL_lt, qL_eq, q_nat, q_cs, ← Int32.ofInt_add, ← Int32.ofInt_sub, ← Int32.ofInt_mul, ← Int32.ofInt_neg, ← Int64.ofInt_add, ← Int64.ofInt_sub, ← Int64.ofInt_mul, ← Int64.ofInt_neg, pL_I, q_mx, q_mn, q_ab, q_abL, q_mnL, q_nn0, q_nn1, q_rr, q_b1, q_b0, q_T, q_F, q_iT, q_iF, q_d, q_in, q_wi, q_hC, q_hM, pT_i, pU_i, pS_i, pS_j, pS_0, Sum.elim_inl, Sum.elim_inr, if_pos, if_neg]
theorem sg_a {σ1 σ2 : am_H} (X : pr_Core σ1 σ2) {v u : Int} (v1 : -2147483648 ≤ v) (v2 : v < 2147483648) (u1 : -2147483648 ≤ u) (u2 : u < 2147483648) : f_X11_areTrays (Int32.ofInt v) (Int32.ofInt u) σ1 = some (decide ((0 ≤ v ∧ v ≤ 4) ∧ (0 ≤ u ∧ u ≤ 4))) := by
  rcases pr_t X v1 v2 with ⟨c, e⟩ | ⟨t, ht, rfl, e, -⟩
  · rw [decide_eq_false (by omega)]
    simp (disch := omega) only [f_X11_areTrays, e, Option.bind_some, qi, ql, qI_lt, qI_le, qI_eq, qI_L, qI_ix, qL_lt, qL_eq, q_nat, q_cs, ← Int32.ofInt_add, ← Int32.ofInt_sub, ← Int32.ofInt_mul, ← Int32.ofInt_neg, ← Int64.ofInt_add, ← Int64.ofInt_sub, ← Int64.ofInt_mul, ← Int64.ofInt_neg, pL_I, q_mx, q_mn, q_ab, q_abL, q_mnL, q_nn0, q_nn1, q_rr, q_b1, q_b0, q_T, q_F, q_iT, q_iF, q_d, q_in, q_wi, q_hC, q_hM, pT_i, pU_i, pS_i, pS_j, pS_0, Sum.elim_inl, Sum.elim_inr, if_pos, if_neg]
  · rcases pr_t X u1 u2 with ⟨c', e'⟩ | ⟨t', ht', rfl, e', -⟩
    · rw [decide_eq_false (by omega)]
      simp (disch := omega) only [f_X11_areTrays, e, e', Option.bind_some, qi, ql, qI_lt, qI_le, qI_eq, qI_L, qI_ix, qL_lt, qL_eq, q_nat, q_cs, ← Int32.ofInt_add, ← Int32.ofInt_sub, ← Int32.ofInt_mul, ← Int32.ofInt_neg, ← Int64.ofInt_add, ← Int64.ofInt_sub, ← Int64.ofInt_mul, ← Int64.ofInt_neg, pL_I, q_mx, q_mn, q_ab, q_abL, q_mnL, q_nn0, q_nn1, q_rr, q_b1, q_b0, q_T, q_F, q_iT, q_iF, q_d, q_in, q_wi, q_hC, q_hM, pT_i, pU_i, pS_i, pS_j, pS_0, Sum.elim_inl, Sum.elim_inr, if_pos, if_neg]
    · rw [decide_eq_true (by omega)]
      simp (disch := omega) only [f_X11_areTrays, e, e', Option.bind_some, qi, ql, qI_lt, qI_le, qI_eq, qI_L, qI_ix, qL_lt, qL_eq, q_nat, q_cs, ← Int32.ofInt_add, ← Int32.ofInt_sub, ← Int32.ofInt_mul, ← Int32.ofInt_neg, ← Int64.ofInt_add, ← Int64.ofInt_sub, ← Int64.ofInt_mul, ← Int64.ofInt_neg, pL_I, q_mx, q_mn, q_ab, q_abL, q_mnL, q_nn0, q_nn1, q_rr, q_b1, q_b0, q_T, q_F, q_iT, q_iF, q_d, q_in, q_wi, q_hC, q_hM, pT_i, pU_i, pS_i, pS_j, pS_0, Sum.elim_inl, Sum.elim_inr, if_pos, if_neg]
/-- the sets that both answer -/
def sgs (c : Prop) [Decidable c] (A s : Int32) : Int32 := if c then s ||| A else s
theorem sgs_2 (c d : Prop) [Decidable c] [Decidable d] (A s : Int32) : sgs d A (sgs c A s) = if (decide c || decide d) = true then s ||| A else s := by
  unfold sgs
  by_cases h : c
  · rw [if_pos h, decide_eq_true h, Bool.true_or, if_pos rfl]
    by_cases k : d
    · rw [if_pos k, Int32.or_assoc, Int32.or_self]
    · rw [if_neg k]
  · rw [if_neg h, decide_eq_false h, Bool.false_or]
    by_cases k : d
    · rw [if_pos k, decide_eq_true k, if_pos rfl]
    · rw [if_neg k, decide_eq_false k, if_neg Bool.false_ne_true]
/-- the reference's answer -/
theorem sL_ans {σ : am_H} {d n : Nat} {x x' : Nat → Nat → Int} {y y' : Nat → Int} {v2 v3 v9 : Int32} (dd : d = 3 ∨ d = 5) (K : sL σ d n x' y') (p0 : 0 < sd d n x') (p1 : sd d n x' < 9223372036854775808) (hk : ∀ j, j < d → σ.2.1 1384 0 j = sr d n j x y) : am_loop (fun s : Int32 × Int32 => f_X12_changed_342 v2 v3 v9 s.1 s.2 σ) (Int32.ofInt 0, Int32.ofInt 1) = some (if d = 3 then (if (decide (v9.toInt64 < am_abL (sr d n 1 x' y' - sr d n 1 x y)) || decide (v9.toInt64 < am_abL (sr d n 2 x' y' - sr d n 2 x y))) = true then Int32.ofInt 0 ||| (1 <<< (v2 &&& 31)) else Int32.ofInt 0) else (if (decide (v9.toInt64 < am_abL (sr d n 3 x' y' - sr d n 3 x y)) || decide (v9.toInt64 < am_abL (sr d n 4 x' y' - sr d n 4 x y))) = true then (if (decide (v9.toInt64 < am_abL (sr d n 1 x' y' - sr d n 1 x y)) || decide (v9.toInt64 < am_abL (sr d n 2 x' y' - sr d n 2 x y))) = true then Int32.ofInt 0 ||| (1 <<< (v2 &&& 31)) else Int32.ofInt 0) ||| (1 <<< (v3 &&& 31)) else (if (decide (v9.toInt64 < am_abL (sr d n 1 x' y' - sr d n 1 x y)) || decide (v9.toInt64 < am_abL (sr d n 2 x' y' - sr d n 2 x y))) = true then Int32.ofInt 0 ||| (1 <<< (v2 &&& 31)) else Int32.ofInt 0))) := by
  have hd : d ≤ 5 := by omega
  have d81 := K.1
  have s1 : ∀ s : Int32, f_X12_changed_342 v2 v3 v9 s (Int32.ofInt 1) σ = some (.inl (sgs (v9.toInt64 < am_abL (sr d n 1 x' y' - sr d n 1 x y)) (1 <<< (v2 &&& 31)) s, Int32.ofInt 2)) := fun s => sL_step (j := 1) (x := x) (y := y) hd (by omega) K p0 p1 (hk 1 (by omega))
  have s2 : ∀ s : Int32, f_X12_changed_342 v2 v3 v9 s (Int32.ofInt 2) σ = some (.inl (sgs (v9.toInt64 < am_abL (sr d n 2 x' y' - sr d n 2 x y)) (1 <<< (v2 &&& 31)) s, Int32.ofInt 3)) := fun s => sL_step (j := 2) (x := x) (y := y) hd (by omega) K p0 p1 (hk 2 (by omega))
  have en : ∀ s : Int32, f_X12_changed_342 v2 v3 v9 s (Int32.ofInt (d : Int)) σ = some (.inr s) := fun s => by
    simp (disch := omega) only [f_X12_changed_342, d81, Option.bind_some, qi, ql, qI_lt, qI_le, qI_eq, qI_L, qI_ix, qL_lt, qL_eq, q_nat, q_cs, ← Int32.ofInt_add, ← Int32.ofInt_sub, ← Int32.ofInt_mul, ← Int32.ofInt_neg, ← Int64.ofInt_add, ← Int64.ofInt_sub, ← Int64.ofInt_mul, ← Int64.ofInt_neg, pL_I, q_mx, q_mn, q_ab, q_abL, q_mnL, q_nn0, q_nn1, q_rr, q_b1, q_b0, q_T, q_F, q_iT, q_iF, q_d, q_in, q_wi, q_hC, q_hM, pT_i, pU_i, pS_i, pS_j, pS_0, Sum.elim_inl, Sum.elim_inr, if_pos, if_neg]
  refine (am_loop_in (s' := (sgs (v9.toInt64 < am_abL (sr d n 1 x' y' - sr d n 1 x y)) (1 <<< (v2 &&& 31)) (Int32.ofInt 0), Int32.ofInt 2)) (s1 _)).trans ?_
  refine (am_loop_in (s' := (sgs (v9.toInt64 < am_abL (sr d n 2 x' y' - sr d n 2 x y)) (1 <<< (v2 &&& 31)) (sgs (v9.toInt64 < am_abL (sr d n 1 x' y' - sr d n 1 x y)) (1 <<< (v2 &&& 31)) (Int32.ofInt 0)), Int32.ofInt 3)) (s2 _)).trans ?_
  rw [sgs_2]
  by_cases c3 : d = 3
  · rw [if_pos c3]
    rw [c3] at en
    rw [← c3] at en
    refine am_loop_out ?_
    have en' := en (if (decide (v9.toInt64 < am_abL (sr d n 1 x' y' - sr d n 1 x y)) || decide (v9.toInt64 < am_abL (sr d n 2 x' y' - sr d n 2 x y))) = true then Int32.ofInt 0 ||| (1 <<< (v2 &&& 31)) else Int32.ofInt 0)
    have e3 : Int32.ofInt (d : Int) = Int32.ofInt 3 := by rw [c3]; rfl
    rw [e3] at en'
    exact en'
  · rw [if_neg c3]
    have c5 : d = 5 := by omega
    have s3 : ∀ s : Int32, f_X12_changed_342 v2 v3 v9 s (Int32.ofInt 3) σ = some (.inl (sgs (v9.toInt64 < am_abL (sr d n 3 x' y' - sr d n 3 x y)) (1 <<< (v3 &&& 31)) s, Int32.ofInt 4)) := fun s => sL_step (j := 3) (x := x) (y := y) hd (by omega) K p0 p1 (hk 3 (by omega))
    have s4 : ∀ s : Int32, f_X12_changed_342 v2 v3 v9 s (Int32.ofInt 4) σ = some (.inl (sgs (v9.toInt64 < am_abL (sr d n 4 x' y' - sr d n 4 x y)) (1 <<< (v3 &&& 31)) s, Int32.ofInt 5)) := fun s => sL_step (j := 4) (x := x) (y := y) hd (by omega) K p0 p1 (hk 4 (by omega))
    generalize (if (decide (v9.toInt64 < am_abL (sr d n 1 x' y' - sr d n 1 x y)) || decide (v9.toInt64 < am_abL (sr d n 2 x' y' - sr d n 2 x y))) = true then Int32.ofInt 0 ||| (1 <<< (v2 &&& 31)) else Int32.ofInt 0) = S
    refine (am_loop_in (s' := (sgs (v9.toInt64 < am_abL (sr d n 3 x' y' - sr d n 3 x y)) (1 <<< (v3 &&& 31)) S, Int32.ofInt 4)) (s3 _)).trans ?_
    refine (am_loop_in (s' := (sgs (v9.toInt64 < am_abL (sr d n 4 x' y' - sr d n 4 x y)) (1 <<< (v3 &&& 31)) (sgs (v9.toInt64 < am_abL (sr d n 3 x' y' - sr d n 3 x y)) (1 <<< (v3 &&& 31)) S), Int32.ofInt 5)) (s4 _)).trans ?_
    rw [sgs_2]
    refine am_loop_out ?_
    have e3 : Int32.ofInt (d : Int) = Int32.ofInt 5 := by rw [c5]; rfl
    have en' := en (if (decide (v9.toInt64 < am_abL (sr d n 3 x' y' - sr d n 3 x y)) || decide (v9.toInt64 < am_abL (sr d n 4 x' y' - sr d n 4 x y))) = true then S ||| (1 <<< (v3 &&& 31)) else S)
    rw [e3] at en'
    exact en'
