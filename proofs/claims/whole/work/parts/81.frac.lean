/-! ===== FRACTIONS: both sides' Euclid ===== -/
theorem pf_tm {a b : Int} (ha : 0 ≤ a) (hb : 0 < b) : 0 ≤ a.tmod b ∧ a.tmod b < b := ⟨Int.tmod_nonneg b ha, Int.tmod_lt_of_pos a hb⟩
theorem pf_half {b r : Int} (hr : 0 < r) (hb : r < b) : 2 * b.tmod r < b := by
  have h1 := Int.tmod_lt_of_pos b hr
  have h2 := Int.tmod_add_tdiv_mul b r
  have h3 : 1 ≤ b.tdiv r := by
    rw [Int.tdiv_eq_ediv_of_nonneg (by omega)]
    exact (Int.le_ediv_iff_mul_le hr).mpr (by omega)
  have h4 : 1 * r ≤ b.tdiv r * r := Int.mul_le_mul_of_nonneg_right h3 (by omega)
  omega
theorem pf_eu {σ1 σ2 : am_H} {v1 v3 : Int64} : ∀ (n : Nat), n ≤ 63 → ∀ a b : Int, 0 ≤ a → a < 9223372036854775808 → 0 ≤ b → b < 2 ^ n → b < 9223372036854775808 → ∃ g : Int, (0 ≤ g ∧ g < 9223372036854775808) ∧ (0 < a ∨ 0 < b → 0 < g) ∧ (∀ i : Int, 0 ≤ i → i + 2 * n ≤ 190 → am_loop (fun s => f_X11_commonDivisor_3 s.1 s.2.1 s.2.2 σ1) (Int64.ofInt a, Int64.ofInt b, Int32.ofInt i) = some (Int64.ofInt g)) ∧ am_loop (fun s => f_X12_fraction_9 v1 v3 s.1 s.2 σ2) (Int64.ofInt a, Int64.ofInt b) = some (Int64.ofInt g) := by
  intro n
  induction n with
  | zero =>
    intro _ a b a0 a1 b0 b1 _
    have hb : b = 0 := by
      have : (2 : Int) ^ 0 = 1 := rfl
      omega
    subst hb
    refine ⟨a, ⟨a0, a1⟩, fun h => by omega, fun i i0 i1 => ?_, ?_⟩
    · rw [am_loop_eq]
      simp (disch := omega) only [f_X11_commonDivisor_3, Option.bind_some, qi, ql, qI_lt, qI_le, qI_eq, qI_L, qI_ix, qL_lt, qL_eq, q_nat, q_cs, ← Int32.ofInt_add, ← Int32.ofInt_sub, ← Int32.ofInt_mul, ← Int32.ofInt_neg, ← Int64.ofInt_add, ← Int64.ofInt_sub, ← Int64.ofInt_mul, ← Int64.ofInt_neg, pL_I, q_mx, q_mn, q_ab, q_abL, q_mnL, q_nn0, q_nn1, q_rr, q_b1, q_b0, q_T, q_F, q_iT, q_iF, q_d, q_in, q_wi, q_hC, q_hM, pT_i, pU_i, pS_i, pS_j, pS_0, Sum.elim_inl, Sum.elim_inr, if_pos, if_neg]
    · rw [am_loop_eq]
      simp (disch := omega) only [f_X12_fraction_9, Option.bind_some, qi, ql, qI_lt, qI_le, qI_eq, qI_L, qI_ix, qL_lt, qL_eq, q_nat, q_cs, ← Int32.ofInt_add, ← Int32.ofInt_sub, ← Int32.ofInt_mul, ← Int32.ofInt_neg, ← Int64.ofInt_add, ← Int64.ofInt_sub, ← Int64.ofInt_mul, ← Int64.ofInt_neg, pL_I, q_mx, q_mn, q_ab, q_abL, q_mnL, q_nn0, q_nn1, q_rr, q_b1, q_b0, q_T, q_F, q_iT, q_iF, q_d, q_in, q_wi, q_hC, q_hM, pT_i, pU_i, pS_i, pS_j, pS_0, Sum.elim_inl, Sum.elim_inr, if_pos, if_neg]
  | succ n ih =>
    intro hn a b a0 a1 b0 b1 b2
    by_cases hb : b = 0
    · subst hb
      refine ⟨a, ⟨a0, a1⟩, fun h => by omega, fun i i0 i1 => ?_, ?_⟩
      · rw [am_loop_eq]
        simp (disch := omega) only [f_X11_commonDivisor_3, Option.bind_some, qi, ql, qI_lt, qI_le, qI_eq, qI_L, qI_ix, qL_lt, qL_eq, q_nat, q_cs, ← Int32.ofInt_add, ← Int32.ofInt_sub, ← Int32.ofInt_mul, ← Int32.ofInt_neg, ← Int64.ofInt_add, ← Int64.ofInt_sub, ← Int64.ofInt_mul, ← Int64.ofInt_neg, pL_I, q_mx, q_mn, q_ab, q_abL, q_mnL, q_nn0, q_nn1, q_rr, q_b1, q_b0, q_T, q_F, q_iT, q_iF, q_d, q_in, q_wi, q_hC, q_hM, pT_i, pU_i, pS_i, pS_j, pS_0, Sum.elim_inl, Sum.elim_inr, if_pos, if_neg]
      · rw [am_loop_eq]
        simp (disch := omega) only [f_X12_fraction_9, Option.bind_some, qi, ql, qI_lt, qI_le, qI_eq, qI_L, qI_ix, qL_lt, qL_eq, q_nat, q_cs, ← Int32.ofInt_add, ← Int32.ofInt_sub, ← Int32.ofInt_mul, ← Int32.ofInt_neg, ← Int64.ofInt_add, ← Int64.ofInt_sub, ← Int64.ofInt_mul, ← Int64.ofInt_neg, pL_I, q_mx, q_mn, q_ab, q_abL, q_mnL, q_nn0, q_nn1, q_rr, q_b1, q_b0, q_T, q_F, q_iT, q_iF, q_d, q_in, q_wi, q_hC, q_hM, pT_i, pU_i, pS_i, pS_j, pS_0, Sum.elim_inl, Sum.elim_inr, if_pos, if_neg]
    · obtain ⟨r0, r1⟩ := pf_tm (b := b) a0 (by omega)
      by_cases hr : a.tmod b = 0
      · refine ⟨b, ⟨b0, b2⟩, fun h => by omega, fun i i0 i1 => ?_, ?_⟩
        · refine (am_loop_in (s' := (Int64.ofInt b, Int64.ofInt 0, Int32.ofInt (i + 1))) ?_).trans (am_loop_out ?_)
          · simp (disch := omega) only [f_X11_commonDivisor_3, qL_rem, hr, Option.bind_some, qi, ql, qI_lt, qI_le, qI_eq, qI_L, qI_ix, qL_lt, qL_eq, q_nat, q_cs, ← Int32.ofInt_add, ← Int32.ofInt_sub, ← Int32.ofInt_mul, ← Int32.ofInt_neg, ← Int64.ofInt_add, ← Int64.ofInt_sub, ← Int64.ofInt_mul, ← Int64.ofInt_neg, pL_I, q_mx, q_mn, q_ab, q_abL, q_mnL, q_nn0, q_nn1, q_rr, q_b1, q_b0, q_T, q_F, q_iT, q_iF, q_d, q_in, q_wi, q_hC, q_hM, pT_i, pU_i, pS_i, pS_j, pS_0, Sum.elim_inl, Sum.elim_inr, if_pos, if_neg]
          · simp (disch := omega) only [f_X11_commonDivisor_3, Option.bind_some, qi, ql, qI_lt, qI_le, qI_eq, qI_L, qI_ix, qL_lt, qL_eq, q_nat, q_cs, ← Int32.ofInt_add, ← Int32.ofInt_sub, ← Int32.ofInt_mul, ← Int32.ofInt_neg, ← Int64.ofInt_add, ← Int64.ofInt_sub, ← Int64.ofInt_mul, ← Int64.ofInt_neg, pL_I, q_mx, q_mn, q_ab, q_abL, q_mnL, q_nn0, q_nn1, q_rr, q_b1, q_b0, q_T, q_F, q_iT, q_iF, q_d, q_in, q_wi, q_hC, q_hM, pT_i, pU_i, pS_i, pS_j, pS_0, Sum.elim_inl, Sum.elim_inr, if_pos, if_neg]
        · refine (am_loop_in (s' := (Int64.ofInt b, Int64.ofInt 0)) ?_).trans (am_loop_out ?_)
          · simp (disch := omega) only [f_X12_fraction_9, qL_rem, hr, Option.bind_some, qi, ql, qI_lt, qI_le, qI_eq, qI_L, qI_ix, qL_lt, qL_eq, q_nat, q_cs, ← Int32.ofInt_add, ← Int32.ofInt_sub, ← Int32.ofInt_mul, ← Int32.ofInt_neg, ← Int64.ofInt_add, ← Int64.ofInt_sub, ← Int64.ofInt_mul, ← Int64.ofInt_neg, pL_I, q_mx, q_mn, q_ab, q_abL, q_mnL, q_nn0, q_nn1, q_rr, q_b1, q_b0, q_T, q_F, q_iT, q_iF, q_d, q_in, q_wi, q_hC, q_hM, pT_i, pU_i, pS_i, pS_j, pS_0, Sum.elim_inl, Sum.elim_inr, if_pos, if_neg]
          · simp (disch := omega) only [f_X12_fraction_9, Option.bind_some, qi, ql, qI_lt, qI_le, qI_eq, qI_L, qI_ix, qL_lt, qL_eq, q_nat, q_cs, ← Int32.ofInt_add, ← Int32.ofInt_sub, ← Int32.ofInt_mul, ← Int32.ofInt_neg, ← Int64.ofInt_add, ← Int64.ofInt_sub, ← Int64.ofInt_mul, ← Int64.ofInt_neg, pL_I, q_mx, q_mn, q_ab, q_abL, q_mnL, q_nn0, q_nn1, q_rr, q_b1, q_b0, q_T, q_F, q_iT, q_iF, q_d, q_in, q_wi, q_hC, q_hM, pT_i, pU_i, pS_i, pS_j, pS_0, Sum.elim_inl, Sum.elim_inr, if_pos, if_neg]
      · have h2 := pf_half (b := b) (r := a.tmod b) (by omega) (by omega)
        obtain ⟨s0, s1⟩ := pf_tm (a := b) (b := a.tmod b) b0 (by omega)
        have hp : (2 : Int) ^ (n + 1) = 2 * 2 ^ n := by rw [Int.pow_succ]; omega
        obtain ⟨g, hg, hg2, k1, k2⟩ := ih (by omega) (a.tmod b) (b.tmod (a.tmod b)) (by omega) (by omega) (by omega) (by omega) (by omega)
        refine ⟨g, hg, fun _ => hg2 (Or.inl (by omega)), fun i i0 i1 => ?_, ?_⟩
        · refine (am_loop_in (s' := (Int64.ofInt b, Int64.ofInt (a.tmod b), Int32.ofInt (i + 1))) ?_).trans ((am_loop_in (s' := (Int64.ofInt (a.tmod b), Int64.ofInt (b.tmod (a.tmod b)), Int32.ofInt (i + 1 + 1))) ?_).trans (k1 (i + 1 + 1) (by omega) (by omega)))
          · simp (disch := omega) only [f_X11_commonDivisor_3, qL_rem, Option.bind_some, qi, ql, qI_lt, qI_le, qI_eq, qI_L, qI_ix, qL_lt, qL_eq, q_nat, q_cs, ← Int32.ofInt_add, ← Int32.ofInt_sub, ← Int32.ofInt_mul, ← Int32.ofInt_neg, ← Int64.ofInt_add, ← Int64.ofInt_sub, ← Int64.ofInt_mul, ← Int64.ofInt_neg, pL_I, q_mx, q_mn, q_ab, q_abL, q_mnL, q_nn0, q_nn1, q_rr, q_b1, q_b0, q_T, q_F, q_iT, q_iF, q_d, q_in, q_wi, q_hC, q_hM, pT_i, pU_i, pS_i, pS_j, pS_0, Sum.elim_inl, Sum.elim_inr, if_pos, if_neg]
          · simp (disch := omega) only [f_X11_commonDivisor_3, qL_rem, Option.bind_some, qi, ql, qI_lt, qI_le, qI_eq, qI_L, qI_ix, qL_lt, qL_eq, q_nat, q_cs, ← Int32.ofInt_add, ← Int32.ofInt_sub, ← Int32.ofInt_mul, ← Int32.ofInt_neg, ← Int64.ofInt_add, ← Int64.ofInt_sub, ← Int64.ofInt_mul, ← Int64.ofInt_neg, pL_I, q_mx, q_mn, q_ab, q_abL, q_mnL, q_nn0, q_nn1, q_rr, q_b1, q_b0, q_T, q_F, q_iT, q_iF, q_d, q_in, q_wi, q_hC, q_hM, pT_i, pU_i, pS_i, pS_j, pS_0, Sum.elim_inl, Sum.elim_inr, if_pos, if_neg]
        · refine (am_loop_in (s' := (Int64.ofInt b, Int64.ofInt (a.tmod b))) ?_).trans ((am_loop_in (s' := (Int64.ofInt (a.tmod b), Int64.ofInt (b.tmod (a.tmod b)))) ?_).trans k2)
          · simp (disch := omega) only [f_X12_fraction_9, qL_rem, Option.bind_some, qi, ql, qI_lt, qI_le, qI_eq, qI_L, qI_ix, qL_lt, qL_eq, q_nat, q_cs, ← Int32.ofInt_add, ← Int32.ofInt_sub, ← Int32.ofInt_mul, ← Int32.ofInt_neg, ← Int64.ofInt_add, ← Int64.ofInt_sub, ← Int64.ofInt_mul, ← Int64.ofInt_neg, pL_I, q_mx, q_mn, q_ab, q_abL, q_mnL, q_nn0, q_nn1, q_rr, q_b1, q_b0, q_T, q_F, q_iT, q_iF, q_d, q_in, q_wi, q_hC, q_hM, pT_i, pU_i, pS_i, pS_j, pS_0, Sum.elim_inl, Sum.elim_inr, if_pos, if_neg]
          · simp (disch := omega) only [f_X12_fraction_9, qL_rem, Option.bind_some, qi, ql, qI_lt, qI_le, qI_eq, qI_L, qI_ix, qL_lt, qL_eq, q_nat, q_cs, ← Int32.ofInt_add, ← Int32.ofInt_sub, ← Int32.ofInt_mul, ← Int32.ofInt_neg, ← Int64.ofInt_add, ← Int64.ofInt_sub, ← Int64.ofInt_mul, ← Int64.ofInt_neg, pL_I, q_mx, q_mn, q_ab, q_abL, q_mnL, q_nn0, q_nn1, q_rr, q_b1, q_b0, q_T, q_F, q_iT, q_iF, q_d, q_in, q_wi, q_hC, q_hM, pT_i, pU_i, pS_i, pS_j, pS_0, Sum.elim_inl, Sum.elim_inr, if_pos, if_neg]
/-- the same FRACTION is told -/
theorem pf_tell {σ1 σ2 : am_H} {t b : Int} (t1 : -9223372036854775808 < t) (t2 : t < 9223372036854775808) (b1 : 0 < b) (b2 : b < 9223372036854775808) : ∃ A B : Int64, f_X11_tellFraction (Int64.ofInt t) (Int64.ofInt b) σ1 = some (am_wL (am_wL σ1 11 0 1 A) 11 0 2 B) ∧ f_X12_fraction (Int64.ofInt t) (Int64.ofInt b) σ2 = some (am_wL (am_wL σ2 12 0 2 A) 12 0 3 B) := by
  obtain ⟨g, ⟨g0, g1⟩, g2, k1, k2⟩ := pf_eu (σ1 := σ1) (σ2 := σ2) (v1 := Int64.ofInt t) (v3 := Int64.ofInt b) 63 (by omega) ((t.natAbs : Nat) : Int) b (by omega) (by omega) (by omega) (by have : (2 : Int) ^ 63 = 9223372036854775808 := rfl; omega) b2
  have g3 := g2 (Or.inr b1)
  have k1 := k1 0 (by omega) (by omega)
  refine ⟨Int64.ofInt t / Int64.ofInt g, Int64.ofInt b / Int64.ofInt g, ?_, ?_⟩
  · simp (disch := omega) only [f_X11_tellFraction, f_X11_commonDivisor, k1, Option.bind_some, qi, ql, qI_lt, qI_le, qI_eq, qI_L, qI_ix, qL_lt, qL_eq, q_nat, q_cs, ← Int32.ofInt_add, ← Int32.ofInt_sub, ← Int32.ofInt_mul, ← Int32.ofInt_neg, ← Int64.ofInt_add, ← Int64.ofInt_sub, ← Int64.ofInt_mul, ← Int64.ofInt_neg, pL_I, q_mx, q_mn, q_ab, q_abL, q_mnL, q_nn0, q_nn1, q_rr, q_b1, q_b0, q_T, q_F, q_iT, q_iF, q_d, q_in, q_wi, q_hC, q_hM, pT_i, pU_i, pS_i, pS_j, pS_0, Sum.elim_inl, Sum.elim_inr, if_pos, if_neg]
  · simp (disch := omega) only [f_X12_fraction, k2, Option.bind_some, qi, ql, qI_lt, qI_le, qI_eq, qI_L, qI_ix, qL_lt, qL_eq, q_nat, q_cs, ← Int32.ofInt_add, ← Int32.ofInt_sub, ← Int32.ofInt_mul, ← Int32.ofInt_neg, ← Int64.ofInt_add, ← Int64.ofInt_sub, ← Int64.ofInt_mul, ← Int64.ofInt_neg, pL_I, q_mx, q_mn, q_ab, q_abL, q_mnL, q_nn0, q_nn1, q_rr, q_b1, q_b0, q_T, q_F, q_iT, q_iF, q_d, q_in, q_wi, q_hC, q_hM, pT_i, pU_i, pS_i, pS_j, pS_0, Sum.elim_inl, Sum.elim_inr, if_pos, if_neg]
theorem pr_told {σ1 σ2 : am_H} {A B : Int64} (x : pr_Core σ1 σ2) : pr_Rel (pT (am_wL (am_wL σ1 11 0 1 A) 11 0 2 B) 0) (am_wL (am_wL (pS σ2 0) 12 0 2 A) 12 0 3 B) := ⟨rfl, x.st [(11, 0), (11, 1), (11, 2)] [(12, 0), (12, 1), (12, 2), (12, 3)] [0] (by decide +kernel) (((qf.rf.wL rfl).wL rfl).wI rfl) ((((qf.rf.wI rfl).wI rfl).wL rfl).wL rfl) (by
  intro n hn
  rw [List.mem_singleton] at hn
  subst hn
  exact ⟨rfl, rfl⟩)⟩
theorem pw_off_b {w : Nat → Int} (hw : pw_ok w) {a b : Int} (a0 : 0 ≤ a) (a1 : a ≤ 1000000) (b0 : 0 ≤ b) (b1 : b ≤ 1000000) : (0 ≤ 24 * w 0 * b ∧ 24 * w 0 * b ≤ 239976000000) ∧ (0 ≤ a * w 1 ∧ a * w 1 ≤ 9999000000) := by
  obtain ⟨⟨p1, p2⟩, ⟨q1, q2⟩, -⟩ := hw
  have e1 : 0 ≤ w 0 * b := Int.mul_nonneg (by omega) b0
  have e2 : w 0 * b ≤ 9999 * 1000000 := Int.mul_le_mul p2 b1 b0 (by omega)
  have e3 : 24 * w 0 * b = 24 * (w 0 * b) := Int.mul_assoc _ _ _
  have e4 : 0 ≤ a * w 1 := Int.mul_nonneg a0 (by omega)
  have e5 : a * w 1 ≤ 1000000 * 9999 := Int.mul_le_mul a1 q2 (by omega) (by omega)
  omega
/-- how far a TRAIN is OFF by an HOUR, times all driven teeth and HOURS -/
def pw_off (w : Nat → Int) (a b : Int) : Int := (((24 * w 0 * b - a * w 1).natAbs : Nat) : Int)
theorem pw_off_r {w : Nat → Int} (hw : pw_ok w) {a b : Int} (a0 : 0 ≤ a) (a1 : a ≤ 1000000) (b0 : 0 ≤ b) (b1 : b ≤ 1000000) : 0 ≤ pw_off w a b ∧ pw_off w a b ≤ 239976000000 := by
  have h := pw_off_b hw a0 a1 b0 b1
  unfold pw_off
  omega
theorem pw_offTop {σ : am_H} {r : Nat} {w : Nat → Int} (hw : pw_ok w) (hC : pw_C σ r w) {a b h : Int} (a0 : 0 ≤ a) (a1 : a ≤ 1000000) (b0 : 0 ≤ b) (b1 : b ≤ 1000000) (h0 : 0 ≤ h) (h1 : h ≤ 99999) : f_X10_offTop r (Int64.ofInt a) (Int64.ofInt b) (Int32.ofInt h) σ = some (Int64.ofInt (pw_off w a b * h)) := by
  have hb := pw_off_b hw a0 a1 b0 b1
  obtain ⟨⟨p1, p2⟩, ⟨q1, q2⟩, -⟩ := hw
  obtain ⟨c0, c1, -⟩ := hC
  simp (disch := omega) only [f_X10_offTop, c0, c1, Option.bind_some, qi, ql, qI_lt, qI_le, qI_eq, qI_L, qI_ix, qL_lt, qL_eq, q_nat, q_cs, ← Int32.ofInt_add, ← Int32.ofInt_sub, ← Int32.ofInt_mul, ← Int32.ofInt_neg, ← Int64.ofInt_add, ← Int64.ofInt_sub, ← Int64.ofInt_mul, ← Int64.ofInt_neg, pL_I, q_mx, q_mn, q_ab, q_abL, q_mnL, q_nn0, q_nn1, q_rr, q_b1, q_b0, q_T, q_F, q_iT, q_iF, q_d, q_in, q_wi, q_hC, q_hM, pT_i, pU_i, pS_i, pS_j, pS_0, Sum.elim_inl, Sum.elim_inr, if_pos, if_neg]
  rfl
theorem pw_offBottom {σ : am_H} {r : Nat} {w : Nat → Int} (hw : pw_ok w) (hC : pw_C σ r w) {b : Int} : f_X10_offBottom r (Int64.ofInt b) σ = some (Int64.ofInt (b * w 1)) := by
  obtain ⟨⟨p1, p2⟩, ⟨q1, q2⟩, -⟩ := hw
  obtain ⟨c0, c1, -⟩ := hC
  simp (disch := omega) only [f_X10_offBottom, c1, Option.bind_some, qi, ql, qI_lt, qI_le, qI_eq, qI_L, qI_ix, qL_lt, qL_eq, q_nat, q_cs, ← Int32.ofInt_add, ← Int32.ofInt_sub, ← Int32.ofInt_mul, ← Int32.ofInt_neg, ← Int64.ofInt_add, ← Int64.ofInt_sub, ← Int64.ofInt_mul, ← Int64.ofInt_neg, pL_I, q_mx, q_mn, q_ab, q_abL, q_mnL, q_nn0, q_nn1, q_rr, q_b1, q_b0, q_T, q_F, q_iT, q_iF, q_d, q_in, q_wi, q_hC, q_hM, pT_i, pU_i, pS_i, pS_j, pS_0, Sum.elim_inl, Sum.elim_inr, if_pos, if_neg]
theorem pm_o {σ : am_H} {m i : Nat} {w : Nat → Int} (hM : pw_M σ m i w) (hm : m < 3) (hi : i < 6) : f_X12_of (Int32.ofInt m) (Int32.ofInt i) (Int32.ofInt 0) σ = some (Int32.ofInt (w 0)) ∧ f_X12_of (Int32.ofInt m) (Int32.ofInt i) (Int32.ofInt 1) σ = some (Int32.ofInt (w 1)) ∧ f_X12_of (Int32.ofInt m) (Int32.ofInt i) (Int32.ofInt 2) σ = some (Int32.ofInt (w 2)) ∧ f_X12_of (Int32.ofInt m) (Int32.ofInt i) (Int32.ofInt 3) σ = some (Int32.ofInt (w 3)) ∧ f_X12_of (Int32.ofInt m) (Int32.ofInt i) (Int32.ofInt 4) σ = some (Int32.ofInt (w 4)) ∧ f_X12_of (Int32.ofInt m) (Int32.ofInt i) (Int32.ofInt 5) σ = some (Int32.ofInt (w 5)) ∧ f_X12_of (Int32.ofInt m) (Int32.ofInt i) (Int32.ofInt 6) σ = some (Int32.ofInt (w 6)) ∧ f_X12_of (Int32.ofInt m) (Int32.ofInt i) (Int32.ofInt 7) σ = some (Int32.ofInt (w 7)) ∧ f_X12_of (Int32.ofInt m) (Int32.ofInt i) (Int32.ofInt 8) σ = some (Int32.ofInt (w 8)) := ⟨pm_of (k := 0) hM hm hi (by omega), pm_of (k := 1) hM hm hi (by omega), pm_of (k := 2) hM hm hi (by omega), pm_of (k := 3) hM hm hi (by omega), pm_of (k := 4) hM hm hi (by omega), pm_of (k := 5) hM hm hi (by omega), pm_of (k := 6) hM hm hi (by omega), pm_of (k := 7) hM hm hi (by omega), pm_of (k := 8) hM hm hi (by omega)⟩
theorem pm_offOf {σ : am_H} {m i : Nat} {w : Nat → Int} (hw : pw_ok w) (hM : pw_M σ m i w) (hm : m < 3) (hi : i < 6) {a b : Int} (a0 : 0 ≤ a) (a1 : a ≤ 1000000) (b0 : 0 ≤ b) (b1 : b ≤ 1000000) : f_X12_offOf (Int32.ofInt m) (Int32.ofInt i) (Int64.ofInt a) (Int64.ofInt b) σ = some (Int64.ofInt (pw_off w a b)) := by
  have hb := pw_off_b hw a0 a1 b0 b1
  obtain ⟨o0, o1, -⟩ := pm_o hM hm hi
  obtain ⟨⟨p1, p2⟩, ⟨q1, q2⟩, -⟩ := hw
  simp (disch := omega) only [f_X12_offOf, o0, o1, Option.bind_some, qi, ql, qI_lt, qI_le, qI_eq, qI_L, qI_ix, qL_lt, qL_eq, q_nat, q_cs, ← Int32.ofInt_add, ← Int32.ofInt_sub, ← Int32.ofInt_mul, ← Int32.ofInt_neg, ← Int64.ofInt_add, ← Int64.ofInt_sub, ← Int64.ofInt_mul, ← Int64.ofInt_neg, pL_I, q_mx, q_mn, q_ab, q_abL, q_mnL, q_nn0, q_nn1, q_rr, q_b1, q_b0, q_T, q_F, q_iT, q_iF, q_d, q_in, q_wi, q_hC, q_hM, pT_i, pU_i, pS_i, pS_j, pS_0, Sum.elim_inl, Sum.elim_inr, if_pos, if_neg]
  rfl
theorem po_16 : am_op_16 pr_Rel := by
  intro σ1 σ2 h v1 v2 v3
  obtain ⟨x, x1, x2, rfl⟩ := q_ex v1
  obtain ⟨y, y1, y2, rfl⟩ := q_ex v2
  obtain ⟨z, z1, z2, rfl⟩ := q_ex v3
  rcases pr_w (h.2.S 0) x1 x2 y1 y2 with ⟨e1, e2⟩ | ⟨m, a, i, w, hm, ha, hi, rfl, rfl, hr, em, eM, ea, e1, e2, ok, tr, C, M, -⟩
  · refine pr_ro h false 2 ?_ ?_
    · simp (disch := omega) only [f_X11_off, f_X11_no, e1, Option.bind_some, qi, ql, qI_lt, qI_le, qI_eq, qI_L, qI_ix, qL_lt, qL_eq, q_nat, q_cs, ← Int32.ofInt_add, ← Int32.ofInt_sub, ← Int32.ofInt_mul, ← Int32.ofInt_neg, ← Int64.ofInt_add, ← Int64.ofInt_sub, ← Int64.ofInt_mul, ← Int64.ofInt_neg, pL_I, q_mx, q_mn, q_ab, q_abL, q_mnL, q_nn0, q_nn1, q_rr, q_b1, q_b0, q_T, q_F, q_iT, q_iF, q_d, q_in, q_wi, q_hC, q_hM, pT_i, pU_i, pS_i, pS_j, pS_0, Sum.elim_inl, Sum.elim_inr, if_pos, if_neg]
    · simp (disch := omega) only [f_X12_off, f_X12_no, e2, Option.bind_some, qi, ql, qI_lt, qI_le, qI_eq, qI_L, qI_ix, qL_lt, qL_eq, q_nat, q_cs, ← Int32.ofInt_add, ← Int32.ofInt_sub, ← Int32.ofInt_mul, ← Int32.ofInt_neg, ← Int64.ofInt_add, ← Int64.ofInt_sub, ← Int64.ofInt_mul, ← Int64.ofInt_neg, pL_I, q_mx, q_mn, q_ab, q_abL, q_mnL, q_nn0, q_nn1, q_rr, q_b1, q_b0, q_T, q_F, q_iT, q_iF, q_d, q_in, q_wi, q_hC, q_hM, pT_i, pU_i, pS_i, pS_j, pS_0, Sum.elim_inl, Sum.elim_inr, if_pos, if_neg]
  · by_cases cz : 0 ≤ z ∧ z ≤ 99999
    · have ht := pm_hasTrain ok M (by omega) hi
      have k4 : 0 ≤ w 4 ∧ w 4 ≤ 2 := ok.2.2.2.2.1
      by_cases c4 : 0 < w 4
      · have ug := pw_ug_b ok (h := 0) (by omega) (by omega)
        obtain ⟨⟨u1, u2⟩, ⟨u3, u4⟩, -⟩ := ug
        have f1 := pw_offTop ok C (a := w 5 * w 7) (b := w 6 * w 8) (h := z) (by omega) (by omega) (by omega) (by omega) cz.1 cz.2
        have f2 := pw_offBottom ok C (b := w 6 * w 8)
        have f3 := pm_offOf ok M (by omega) hi (a := w 5 * w 7) (b := w 6 * w 8) (by omega) (by omega) (by omega) (by omega)
        have fr := pw_off_r ok (a := w 5 * w 7) (b := w 6 * w 8) (by omega) (by omega) (by omega) (by omega)
        have fb := pw_off_b ok (a := w 6 * w 8) (b := 0) (by omega) (by omega) (by omega) (by omega)
        have fz : pw_off w (w 5 * w 7) (w 6 * w 8) * z ≤ 239976000000 * 99999 := Int.mul_le_mul fr.2 cz.2 cz.1 (by omega)
        have fz0 : 0 ≤ pw_off w (w 5 * w 7) (w 6 * w 8) * z := Int.mul_nonneg fr.1 cz.1
        have fb0 : 1 * 1 ≤ w 6 * w 8 * w 1 := Int.mul_le_mul u3 ok.2.1.1 (by omega) (by omega)
        obtain ⟨A, B, t1, t2⟩ := pf_tell (σ1 := σ1) (σ2 := pS σ2 0) (t := pw_off w (w 5 * w 7) (w 6 * w 8) * z) (b := w 6 * w 8 * w 1) (by omega) (by omega) (by omega) (by omega)
        obtain ⟨o0, o1, o2, o3, o4, o5, o6, o7, o8⟩ := pm_o M (by omega) hi
        have q4 : σ1.1 10 (6 * a + i) 5 = Int32.ofInt (w 4) := C.2.2.2.2.1
        have q7 : σ1.2.1 10 (6 * a + i) 7 = Int64.ofInt (w 5 * w 7) := C.2.2.2.2.2.2.1
        have q8 : σ1.2.1 10 (6 * a + i) 8 = Int64.ofInt (w 6 * w 8) := C.2.2.2.2.2.2.2
        obtain ⟨⟨a01, a02⟩, ⟨a11, a12⟩, -, -, -, ⟨a51, a52⟩, ⟨a61, a62⟩, ⟨a71, a72⟩, ⟨a81, a82⟩⟩ := ok
        refine ⟨true, _, _, ?_, ?_, pr_told (A := A) (B := B) h.2⟩
        · simp (disch := omega) only [f_X11_off, f_X11_yes, e1, f_X10_hasTrain, q4, q7, q8, f1, f2, t1, Option.bind_some, qi, ql, qI_lt, qI_le, qI_eq, qI_L, qI_ix, qL_lt, qL_eq, q_nat, q_cs, ← Int32.ofInt_add, ← Int32.ofInt_sub, ← Int32.ofInt_mul, ← Int32.ofInt_neg, ← Int64.ofInt_add, ← Int64.ofInt_sub, ← Int64.ofInt_mul, ← Int64.ofInt_neg, pL_I, q_mx, q_mn, q_ab, q_abL, q_mnL, q_nn0, q_nn1, q_rr, q_b1, q_b0, q_T, q_F, q_iT, q_iF, q_d, q_in, q_wi, q_hC, q_hM, pT_i, pU_i, pS_i, pS_j, pS_0, Sum.elim_inl, Sum.elim_inr, if_pos, if_neg]
        · simp (disch := omega) only [f_X12_off, e2, ht, o5, o6, o7, o8, o1, f3, t2, Option.bind_some, qi, ql, qI_lt, qI_le, qI_eq, qI_L, qI_ix, qL_lt, qL_eq, q_nat, q_cs, ← Int32.ofInt_add, ← Int32.ofInt_sub, ← Int32.ofInt_mul, ← Int32.ofInt_neg, ← Int64.ofInt_add, ← Int64.ofInt_sub, ← Int64.ofInt_mul, ← Int64.ofInt_neg, pL_I, q_mx, q_mn, q_ab, q_abL, q_mnL, q_nn0, q_nn1, q_rr, q_b1, q_b0, q_T, q_F, q_iT, q_iF, q_d, q_in, q_wi, q_hC, q_hM, pT_i, pU_i, pS_i, pS_j, pS_0, Sum.elim_inl, Sum.elim_inr, if_pos, if_neg]
      · have q4 : σ1.1 10 (6 * a + i) 5 = Int32.ofInt (w 4) := C.2.2.2.2.1
        refine pr_ro h false 8 ?_ ?_
        · simp (disch := omega) only [f_X11_off, f_X11_no, e1, f_X10_hasTrain, q4, Option.bind_some, qi, ql, qI_lt, qI_le, qI_eq, qI_L, qI_ix, qL_lt, qL_eq, q_nat, q_cs, ← Int32.ofInt_add, ← Int32.ofInt_sub, ← Int32.ofInt_mul, ← Int32.ofInt_neg, ← Int64.ofInt_add, ← Int64.ofInt_sub, ← Int64.ofInt_mul, ← Int64.ofInt_neg, pL_I, q_mx, q_mn, q_ab, q_abL, q_mnL, q_nn0, q_nn1, q_rr, q_b1, q_b0, q_T, q_F, q_iT, q_iF, q_d, q_in, q_wi, q_hC, q_hM, pT_i, pU_i, pS_i, pS_j, pS_0, Sum.elim_inl, Sum.elim_inr, if_pos, if_neg]
        · simp (disch := omega) only [f_X12_off, f_X12_no, e2, ht, Option.bind_some, qi, ql, qI_lt, qI_le, qI_eq, qI_L, qI_ix, qL_lt, qL_eq, q_nat, q_cs, ← Int32.ofInt_add, ← Int32.ofInt_sub, ← Int32.ofInt_mul, ← Int32.ofInt_neg, ← Int64.ofInt_add, ← Int64.ofInt_sub, ← Int64.ofInt_mul, ← Int64.ofInt_neg, pL_I, q_mx, q_mn, q_ab, q_abL, q_mnL, q_nn0, q_nn1, q_rr, q_b1, q_b0, q_T, q_F, q_iT, q_iF, q_d, q_in, q_wi, q_hC, q_hM, pT_i, pU_i, pS_i, pS_j, pS_0, Sum.elim_inl, Sum.elim_inr, if_pos, if_neg]
    · refine pr_ro h false 5 ?_ ?_
      · simp (disch := omega) only [f_X11_off, f_X11_no, e1, Option.bind_some, qi, ql, qI_lt, qI_le, qI_eq, qI_L, qI_ix, qL_lt, qL_eq, q_nat, q_cs, ← Int32.ofInt_add, ← Int32.ofInt_sub, ← Int32.ofInt_mul, ← Int32.ofInt_neg, ← Int64.ofInt_add, ← Int64.ofInt_sub, ← Int64.ofInt_mul, ← Int64.ofInt_neg, pL_I, q_mx, q_mn, q_ab, q_abL, q_mnL, q_nn0, q_nn1, q_rr, q_b1, q_b0, q_T, q_F, q_iT, q_iF, q_d, q_in, q_wi, q_hC, q_hM, pT_i, pU_i, pS_i, pS_j, pS_0, Sum.elim_inl, Sum.elim_inr, if_pos, if_neg]
      · simp (disch := omega) only [f_X12_off, f_X12_no, e2, Option.bind_some, qi, ql, qI_lt, qI_le, qI_eq, qI_L, qI_ix, qL_lt, qL_eq, q_nat, q_cs, ← Int32.ofInt_add, ← Int32.ofInt_sub, ← Int32.ofInt_mul, ← Int32.ofInt_neg, ← Int64.ofInt_add, ← Int64.ofInt_sub, ← Int64.ofInt_mul, ← Int64.ofInt_neg, pL_I, q_mx, q_mn, q_ab, q_abL, q_mnL, q_nn0, q_nn1, q_rr, q_b1, q_b0, q_T, q_F, q_iT, q_iF, q_d, q_in, q_wi, q_hC, q_hM, pT_i, pU_i, pS_i, pS_j, pS_0, Sum.elim_inl, Sum.elim_inr, if_pos, if_neg]
