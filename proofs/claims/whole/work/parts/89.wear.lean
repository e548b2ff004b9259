/-! ===== WEAR, LASTS ===== -/
theorem pe_ceil {t b h : Int} (t0 : 0 ≤ t) (b0 : 0 < b) : (t + b - 1).tdiv b ≤ h ↔ t ≤ h * b := by
  rw [Int.tdiv_eq_ediv_of_nonneg (by omega)]
  have e1 : (t + b - 1) / b ≤ h ↔ (t + b - 1) / b < h + 1 := by omega
  rw [e1, Int.ediv_lt_iff_lt_mul b0, Int.add_mul]
  omega
theorem pe_floor {x c L : Int} (x0 : 0 ≤ x) (c0 : 0 < c) : L ≤ x.tdiv c ↔ L * c ≤ x := by
  rw [Int.tdiv_eq_ediv_of_nonneg x0, Int.le_ediv_iff_mul_le c0]
theorem pe_tb {a b : Int} (a0 : 0 ≤ a) (b0 : 0 < b) : 0 ≤ a.tdiv b ∧ a.tdiv b ≤ a := by
  have h1 := Int.tdiv_nonneg a0 (by omega : 0 ≤ b)
  have h2 := Int.natAbs_tdiv_le_natAbs a b
  omega
/-- teeth's products -/
theorem pe_pr {w : Nat → Int} (ok : pw_ok w) {h : Int} (h0 : 0 ≤ h) (h1 : h ≤ 99999) : (0 ≤ h * w 5 ∧ h * w 5 ≤ 19999800) ∧ (0 ≤ h * w 5 * w 7 ∧ h * w 5 * w 7 ≤ 3999960000) := by
  obtain ⟨-, -, -, -, -, ⟨a1, a2⟩, ⟨b1, b2⟩, ⟨c1, c2⟩, ⟨d1, d2⟩⟩ := ok
  have e1 : 0 ≤ h * w 5 := Int.mul_nonneg h0 (by omega)
  have e2 : h * w 5 ≤ 99999 * 200 := Int.mul_le_mul h1 a2 (by omega) (by omega)
  have e3 : 0 ≤ h * w 5 * w 7 := Int.mul_nonneg e1 (by omega)
  have e4 : h * w 5 * w 7 ≤ 19999800 * 200 := Int.mul_le_mul (by omega) c2 (by omega) (by omega)
  omega
def pe_wear (w : Nat → Int) (k h : Int) : Int := if k < 2 then (h * w 5).tdiv 24 else (h * w 5 * w 7).tdiv (24 * w 6)
theorem pe_C {σ : am_H} {r : Nat} {w : Nat → Int} (ok : pw_ok w) (C : pw_C σ r w) {k h : Int} (k0 : 0 ≤ k) (k1 : k < 4) (h0 : 0 ≤ h) (h1 : h ≤ 99999) : f_X10_wearOf r (Int32.ofInt k) (Int32.ofInt h) σ = some (Int32.ofInt (pe_wear w k h)) := by
  have pr := pe_pr ok h0 h1
  have q5 : σ.1 1106 r (0 : Int).toNat = Int32.ofInt (w 5) := C.2.2.2.2.2.1 0 (by omega)
  have q6 : σ.1 1106 r (1 : Int).toNat = Int32.ofInt (w 6) := C.2.2.2.2.2.1 1 (by omega)
  have q7 : σ.1 1106 r (2 : Int).toNat = Int32.ofInt (w 7) := C.2.2.2.2.2.1 2 (by omega)
  obtain ⟨-, -, -, -, -, ⟨a1, a2⟩, ⟨b1, b2⟩, ⟨c1, c2⟩, ⟨d1, d2⟩⟩ := ok
  unfold pe_wear
  by_cases c : k < 2
  · simp (disch := omega) only [f_X10_wearOf, q5, q6, q7, qL_div, Option.bind_some, qi, ql, qI_lt, qI_le, qI_eq, qI_L, qI_ix, qL_lt, qL_eq, q_nat, q_cs, ← Int32.ofInt_add, ← Int32.ofInt_sub, ← Int32.ofInt_mul, ← Int32.ofInt_neg, ← Int64.ofInt_add, ← Int64.ofInt_sub, ← Int64.ofInt_mul, ← Int64.ofInt_neg, pL_I, q_mx, q_mn, q_ab, q_abL, q_mnL, q_nn0, q_nn1, q_rr, q_b1, q_b0, q_T, q_F, q_iT, q_iF, q_d, q_in, q_wi, q_hC, q_hM, pT_i, pU_i, pS_i, pS_j, pS_0, Sum.elim_inl, Sum.elim_inr, if_pos, if_neg]
  · simp (disch := omega) only [f_X10_wearOf, q5, q6, q7, qL_div, Option.bind_some, qi, ql, qI_lt, qI_le, qI_eq, qI_L, qI_ix, qL_lt, qL_eq, q_nat, q_cs, ← Int32.ofInt_add, ← Int32.ofInt_sub, ← Int32.ofInt_mul, ← Int32.ofInt_neg, ← Int64.ofInt_add, ← Int64.ofInt_sub, ← Int64.ofInt_mul, ← Int64.ofInt_neg, pL_I, q_mx, q_mn, q_ab, q_abL, q_mnL, q_nn0, q_nn1, q_rr, q_b1, q_b0, q_T, q_F, q_iT, q_iF, q_d, q_in, q_wi, q_hC, q_hM, pT_i, pU_i, pS_i, pS_j, pS_0, Sum.elim_inl, Sum.elim_inr, if_pos, if_neg]
theorem pe_M {σ : am_H} {m i : Nat} {w : Nat → Int} (ok : pw_ok w) (M : pw_M σ m i w) (hm : m < 3) (hi : i < 6) {k h : Int} (k0 : 0 ≤ k) (k1 : k < 4) (h0 : 0 ≤ h) (h1 : h ≤ 99999) : f_X12_wear (Int32.ofInt m) (Int32.ofInt i) (Int32.ofInt k) (Int32.ofInt h) σ = some (Int64.ofInt (pe_wear w k h)) := by
  have pr := pe_pr ok h0 h1
  obtain ⟨o0, o1, o2, o3, o4, o5, o6, o7, o8⟩ := pm_o M hm hi
  obtain ⟨-, -, -, -, -, ⟨a1, a2⟩, ⟨b1, b2⟩, ⟨c1, c2⟩, ⟨d1, d2⟩⟩ := ok
  unfold pe_wear
  by_cases c : k < 2
  · simp (disch := omega) only [f_X12_wear, o5, o6, o7, qL_div, Option.bind_some, qi, ql, qI_lt, qI_le, qI_eq, qI_L, qI_ix, qL_lt, qL_eq, q_nat, q_cs, ← Int32.ofInt_add, ← Int32.ofInt_sub, ← Int32.ofInt_mul, ← Int32.ofInt_neg, ← Int64.ofInt_add, ← Int64.ofInt_sub, ← Int64.ofInt_mul, ← Int64.ofInt_neg, pL_I, q_mx, q_mn, q_ab, q_abL, q_mnL, q_nn0, q_nn1, q_rr, q_b1, q_b0, q_T, q_F, q_iT, q_iF, q_d, q_in, q_wi, q_hC, q_hM, pT_i, pU_i, pS_i, pS_j, pS_0, Sum.elim_inl, Sum.elim_inr, if_pos, if_neg]
  · simp (disch := omega) only [f_X12_wear, o5, o6, o7, qL_div, Option.bind_some, qi, ql, qI_lt, qI_le, qI_eq, qI_L, qI_ix, qL_lt, qL_eq, q_nat, q_cs, ← Int32.ofInt_add, ← Int32.ofInt_sub, ← Int32.ofInt_mul, ← Int32.ofInt_neg, ← Int64.ofInt_add, ← Int64.ofInt_sub, ← Int64.ofInt_mul, ← Int64.ofInt_neg, pL_I, q_mx, q_mn, q_ab, q_abL, q_mnL, q_nn0, q_nn1, q_rr, q_b1, q_b0, q_T, q_F, q_iT, q_iF, q_d, q_in, q_wi, q_hC, q_hM, pT_i, pU_i, pS_i, pS_j, pS_0, Sum.elim_inl, Sum.elim_inr, if_pos, if_neg]
theorem po_40 : am_op_40 pr_Rel := by
  intro σ1 σ2 h v1 v2 v3 v4
  obtain ⟨x, x1, x2, rfl⟩ := q_ex v1
  obtain ⟨y, y1, y2, rfl⟩ := q_ex v2
  obtain ⟨k, k1, k2, rfl⟩ := q_ex v3
  obtain ⟨z, z1, z2, rfl⟩ := q_ex v4
  rcases pr_w (h.2.S 0) x1 x2 y1 y2 with ⟨e1, e2⟩ | ⟨m, a, i, w, hm, ha, hi, rfl, rfl, hr, em, eM, ea, e1, e2, ok, tr, C, M, -⟩
  · refine pr_ro h (Int32.ofInt (-1)) 2 ?_ ?_
    · simp (disch := omega) only [f_X11_worn, f_X11_worn_22, f_X11_none, e1, Option.bind_some, qi, ql, qI_lt, qI_le, qI_eq, qI_L, qI_ix, qL_lt, qL_eq, q_nat, q_cs, ← Int32.ofInt_add, ← Int32.ofInt_sub, ← Int32.ofInt_mul, ← Int32.ofInt_neg, ← Int64.ofInt_add, ← Int64.ofInt_sub, ← Int64.ofInt_mul, ← Int64.ofInt_neg, pL_I, q_mx, q_mn, q_ab, q_abL, q_mnL, q_nn0, q_nn1, q_rr, q_b1, q_b0, q_T, q_F, q_iT, q_iF, q_d, q_in, q_wi, q_hC, q_hM, pT_i, pU_i, pS_i, pS_j, pS_0, Sum.elim_inl, Sum.elim_inr, if_pos, if_neg]
    · simp (disch := omega) only [f_X12_worn, f_X12_worn_31, f_X12_refuse, e2, Option.bind_some, qi, ql, qI_lt, qI_le, qI_eq, qI_L, qI_ix, qL_lt, qL_eq, q_nat, q_cs, ← Int32.ofInt_add, ← Int32.ofInt_sub, ← Int32.ofInt_mul, ← Int32.ofInt_neg, ← Int64.ofInt_add, ← Int64.ofInt_sub, ← Int64.ofInt_mul, ← Int64.ofInt_neg, pL_I, q_mx, q_mn, q_ab, q_abL, q_mnL, q_nn0, q_nn1, q_rr, q_b1, q_b0, q_T, q_F, q_iT, q_iF, q_d, q_in, q_wi, q_hC, q_hM, pT_i, pU_i, pS_i, pS_j, pS_0, Sum.elim_inl, Sum.elim_inr, if_pos, if_neg]
  · obtain ⟨o0, o1, o2, o3, o4, -⟩ := pm_o M (by omega) hi
    have q4 : σ1.1 10 (6 * a + i) 5 = Int32.ofInt (w 4) := C.2.2.2.2.1
    have k4 : 0 ≤ w 4 ∧ w 4 ≤ 2 := ok.2.2.2.2.1
    by_cases ck : 0 ≤ k ∧ k ≤ 3
    · by_cases cz : 0 ≤ z ∧ z ≤ 99999
      · by_cases cw : k < 2 * w 4
        · have w1 := pe_C ok C ck.1 (by omega) cz.1 cz.2
          have w2 := pe_M ok M (by omega) hi ck.1 (by omega) cz.1 cz.2
          refine pr_ro h (Int32.ofInt (pe_wear w k z)) 0 ?_ ?_
          · simp (disch := omega) only [f_X11_worn, f_X11_answer, f_X10_wheels, e1, q4, w1, Option.bind_some, qi, ql, qI_lt, qI_le, qI_eq, qI_L, qI_ix, qL_lt, qL_eq, q_nat, q_cs, ← Int32.ofInt_add, ← Int32.ofInt_sub, ← Int32.ofInt_mul, ← Int32.ofInt_neg, ← Int64.ofInt_add, ← Int64.ofInt_sub, ← Int64.ofInt_mul, ← Int64.ofInt_neg, pL_I, q_mx, q_mn, q_ab, q_abL, q_mnL, q_nn0, q_nn1, q_rr, q_b1, q_b0, q_T, q_F, q_iT, q_iF, q_d, q_in, q_wi, q_hC, q_hM, pT_i, pU_i, pS_i, pS_j, pS_0, Sum.elim_inl, Sum.elim_inr, if_pos, if_neg]
          · simp (disch := omega) only [f_X12_worn, f_X12_wheels, e2, o4, w2, Option.bind_some, qi, ql, qI_lt, qI_le, qI_eq, qI_L, qI_ix, qL_lt, qL_eq, q_nat, q_cs, ← Int32.ofInt_add, ← Int32.ofInt_sub, ← Int32.ofInt_mul, ← Int32.ofInt_neg, ← Int64.ofInt_add, ← Int64.ofInt_sub, ← Int64.ofInt_mul, ← Int64.ofInt_neg, pL_I, q_mx, q_mn, q_ab, q_abL, q_mnL, q_nn0, q_nn1, q_rr, q_b1, q_b0, q_T, q_F, q_iT, q_iF, q_d, q_in, q_wi, q_hC, q_hM, pT_i, pU_i, pS_i, pS_j, pS_0, Sum.elim_inl, Sum.elim_inr, if_pos, if_neg]
        · refine pr_ro h (Int32.ofInt (-1)) 8 ?_ ?_
          · simp (disch := omega) only [f_X11_worn, f_X11_none, f_X10_wheels, e1, q4, Option.bind_some, qi, ql, qI_lt, qI_le, qI_eq, qI_L, qI_ix, qL_lt, qL_eq, q_nat, q_cs, ← Int32.ofInt_add, ← Int32.ofInt_sub, ← Int32.ofInt_mul, ← Int32.ofInt_neg, ← Int64.ofInt_add, ← Int64.ofInt_sub, ← Int64.ofInt_mul, ← Int64.ofInt_neg, pL_I, q_mx, q_mn, q_ab, q_abL, q_mnL, q_nn0, q_nn1, q_rr, q_b1, q_b0, q_T, q_F, q_iT, q_iF, q_d, q_in, q_wi, q_hC, q_hM, pT_i, pU_i, pS_i, pS_j, pS_0, Sum.elim_inl, Sum.elim_inr, if_pos, if_neg]
          · simp (disch := omega) only [f_X12_worn, f_X12_wheels, f_X12_refuse, e2, o4, Option.bind_some, qi, ql, qI_lt, qI_le, qI_eq, qI_L, qI_ix, qL_lt, qL_eq, q_nat, q_cs, ← Int32.ofInt_add, ← Int32.ofInt_sub, ← Int32.ofInt_mul, ← Int32.ofInt_neg, ← Int64.ofInt_add, ← Int64.ofInt_sub, ← Int64.ofInt_mul, ← Int64.ofInt_neg, pL_I, q_mx, q_mn, q_ab, q_abL, q_mnL, q_nn0, q_nn1, q_rr, q_b1, q_b0, q_T, q_F, q_iT, q_iF, q_d, q_in, q_wi, q_hC, q_hM, pT_i, pU_i, pS_i, pS_j, pS_0, Sum.elim_inl, Sum.elim_inr, if_pos, if_neg]
      · refine pr_ro h (Int32.ofInt (-1)) 5 ?_ ?_
        · simp (disch := omega) only [f_X11_worn, f_X11_none, e1, Option.bind_some, qi, ql, qI_lt, qI_le, qI_eq, qI_L, qI_ix, qL_lt, qL_eq, q_nat, q_cs, ← Int32.ofInt_add, ← Int32.ofInt_sub, ← Int32.ofInt_mul, ← Int32.ofInt_neg, ← Int64.ofInt_add, ← Int64.ofInt_sub, ← Int64.ofInt_mul, ← Int64.ofInt_neg, pL_I, q_mx, q_mn, q_ab, q_abL, q_mnL, q_nn0, q_nn1, q_rr, q_b1, q_b0, q_T, q_F, q_iT, q_iF, q_d, q_in, q_wi, q_hC, q_hM, pT_i, pU_i, pS_i, pS_j, pS_0, Sum.elim_inl, Sum.elim_inr, if_pos, if_neg]
        · simp (disch := omega) only [f_X12_worn, f_X12_refuse, e2, Option.bind_some, qi, ql, qI_lt, qI_le, qI_eq, qI_L, qI_ix, qL_lt, qL_eq, q_nat, q_cs, ← Int32.ofInt_add, ← Int32.ofInt_sub, ← Int32.ofInt_mul, ← Int32.ofInt_neg, ← Int64.ofInt_add, ← Int64.ofInt_sub, ← Int64.ofInt_mul, ← Int64.ofInt_neg, pL_I, q_mx, q_mn, q_ab, q_abL, q_mnL, q_nn0, q_nn1, q_rr, q_b1, q_b0, q_T, q_F, q_iT, q_iF, q_d, q_in, q_wi, q_hC, q_hM, pT_i, pU_i, pS_i, pS_j, pS_0, Sum.elim_inl, Sum.elim_inr, if_pos, if_neg]
    · refine pr_ro h (Int32.ofInt (-1)) 2 ?_ ?_
      · by_cases c0 : k < 0
        · simp (disch := omega) only [f_X11_worn, f_X11_worn_22, f_X11_none, e1, Option.bind_some, qi, ql, qI_lt, qI_le, qI_eq, qI_L, qI_ix, qL_lt, qL_eq, q_nat, q_cs, ← Int32.ofInt_add, ← Int32.ofInt_sub, ← Int32.ofInt_mul, ← Int32.ofInt_neg, ← Int64.ofInt_add, ← Int64.ofInt_sub, ← Int64.ofInt_mul, ← Int64.ofInt_neg, pL_I, q_mx, q_mn, q_ab, q_abL, q_mnL, q_nn0, q_nn1, q_rr, q_b1, q_b0, q_T, q_F, q_iT, q_iF, q_d, q_in, q_wi, q_hC, q_hM, pT_i, pU_i, pS_i, pS_j, pS_0, Sum.elim_inl, Sum.elim_inr, if_pos, if_neg]
        · simp (disch := omega) only [f_X11_worn, f_X11_worn_22, f_X11_none, e1, Option.bind_some, qi, ql, qI_lt, qI_le, qI_eq, qI_L, qI_ix, qL_lt, qL_eq, q_nat, q_cs, ← Int32.ofInt_add, ← Int32.ofInt_sub, ← Int32.ofInt_mul, ← Int32.ofInt_neg, ← Int64.ofInt_add, ← Int64.ofInt_sub, ← Int64.ofInt_mul, ← Int64.ofInt_neg, pL_I, q_mx, q_mn, q_ab, q_abL, q_mnL, q_nn0, q_nn1, q_rr, q_b1, q_b0, q_T, q_F, q_iT, q_iF, q_d, q_in, q_wi, q_hC, q_hM, pT_i, pU_i, pS_i, pS_j, pS_0, Sum.elim_inl, Sum.elim_inr, if_pos, if_neg]
      · simp (disch := omega) only [f_X12_worn, f_X12_worn_31, f_X12_refuse, e2, Option.bind_some, qi, ql, qI_lt, qI_le, qI_eq, qI_L, qI_ix, qL_lt, qL_eq, q_nat, q_cs, ← Int32.ofInt_add, ← Int32.ofInt_sub, ← Int32.ofInt_mul, ← Int32.ofInt_neg, ← Int64.ofInt_add, ← Int64.ofInt_sub, ← Int64.ofInt_mul, ← Int64.ofInt_neg, pL_I, q_mx, q_mn, q_ab, q_abL, q_mnL, q_nn0, q_nn1, q_rr, q_b1, q_b0, q_T, q_F, q_iT, q_iF, q_d, q_in, q_wi, q_hC, q_hM, pT_i, pU_i, pS_i, pS_j, pS_0, Sum.elim_inl, Sum.elim_inr, if_pos, if_neg]
/-- some wheel of a WAVE's TRAIN is worn -/
def pe_W (w : Nat → Int) (L h : Int) : Prop := (0 < w 4 ∧ 24 * L ≤ h * w 5) ∨ (1 < w 4 ∧ 24 * w 6 * L ≤ h * w 5 * w 7)
theorem pe_up {σ : am_H} {t b : Int} (t0 : 0 ≤ t) (t1 : t ≤ 1000000000000) (b0 : 0 < b) (b1 : b ≤ 1000000) : f_X10_roundedUp (Int64.ofInt t) (Int64.ofInt b) σ = some (Int64.ofInt ((t + b - 1).tdiv b)) := by
  simp (disch := omega) only [f_X10_roundedUp, qL_div, Option.bind_some, qi, ql, qI_lt, qI_le, qI_eq, qI_L, qI_ix, qL_lt, qL_eq, q_nat, q_cs, ← Int32.ofInt_add, ← Int32.ofInt_sub, ← Int32.ofInt_mul, ← Int32.ofInt_neg, ← Int64.ofInt_add, ← Int64.ofInt_sub, ← Int64.ofInt_mul, ← Int64.ofInt_neg, pL_I, q_mx, q_mn, q_ab, q_abL, q_mnL, q_nn0, q_nn1, q_rr, q_b1, q_b0, q_T, q_F, q_iT, q_iF, q_d, q_in, q_wi, q_hC, q_hM, pT_i, pU_i, pS_i, pS_j, pS_0, Sum.elim_inl, Sum.elim_inr, if_pos, if_neg]
theorem pe_first {σ : am_H} {r : Nat} {w : Nat → Int} (ok : pw_ok w) (C : pw_C σ r w) {L : Int} (l0 : 1 ≤ L) (l1 : L ≤ 9999999) : ∃ F : Int, (0 ≤ F ∧ F ≤ 100000) ∧ f_X10_firstWornHour r (Int32.ofInt L) σ = some (Int64.ofInt F) ∧ ∀ h : Int, h ≤ 99999 → (F ≤ h ↔ pe_W w L h) := by
  have q5 : σ.1 1106 r (0 : Int).toNat = Int32.ofInt (w 5) := C.2.2.2.2.2.1 0 (by omega)
  have q6 : σ.1 1106 r (1 : Int).toNat = Int32.ofInt (w 6) := C.2.2.2.2.2.1 1 (by omega)
  have q7 : σ.1 1106 r (2 : Int).toNat = Int32.ofInt (w 7) := C.2.2.2.2.2.1 2 (by omega)
  have q4 : σ.1 10 r 5 = Int32.ofInt (w 4) := C.2.2.2.2.1
  have ug := pw_ug_b ok (h := 0) (by omega) (by omega)
  obtain ⟨-, -, -, -, ⟨k4, k4'⟩, ⟨a1, a2⟩, ⟨b1, b2⟩, ⟨c1, c2⟩, ⟨d1, d2⟩⟩ := ok
  have e1 : 0 ≤ 24 * L * w 6 := Int.mul_nonneg (by omega) (by omega)
  have e2 : 24 * L * w 6 ≤ 239999976 * 200 := Int.mul_le_mul (by omega) b2 (by omega) (by omega)
  have u1 := pe_up (σ := σ) (t := 24 * L) (b := w 5) (by omega) (by omega) (by omega) (by omega)
  have u2 := pe_up (σ := σ) (t := 24 * L * w 6) (b := w 5 * w 7) (by omega) (by omega) (by omega) (by omega)
  have t1 := pe_tb (a := 24 * L + w 5 - 1) (b := w 5) (by omega) (by omega)
  have t2 := pe_tb (a := 24 * L * w 6 + w 5 * w 7 - 1) (b := w 5 * w 7) (by omega) (by omega)
  have hc : ∀ h : Int, 24 * L * w 6 ≤ h * (w 5 * w 7) ↔ 24 * w 6 * L ≤ h * w 5 * w 7 := fun h => by
    rw [Int.mul_assoc h, Int.mul_assoc 24 (w 6) L, Int.mul_comm (w 6) L, ← Int.mul_assoc 24 L (w 6)]
  by_cases c4 : 0 < w 4
  · by_cases c5 : 1 < w 4
    · refine ⟨min (min 100000 ((24 * L + w 5 - 1).tdiv (w 5))) ((24 * L * w 6 + w 5 * w 7 - 1).tdiv (w 5 * w 7)), by omega, ?_, fun h hh => ?_⟩
      · simp (disch := omega) only [f_X10_firstWornHour, f_X10_firstWornHour_32, q4, q5, q6, q7, u1, u2, Option.bind_some, qi, ql, qI_lt, qI_le, qI_eq, qI_L, qI_ix, qL_lt, qL_eq, q_nat, q_cs, ← Int32.ofInt_add, ← Int32.ofInt_sub, ← Int32.ofInt_mul, ← Int32.ofInt_neg, ← Int64.ofInt_add, ← Int64.ofInt_sub, ← Int64.ofInt_mul, ← Int64.ofInt_neg, pL_I, q_mx, q_mn, q_ab, q_abL, q_mnL, q_nn0, q_nn1, q_rr, q_b1, q_b0, q_T, q_F, q_iT, q_iF, q_d, q_in, q_wi, q_hC, q_hM, pT_i, pU_i, pS_i, pS_j, pS_0, Sum.elim_inl, Sum.elim_inr, if_pos, if_neg]
      · have v1 := pe_ceil (t := 24 * L) (b := w 5) (h := h) (by omega) (by omega)
        have v2 := pe_ceil (t := 24 * L * w 6) (b := w 5 * w 7) (h := h) (by omega) (by omega)
        rw [hc] at v2
        unfold pe_W
        omega
    · refine ⟨min 100000 ((24 * L + w 5 - 1).tdiv (w 5)), by omega, ?_, fun h hh => ?_⟩
      · simp (disch := omega) only [f_X10_firstWornHour, f_X10_firstWornHour_32, q4, q5, u1, Option.bind_some, qi, ql, qI_lt, qI_le, qI_eq, qI_L, qI_ix, qL_lt, qL_eq, q_nat, q_cs, ← Int32.ofInt_add, ← Int32.ofInt_sub, ← Int32.ofInt_mul, ← Int32.ofInt_neg, ← Int64.ofInt_add, ← Int64.ofInt_sub, ← Int64.ofInt_mul, ← Int64.ofInt_neg, pL_I, q_mx, q_mn, q_ab, q_abL, q_mnL, q_nn0, q_nn1, q_rr, q_b1, q_b0, q_T, q_F, q_iT, q_iF, q_d, q_in, q_wi, q_hC, q_hM, pT_i, pU_i, pS_i, pS_j, pS_0, Sum.elim_inl, Sum.elim_inr, if_pos, if_neg]
      · have v1 := pe_ceil (t := 24 * L) (b := w 5) (h := h) (by omega) (by omega)
        unfold pe_W
        omega
  · refine ⟨100000, by omega, ?_, fun h hh => ?_⟩
    · simp (disch := omega) only [f_X10_firstWornHour, f_X10_firstWornHour_32, q4, Option.bind_some, qi, ql, qI_lt, qI_le, qI_eq, qI_L, qI_ix, qL_lt, qL_eq, q_nat, q_cs, ← Int32.ofInt_add, ← Int32.ofInt_sub, ← Int32.ofInt_mul, ← Int32.ofInt_neg, ← Int64.ofInt_add, ← Int64.ofInt_sub, ← Int64.ofInt_mul, ← Int64.ofInt_neg, pL_I, q_mx, q_mn, q_ab, q_abL, q_mnL, q_nn0, q_nn1, q_rr, q_b1, q_b0, q_T, q_F, q_iT, q_iF, q_d, q_in, q_wi, q_hC, q_hM, pT_i, pU_i, pS_i, pS_j, pS_0, Sum.elim_inl, Sum.elim_inr, if_pos, if_neg]
    · unfold pe_W
      omega
theorem pe_worn {σ : am_H} {m wc : Nat} {ws : Nat → Nat → Int} {z : Int} (M : ph_M σ m wc ws z) (hm : m < 3) {L h : Int} (l0 : 1 ≤ L) (l1 : L ≤ 9999999) (h0 : 0 ≤ h) (h1 : h ≤ 99999) : ∃ b : Bool, f_X12_isWorn (Int32.ofInt m) (Int32.ofInt h) (Int32.ofInt L) σ = some b ∧ (b = true ↔ ∃ i, i < wc ∧ pe_W (ws i) L h) := by
  obtain ⟨d1, d2, d3, d4, d5⟩ := M
  have one : ∀ i : Nat, i < wc → ∃ r : Unit ⊕ Unit, am_loop (fun s : Int32 => f_X12_isWorn_17 (Int32.ofInt m) (Int32.ofInt h) (Int32.ofInt L) (Int32.ofInt i) s σ) (Int32.ofInt 0) = some r ∧ (r = .inl () ↔ pe_W (ws i) L h) := by
    intro i hi
    obtain ⟨ok, Mw⟩ := d5 i hi
    obtain ⟨o0, o1, o2, o3, o4, -⟩ := pm_o Mw hm (by omega)
    have w0 := pe_M ok Mw hm (by omega) (k := 0) (by omega) (by omega) h0 h1
    have w2 := pe_M ok Mw hm (by omega) (k := 2) (by omega) (by omega) h0 h1
    have pr := pe_pr ok h0 h1
    obtain ⟨-, -, -, -, ⟨k4, k4'⟩, ⟨a1, a2⟩, ⟨b1, b2⟩, ⟨c1, c2⟩, ⟨e1, e2⟩⟩ := ok
    have f0 := pe_floor (x := h * ws i 5) (c := 24) (L := L) (by omega) (by omega)
    have f2 := pe_floor (x := h * ws i 5 * ws i 7) (c := 24 * ws i 6) (L := L) (by omega) (by omega)
    rw [Int.mul_comm L] at f2
    have g0 : pe_wear (ws i) 0 h = (h * ws i 5).tdiv 24 := by unfold pe_wear; rw [if_pos (by omega)]
    have g2 : pe_wear (ws i) 2 h = (h * ws i 5 * ws i 7).tdiv (24 * ws i 6) := by unfold pe_wear; rw [if_neg (by omega)]
    have t0 := pe_tb (a := h * ws i 5) (b := 24) (by omega) (by omega)
    have t2 := pe_tb (a := h * ws i 5 * ws i 7) (b := 24 * ws i 6) (by omega) (by omega)
    rw [g0] at w0
    rw [g2] at w2
    by_cases c4 : 0 < ws i 4
    · by_cases c0 : (h * ws i 5).tdiv 24 < L
      · by_cases c5 : 1 < ws i 4
        · by_cases c6 : (h * ws i 5 * ws i 7).tdiv (24 * ws i 6) < L
          · refine ⟨.inr (), ?_, ⟨fun z => (by cases z), fun z => absurd z (by unfold pe_W; omega)⟩⟩
            refine (am_loop_in (s' := Int32.ofInt 2) ?_).trans ((am_loop_in (s' := Int32.ofInt 4) ?_).trans (am_loop_out ?_))
            · simp (disch := omega) only [f_X12_isWorn_17, f_X12_wheels, o4, w0, Option.bind_some, qi, ql, qI_lt, qI_le, qI_eq, qI_L, qI_ix, qL_lt, qL_eq, q_nat, q_cs, ← Int32.ofInt_add, ← Int32.ofInt_sub, ← Int32.ofInt_mul, ← Int32.ofInt_neg, ← Int64.ofInt_add, ← Int64.ofInt_sub, ← Int64.ofInt_mul, ← Int64.ofInt_neg, pL_I, q_mx, q_mn, q_ab, q_abL, q_mnL, q_nn0, q_nn1, q_rr, q_b1, q_b0, q_T, q_F, q_iT, q_iF, q_d, q_in, q_wi, q_hC, q_hM, pT_i, pU_i, pS_i, pS_j, pS_0, Sum.elim_inl, Sum.elim_inr, if_pos, if_neg]
              try rfl
            · simp (disch := omega) only [f_X12_isWorn_17, f_X12_wheels, o4, w2, Option.bind_some, qi, ql, qI_lt, qI_le, qI_eq, qI_L, qI_ix, qL_lt, qL_eq, q_nat, q_cs, ← Int32.ofInt_add, ← Int32.ofInt_sub, ← Int32.ofInt_mul, ← Int32.ofInt_neg, ← Int64.ofInt_add, ← Int64.ofInt_sub, ← Int64.ofInt_mul, ← Int64.ofInt_neg, pL_I, q_mx, q_mn, q_ab, q_abL, q_mnL, q_nn0, q_nn1, q_rr, q_b1, q_b0, q_T, q_F, q_iT, q_iF, q_d, q_in, q_wi, q_hC, q_hM, pT_i, pU_i, pS_i, pS_j, pS_0, Sum.elim_inl, Sum.elim_inr, if_pos, if_neg]
              try rfl
            · simp (disch := omega) only [f_X12_isWorn_17, f_X12_wheels, o4, Option.bind_some, qi, ql, qI_lt, qI_le, qI_eq, qI_L, qI_ix, qL_lt, qL_eq, q_nat, q_cs, ← Int32.ofInt_add, ← Int32.ofInt_sub, ← Int32.ofInt_mul, ← Int32.ofInt_neg, ← Int64.ofInt_add, ← Int64.ofInt_sub, ← Int64.ofInt_mul, ← Int64.ofInt_neg, pL_I, q_mx, q_mn, q_ab, q_abL, q_mnL, q_nn0, q_nn1, q_rr, q_b1, q_b0, q_T, q_F, q_iT, q_iF, q_d, q_in, q_wi, q_hC, q_hM, pT_i, pU_i, pS_i, pS_j, pS_0, Sum.elim_inl, Sum.elim_inr, if_pos, if_neg]
          · refine ⟨.inl (), ?_, ⟨fun z => (by unfold pe_W; omega), fun z => rfl⟩⟩
            refine (am_loop_in (s' := Int32.ofInt 2) ?_).trans (am_loop_out ?_)
            · simp (disch := omega) only [f_X12_isWorn_17, f_X12_wheels, o4, w0, Option.bind_some, qi, ql, qI_lt, qI_le, qI_eq, qI_L, qI_ix, qL_lt, qL_eq, q_nat, q_cs, ← Int32.ofInt_add, ← Int32.ofInt_sub, ← Int32.ofInt_mul, ← Int32.ofInt_neg, ← Int64.ofInt_add, ← Int64.ofInt_sub, ← Int64.ofInt_mul, ← Int64.ofInt_neg, pL_I, q_mx, q_mn, q_ab, q_abL, q_mnL, q_nn0, q_nn1, q_rr, q_b1, q_b0, q_T, q_F, q_iT, q_iF, q_d, q_in, q_wi, q_hC, q_hM, pT_i, pU_i, pS_i, pS_j, pS_0, Sum.elim_inl, Sum.elim_inr, if_pos, if_neg]
              try rfl
            · simp (disch := omega) only [f_X12_isWorn_17, f_X12_wheels, o4, w2, Option.bind_some, qi, ql, qI_lt, qI_le, qI_eq, qI_L, qI_ix, qL_lt, qL_eq, q_nat, q_cs, ← Int32.ofInt_add, ← Int32.ofInt_sub, ← Int32.ofInt_mul, ← Int32.ofInt_neg, ← Int64.ofInt_add, ← Int64.ofInt_sub, ← Int64.ofInt_mul, ← Int64.ofInt_neg, pL_I, q_mx, q_mn, q_ab, q_abL, q_mnL, q_nn0, q_nn1, q_rr, q_b1, q_b0, q_T, q_F, q_iT, q_iF, q_d, q_in, q_wi, q_hC, q_hM, pT_i, pU_i, pS_i, pS_j, pS_0, Sum.elim_inl, Sum.elim_inr, if_pos, if_neg]
        · refine ⟨.inr (), ?_, ⟨fun z => (by cases z), fun z => absurd z (by unfold pe_W; omega)⟩⟩
          refine (am_loop_in (s' := Int32.ofInt 2) ?_).trans (am_loop_out ?_)
          · simp (disch := omega) only [f_X12_isWorn_17, f_X12_wheels, o4, w0, Option.bind_some, qi, ql, qI_lt, qI_le, qI_eq, qI_L, qI_ix, qL_lt, qL_eq, q_nat, q_cs, ← Int32.ofInt_add, ← Int32.ofInt_sub, ← Int32.ofInt_mul, ← Int32.ofInt_neg, ← Int64.ofInt_add, ← Int64.ofInt_sub, ← Int64.ofInt_mul, ← Int64.ofInt_neg, pL_I, q_mx, q_mn, q_ab, q_abL, q_mnL, q_nn0, q_nn1, q_rr, q_b1, q_b0, q_T, q_F, q_iT, q_iF, q_d, q_in, q_wi, q_hC, q_hM, pT_i, pU_i, pS_i, pS_j, pS_0, Sum.elim_inl, Sum.elim_inr, if_pos, if_neg]
            try rfl
          · simp (disch := omega) only [f_X12_isWorn_17, f_X12_wheels, o4, Option.bind_some, qi, ql, qI_lt, qI_le, qI_eq, qI_L, qI_ix, qL_lt, qL_eq, q_nat, q_cs, ← Int32.ofInt_add, ← Int32.ofInt_sub, ← Int32.ofInt_mul, ← Int32.ofInt_neg, ← Int64.ofInt_add, ← Int64.ofInt_sub, ← Int64.ofInt_mul, ← Int64.ofInt_neg, pL_I, q_mx, q_mn, q_ab, q_abL, q_mnL, q_nn0, q_nn1, q_rr, q_b1, q_b0, q_T, q_F, q_iT, q_iF, q_d, q_in, q_wi, q_hC, q_hM, pT_i, pU_i, pS_i, pS_j, pS_0, Sum.elim_inl, Sum.elim_inr, if_pos, if_neg]
      · refine ⟨.inl (), ?_, ⟨fun z => (by unfold pe_W; omega), fun z => rfl⟩⟩
        rw [am_loop_eq]
        simp (disch := omega) only [f_X12_isWorn_17, f_X12_wheels, o4, w0, Option.bind_some, qi, ql, qI_lt, qI_le, qI_eq, qI_L, qI_ix, qL_lt, qL_eq, q_nat, q_cs, ← Int32.ofInt_add, ← Int32.ofInt_sub, ← Int32.ofInt_mul, ← Int32.ofInt_neg, ← Int64.ofInt_add, ← Int64.ofInt_sub, ← Int64.ofInt_mul, ← Int64.ofInt_neg, pL_I, q_mx, q_mn, q_ab, q_abL, q_mnL, q_nn0, q_nn1, q_rr, q_b1, q_b0, q_T, q_F, q_iT, q_iF, q_d, q_in, q_wi, q_hC, q_hM, pT_i, pU_i, pS_i, pS_j, pS_0, Sum.elim_inl, Sum.elim_inr, if_pos, if_neg]
    · refine ⟨.inr (), ?_, ⟨fun z => (by cases z), fun z => absurd z (by unfold pe_W; omega)⟩⟩
      rw [am_loop_eq]
      simp (disch := omega) only [f_X12_isWorn_17, f_X12_wheels, o4, Option.bind_some, qi, ql, qI_lt, qI_le, qI_eq, qI_L, qI_ix, qL_lt, qL_eq, q_nat, q_cs, ← Int32.ofInt_add, ← Int32.ofInt_sub, ← Int32.ofInt_mul, ← Int32.ofInt_neg, ← Int64.ofInt_add, ← Int64.ofInt_sub, ← Int64.ofInt_mul, ← Int64.ofInt_neg, pL_I, q_mx, q_mn, q_ab, q_abL, q_mnL, q_nn0, q_nn1, q_rr, q_b1, q_b0, q_T, q_F, q_iT, q_iF, q_d, q_in, q_wi, q_hC, q_hM, pT_i, pU_i, pS_i, pS_j, pS_0, Sum.elim_inl, Sum.elim_inr, if_pos, if_neg]
  obtain ⟨r, k1, k2⟩ := am_loop_1 (B := fun s : Int32 => f_X12_isWorn_3 (Int32.ofInt m) (Int32.ofInt h) (Int32.ofInt L) s σ) (fun n s => ∃ i : Nat, s = Int32.ofInt i ∧ i ≤ wc ∧ (∀ j, j < i → ¬ pe_W (ws j) L h) ∧ n = wc - i) (fun r => r = .inl () ↔ ∃ i, i < wc ∧ pe_W (ws i) L h) (by
    rintro n s ⟨i, rfl, hi, hj, rfl⟩
    by_cases c : i < wc
    · obtain ⟨r, q1, q2⟩ := one i c
      cases r with
      | inl t =>
        left
        refine ⟨.inl (), ?_, ⟨fun _ => ⟨i, c, q2.mp rfl⟩, fun _ => rfl⟩⟩
        simp (disch := omega) only [f_X12_isWorn_3, d2, q1, Option.bind_some, qi, ql, qI_lt, qI_le, qI_eq, qI_L, qI_ix, qL_lt, qL_eq, q_nat, q_cs, ← Int32.ofInt_add, ← Int32.ofInt_sub, ← Int32.ofInt_mul, ← Int32.ofInt_neg, ← Int64.ofInt_add, ← Int64.ofInt_sub, ← Int64.ofInt_mul, ← Int64.ofInt_neg, pL_I, q_mx, q_mn, q_ab, q_abL, q_mnL, q_nn0, q_nn1, q_rr, q_b1, q_b0, q_T, q_F, q_iT, q_iF, q_d, q_in, q_wi, q_hC, q_hM, pT_i, pU_i, pS_i, pS_j, pS_0, Sum.elim_inl, Sum.elim_inr, if_pos, if_neg]
      | inr t =>
        right
        refine ⟨Int32.ofInt ((i : Int) + 1), wc - (i + 1), ?_, by omega, i + 1, rfl, by omega, fun j hj' => ?_, rfl⟩
        · simp (disch := omega) only [f_X12_isWorn_3, d2, q1, Option.bind_some, qi, ql, qI_lt, qI_le, qI_eq, qI_L, qI_ix, qL_lt, qL_eq, q_nat, q_cs, ← Int32.ofInt_add, ← Int32.ofInt_sub, ← Int32.ofInt_mul, ← Int32.ofInt_neg, ← Int64.ofInt_add, ← Int64.ofInt_sub, ← Int64.ofInt_mul, ← Int64.ofInt_neg, pL_I, q_mx, q_mn, q_ab, q_abL, q_mnL, q_nn0, q_nn1, q_rr, q_b1, q_b0, q_T, q_F, q_iT, q_iF, q_d, q_in, q_wi, q_hC, q_hM, pT_i, pU_i, pS_i, pS_j, pS_0, Sum.elim_inl, Sum.elim_inr, if_pos, if_neg]
        · by_cases cj : j = i
          · subst cj
            intro z
            have := q2.mpr z
            cases this
          · exact hj j (by omega)
    · left
      refine ⟨.inr (), ?_, ⟨fun z => (by cases z), fun ⟨j, hj1, hj2⟩ => absurd hj2 (hj j (by omega))⟩⟩
      simp (disch := omega) only [f_X12_isWorn_3, d2, Option.bind_some, qi, ql, qI_lt, qI_le, qI_eq, qI_L, qI_ix, qL_lt, qL_eq, q_nat, q_cs, ← Int32.ofInt_add, ← Int32.ofInt_sub, ← Int32.ofInt_mul, ← Int32.ofInt_neg, ← Int64.ofInt_add, ← Int64.ofInt_sub, ← Int64.ofInt_mul, ← Int64.ofInt_neg, pL_I, q_mx, q_mn, q_ab, q_abL, q_mnL, q_nn0, q_nn1, q_rr, q_b1, q_b0, q_T, q_F, q_iT, q_iF, q_d, q_in, q_wi, q_hC, q_hM, pT_i, pU_i, pS_i, pS_j, pS_0, Sum.elim_inl, Sum.elim_inr, if_pos, if_neg]) _ (Int32.ofInt 0) ⟨0, rfl, by omega, fun j hj => by omega, rfl⟩
  cases r with
  | inl t =>
    refine ⟨true, ?_, ⟨fun _ => k2.mp rfl, fun _ => rfl⟩⟩
    simp (disch := omega) only [f_X12_isWorn, k1, Option.bind_some, qi, ql, qI_lt, qI_le, qI_eq, qI_L, qI_ix, qL_lt, qL_eq, q_nat, q_cs, ← Int32.ofInt_add, ← Int32.ofInt_sub, ← Int32.ofInt_mul, ← Int32.ofInt_neg, ← Int64.ofInt_add, ← Int64.ofInt_sub, ← Int64.ofInt_mul, ← Int64.ofInt_neg, pL_I, q_mx, q_mn, q_ab, q_abL, q_mnL, q_nn0, q_nn1, q_rr, q_b1, q_b0, q_T, q_F, q_iT, q_iF, q_d, q_in, q_wi, q_hC, q_hM, pT_i, pU_i, pS_i, pS_j, pS_0, Sum.elim_inl, Sum.elim_inr, if_pos, if_neg]
  | inr t =>
    refine ⟨false, ?_, ⟨fun z => (by cases z), fun z => (by have := k2.mpr z; cases this)⟩⟩
    simp (disch := omega) only [f_X12_isWorn, k1, Option.bind_some, qi, ql, qI_lt, qI_le, qI_eq, qI_L, qI_ix, qL_lt, qL_eq, q_nat, q_cs, ← Int32.ofInt_add, ← Int32.ofInt_sub, ← Int32.ofInt_mul, ← Int32.ofInt_neg, ← Int64.ofInt_add, ← Int64.ofInt_sub, ← Int64.ofInt_mul, ← Int64.ofInt_neg, pL_I, q_mx, q_mn, q_ab, q_abL, q_mnL, q_nn0, q_nn1, q_rr, q_b1, q_b0, q_T, q_F, q_iT, q_iF, q_d, q_in, q_wi, q_hC, q_hM, pT_i, pU_i, pS_i, pS_j, pS_0, Sum.elim_inl, Sum.elim_inr, if_pos, if_neg]
theorem po_41 : am_op_41 pr_Rel := by
  intro σ1 σ2 h v1 v2
  obtain ⟨x, x1, x2, rfl⟩ := q_ex v1
  obtain ⟨L, l1, l2, rfl⟩ := q_ex v2
  rcases pr_m (h.2.S 0) x1 x2 with ⟨c, e1, e2⟩ | ⟨m, a, hm, ha, rfl, hr, e1, e2, M⟩
  · refine pr_ro h (Int32.ofInt (-1)) 2 ?_ ?_
    · simp (disch := omega) only [f_X11_lasts, f_X11_none, e1, Option.bind_some, qi, ql, qI_lt, qI_le, qI_eq, qI_L, qI_ix, qL_lt, qL_eq, q_nat, q_cs, ← Int32.ofInt_add, ← Int32.ofInt_sub, ← Int32.ofInt_mul, ← Int32.ofInt_neg, ← Int64.ofInt_add, ← Int64.ofInt_sub, ← Int64.ofInt_mul, ← Int64.ofInt_neg, pL_I, q_mx, q_mn, q_ab, q_abL, q_mnL, q_nn0, q_nn1, q_rr, q_b1, q_b0, q_T, q_F, q_iT, q_iF, q_d, q_in, q_wi, q_hC, q_hM, pT_i, pU_i, pS_i, pS_j, pS_0, Sum.elim_inl, Sum.elim_inr, if_pos, if_neg]
    · simp (disch := omega) only [f_X12_lasts, f_X12_refuse, e2, Option.bind_some, qi, ql, qI_lt, qI_le, qI_eq, qI_L, qI_ix, qL_lt, qL_eq, q_nat, q_cs, ← Int32.ofInt_add, ← Int32.ofInt_sub, ← Int32.ofInt_mul, ← Int32.ofInt_neg, ← Int64.ofInt_add, ← Int64.ofInt_sub, ← Int64.ofInt_mul, ← Int64.ofInt_neg, pL_I, q_mx, q_mn, q_ab, q_abL, q_mnL, q_nn0, q_nn1, q_rr, q_b1, q_b0, q_T, q_F, q_iT, q_iF, q_d, q_in, q_wi, q_hC, q_hM, pT_i, pU_i, pS_i, pS_j, pS_0, Sum.elim_inl, Sum.elim_inr, if_pos, if_neg]
  · by_cases cl : 1 ≤ L ∧ L ≤ 9999999
    · obtain ⟨wc, ws, zr, sl, kc, kw, kt, ⟨c1, c2, c3, c4, c5⟩, M, -⟩ := M
      obtain ⟨F, k1, F0, F1, hF⟩ := am_loop_1 (B := fun s : Int64 × Int32 => f_X3_firstWornHour_7 a (Int32.ofInt L) s.1 s.2 σ1) (fun n s => ∃ (f : Int) (i : Nat), s = (Int64.ofInt f, Int32.ofInt i) ∧ i ≤ wc ∧ (0 ≤ f ∧ f ≤ 100000) ∧ (∀ h : Int, h ≤ 99999 → (f ≤ h ↔ ∃ j, j < i ∧ pe_W (ws j) L h)) ∧ n = wc - i) (fun r => ∃ f : Int, r = Int64.ofInt f ∧ (0 ≤ f ∧ f ≤ 100000) ∧ (∀ h : Int, h ≤ 99999 → (f ≤ h ↔ ∃ j, j < wc ∧ pe_W (ws j) L h))) (by
        rintro n s ⟨f, i, rfl, hi, hf, hW, rfl⟩
        by_cases c : i < wc
        · right
          obtain ⟨ok, Cw⟩ := c5 i c
          obtain ⟨g, gb, g1, g2⟩ := pe_first ok Cw cl.1 cl.2
          refine ⟨(Int64.ofInt (min f g), Int32.ofInt ((i : Int) + 1)), wc - (i + 1), ?_, by omega, min f g, i + 1, rfl, by omega, by omega, fun h hh => ?_, rfl⟩
          · simp (disch := omega) only [f_X3_firstWornHour_7, c2, g1, Option.bind_some, qi, ql, qI_lt, qI_le, qI_eq, qI_L, qI_ix, qL_lt, qL_eq, q_nat, q_cs, ← Int32.ofInt_add, ← Int32.ofInt_sub, ← Int32.ofInt_mul, ← Int32.ofInt_neg, ← Int64.ofInt_add, ← Int64.ofInt_sub, ← Int64.ofInt_mul, ← Int64.ofInt_neg, pL_I, q_mx, q_mn, q_ab, q_abL, q_mnL, q_nn0, q_nn1, q_rr, q_b1, q_b0, q_T, q_F, q_iT, q_iF, q_d, q_in, q_wi, q_hC, q_hM, pT_i, pU_i, pS_i, pS_j, pS_0, Sum.elim_inl, Sum.elim_inr, if_pos, if_neg]
          · have a1 := hW h hh
            have a2 := g2 h hh
            constructor
            · intro q
              by_cases q1 : f ≤ h
              · obtain ⟨j, j1, j2⟩ := a1.mp q1
                exact ⟨j, by omega, j2⟩
              · exact ⟨i, by omega, a2.mp (by omega)⟩
            · rintro ⟨j, j1, j2⟩
              by_cases cj : j = i
              · subst cj
                have := a2.mpr j2
                omega
              · have := a1.mpr ⟨j, by omega, j2⟩
                omega
        · left
          have : i = wc := by omega
          subst this
          refine ⟨Int64.ofInt f, ?_, f, rfl, hf, hW⟩
          simp (disch := omega) only [f_X3_firstWornHour_7, c2, Option.bind_some, qi, ql, qI_lt, qI_le, qI_eq, qI_L, qI_ix, qL_lt, qL_eq, q_nat, q_cs, ← Int32.ofInt_add, ← Int32.ofInt_sub, ← Int32.ofInt_mul, ← Int32.ofInt_neg, ← Int64.ofInt_add, ← Int64.ofInt_sub, ← Int64.ofInt_mul, ← Int64.ofInt_neg, pL_I, q_mx, q_mn, q_ab, q_abL, q_mnL, q_nn0, q_nn1, q_rr, q_b1, q_b0, q_T, q_F, q_iT, q_iF, q_d, q_in, q_wi, q_hC, q_hM, pT_i, pU_i, pS_i, pS_j, pS_0, Sum.elim_inl, Sum.elim_inr, if_pos, if_neg]) _ (Int64.ofInt 100000, Int32.ofInt 0) ⟨100000, 0, rfl, by omega, by omega, fun h hh => ⟨fun q => by omega, fun ⟨j, j1, _⟩ => by omega⟩, rfl⟩
      obtain ⟨f, rfl, ⟨f0, f1⟩, hW⟩ : ∃ f : Int, F = Int64.ofInt f ∧ (0 ≤ f ∧ f ≤ 100000) ∧ (∀ h : Int, h ≤ 99999 → (f ≤ h ↔ ∃ j, j < wc ∧ pe_W (ws j) L h)) := ⟨F0, F1, hF⟩
      obtain ⟨b, b1, b2⟩ := pe_worn M (by omega) cl.1 cl.2 (h := 99999) (by omega) (by omega)
      rw [← hW 99999 (by omega)] at b2
      by_cases cf : f ≤ 99999
      · have bt := b2.mpr cf
        subst bt
        obtain ⟨r, k2, hr2⟩ := am_loop_1 (B := fun s : Int32 × Int32 => f_X12_lasts_67 (Int32.ofInt m) (Int32.ofInt L) s.1 s.2 (pS σ2 0)) (fun n s => ∃ lo hi : Int, s = (Int32.ofInt lo, Int32.ofInt hi) ∧ (0 ≤ lo ∧ lo ≤ f ∧ f ≤ hi ∧ hi ≤ 99999) ∧ n = (hi - lo).toNat) (fun r => r = Int32.ofInt f) (by
          rintro n s ⟨lo, hi, rfl, ⟨q1, q2, q3, q4⟩, rfl⟩
          by_cases c : lo < hi
          · right
            have em : (lo + hi).tdiv 2 = (lo + hi) / 2 := Int.tdiv_eq_ediv_of_nonneg (by omega)
            obtain ⟨b, b1, b2⟩ := pe_worn M (by omega) cl.1 cl.2 (h := (lo + hi) / 2) (by omega) (by omega)
            rw [← hW _ (by omega)] at b2
            by_cases cm : f ≤ (lo + hi) / 2
            · have bt := b2.mpr cm
              subst bt
              refine ⟨(Int32.ofInt lo, Int32.ofInt ((lo + hi) / 2)), _, ?_, ?_, _, _, rfl, by omega, rfl⟩
              · simp (disch := omega) only [f_X12_lasts_67, qI_div, em, b1, Option.bind_some, qi, ql, qI_lt, qI_le, qI_eq, qI_L, qI_ix, qL_lt, qL_eq, q_nat, q_cs, ← Int32.ofInt_add, ← Int32.ofInt_sub, ← Int32.ofInt_mul, ← Int32.ofInt_neg, ← Int64.ofInt_add, ← Int64.ofInt_sub, ← Int64.ofInt_mul, ← Int64.ofInt_neg, pL_I, q_mx, q_mn, q_ab, q_abL, q_mnL, q_nn0, q_nn1, q_rr, q_b1, q_b0, q_T, q_F, q_iT, q_iF, q_d, q_in, q_wi, q_hC, q_hM, pT_i, pU_i, pS_i, pS_j, pS_0, Sum.elim_inl, Sum.elim_inr, if_pos, if_neg]
              · omega
            · have bt : b = false := by
                cases b with
                | true => exact absurd (b2.mp rfl) cm
                | false => rfl
              subst bt
              refine ⟨(Int32.ofInt ((lo + hi) / 2 + 1), Int32.ofInt hi), _, ?_, ?_, _, _, rfl, by omega, rfl⟩
              · simp (disch := omega) only [f_X12_lasts_67, qI_div, em, b1, Option.bind_some, qi, ql, qI_lt, qI_le, qI_eq, qI_L, qI_ix, qL_lt, qL_eq, q_nat, q_cs, ← Int32.ofInt_add, ← Int32.ofInt_sub, ← Int32.ofInt_mul, ← Int32.ofInt_neg, ← Int64.ofInt_add, ← Int64.ofInt_sub, ← Int64.ofInt_mul, ← Int64.ofInt_neg, pL_I, q_mx, q_mn, q_ab, q_abL, q_mnL, q_nn0, q_nn1, q_rr, q_b1, q_b0, q_T, q_F, q_iT, q_iF, q_d, q_in, q_wi, q_hC, q_hM, pT_i, pU_i, pS_i, pS_j, pS_0, Sum.elim_inl, Sum.elim_inr, if_pos, if_neg]
              · omega
          · left
            have : lo = f := by omega
            subst this
            refine ⟨Int32.ofInt lo, ?_, rfl⟩
            simp (disch := omega) only [f_X12_lasts_67, Option.bind_some, qi, ql, qI_lt, qI_le, qI_eq, qI_L, qI_ix, qL_lt, qL_eq, q_nat, q_cs, ← Int32.ofInt_add, ← Int32.ofInt_sub, ← Int32.ofInt_mul, ← Int32.ofInt_neg, ← Int64.ofInt_add, ← Int64.ofInt_sub, ← Int64.ofInt_mul, ← Int64.ofInt_neg, pL_I, q_mx, q_mn, q_ab, q_abL, q_mnL, q_nn0, q_nn1, q_rr, q_b1, q_b0, q_T, q_F, q_iT, q_iF, q_d, q_in, q_wi, q_hC, q_hM, pT_i, pU_i, pS_i, pS_j, pS_0, Sum.elim_inl, Sum.elim_inr, if_pos, if_neg]) _ (Int32.ofInt 0, Int32.ofInt 99999) ⟨0, 99999, rfl, by omega, rfl⟩
        subst hr2
        refine pr_ro h (Int32.ofInt f) 0 ?_ ?_
        · simp (disch := omega) only [f_X11_lasts, f_X3_firstWornHour, f_X11_answer, e1, k1, Option.bind_some, qi, ql, qI_lt, qI_le, qI_eq, qI_L, qI_ix, qL_lt, qL_eq, q_nat, q_cs, ← Int32.ofInt_add, ← Int32.ofInt_sub, ← Int32.ofInt_mul, ← Int32.ofInt_neg, ← Int64.ofInt_add, ← Int64.ofInt_sub, ← Int64.ofInt_mul, ← Int64.ofInt_neg, pL_I, q_mx, q_mn, q_ab, q_abL, q_mnL, q_nn0, q_nn1, q_rr, q_b1, q_b0, q_T, q_F, q_iT, q_iF, q_d, q_in, q_wi, q_hC, q_hM, pT_i, pU_i, pS_i, pS_j, pS_0, Sum.elim_inl, Sum.elim_inr, if_pos, if_neg]
        · simp (disch := omega) only [f_X12_lasts, e2, b1, k2, Option.bind_some, qi, ql, qI_lt, qI_le, qI_eq, qI_L, qI_ix, qL_lt, qL_eq, q_nat, q_cs, ← Int32.ofInt_add, ← Int32.ofInt_sub, ← Int32.ofInt_mul, ← Int32.ofInt_neg, ← Int64.ofInt_add, ← Int64.ofInt_sub, ← Int64.ofInt_mul, ← Int64.ofInt_neg, pL_I, q_mx, q_mn, q_ab, q_abL, q_mnL, q_nn0, q_nn1, q_rr, q_b1, q_b0, q_T, q_F, q_iT, q_iF, q_d, q_in, q_wi, q_hC, q_hM, pT_i, pU_i, pS_i, pS_j, pS_0, Sum.elim_inl, Sum.elim_inr, if_pos, if_neg]
      · have bt : b = false := by
          cases b with
          | true => exact absurd (b2.mp rfl) cf
          | false => rfl
        subst bt
        refine pr_ro h (Int32.ofInt (-1)) 8 ?_ ?_
        · simp (disch := omega) only [f_X11_lasts, f_X3_firstWornHour, f_X11_none, e1, k1, Option.bind_some, qi, ql, qI_lt, qI_le, qI_eq, qI_L, qI_ix, qL_lt, qL_eq, q_nat, q_cs, ← Int32.ofInt_add, ← Int32.ofInt_sub, ← Int32.ofInt_mul, ← Int32.ofInt_neg, ← Int64.ofInt_add, ← Int64.ofInt_sub, ← Int64.ofInt_mul, ← Int64.ofInt_neg, pL_I, q_mx, q_mn, q_ab, q_abL, q_mnL, q_nn0, q_nn1, q_rr, q_b1, q_b0, q_T, q_F, q_iT, q_iF, q_d, q_in, q_wi, q_hC, q_hM, pT_i, pU_i, pS_i, pS_j, pS_0, Sum.elim_inl, Sum.elim_inr, if_pos, if_neg]
        · simp (disch := omega) only [f_X12_lasts, f_X12_refuse, e2, b1, Option.bind_some, qi, ql, qI_lt, qI_le, qI_eq, qI_L, qI_ix, qL_lt, qL_eq, q_nat, q_cs, ← Int32.ofInt_add, ← Int32.ofInt_sub, ← Int32.ofInt_mul, ← Int32.ofInt_neg, ← Int64.ofInt_add, ← Int64.ofInt_sub, ← Int64.ofInt_mul, ← Int64.ofInt_neg, pL_I, q_mx, q_mn, q_ab, q_abL, q_mnL, q_nn0, q_nn1, q_rr, q_b1, q_b0, q_T, q_F, q_iT, q_iF, q_d, q_in, q_wi, q_hC, q_hM, pT_i, pU_i, pS_i, pS_j, pS_0, Sum.elim_inl, Sum.elim_inr, if_pos, if_neg]
    · refine pr_ro h (Int32.ofInt (-1)) 5 ?_ ?_
      · simp (disch := omega) only [f_X11_lasts, f_X11_none, e1, Option.bind_some, qi, ql, qI_lt, qI_le, qI_eq, qI_L, qI_ix, qL_lt, qL_eq, q_nat, q_cs, ← Int32.ofInt_add, ← Int32.ofInt_sub, ← Int32.ofInt_mul, ← Int32.ofInt_neg, ← Int64.ofInt_add, ← Int64.ofInt_sub, ← Int64.ofInt_mul, ← Int64.ofInt_neg, pL_I, q_mx, q_mn, q_ab, q_abL, q_mnL, q_nn0, q_nn1, q_rr, q_b1, q_b0, q_T, q_F, q_iT, q_iF, q_d, q_in, q_wi, q_hC, q_hM, pT_i, pU_i, pS_i, pS_j, pS_0, Sum.elim_inl, Sum.elim_inr, if_pos, if_neg]
      · simp (disch := omega) only [f_X12_lasts, f_X12_refuse, e2, Option.bind_some, qi, ql, qI_lt, qI_le, qI_eq, qI_L, qI_ix, qL_lt, qL_eq, q_nat, q_cs, ← Int32.ofInt_add, ← Int32.ofInt_sub, ← Int32.ofInt_mul, ← Int32.ofInt_neg, ← Int64.ofInt_add, ← Int64.ofInt_sub, ← Int64.ofInt_mul, ← Int64.ofInt_neg, pL_I, q_mx, q_mn, q_ab, q_abL, q_mnL, q_nn0, q_nn1, q_rr, q_b1, q_b0, q_T, q_F, q_iT, q_iF, q_d, q_in, q_wi, q_hC, q_hM, pT_i, pU_i, pS_i, pS_j, pS_0, Sum.elim_inl, Sum.elim_inr, if_pos, if_neg]
