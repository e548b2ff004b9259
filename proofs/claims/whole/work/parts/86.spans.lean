/-! ===== two loops side by side ===== -/
theorem am_loop_2 {S1 R1 S2 R2 : Type} {B1 : S1 → Option (S1 ⊕ R1)} {B2 : S2 → Option (S2 ⊕ R2)} (P : Nat → S1 → S2 → Prop) (Q : R1 → R2 → Prop) (hs : ∀ n s1 s2, P n s1 s2 → (∃ r1 r2, B1 s1 = some (.inr r1) ∧ B2 s2 = some (.inr r2) ∧ Q r1 r2) ∨ (∃ s1' s2' n', B1 s1 = some (.inl s1') ∧ B2 s2 = some (.inl s2') ∧ n' < n ∧ P n' s1' s2')) : ∀ n s1 s2, P n s1 s2 → ∃ r1 r2, am_loop B1 s1 = some r1 ∧ am_loop B2 s2 = some r2 ∧ Q r1 r2 := by
  intro n
  induction n using Nat.strongRecOn with
  | ind n ih =>
    intro s1 s2 h
    rcases hs n s1 s2 h with ⟨r1, r2, e1, e2, hq⟩ | ⟨s1', s2', n', e1, e2, hn, hp⟩
    · exact ⟨r1, r2, by rw [am_loop_eq, e1], by rw [am_loop_eq, e2], hq⟩
    · obtain ⟨r1, r2, k1, k2, hq⟩ := ih n' hn s1' s2' hp
      exact ⟨r1, r2, by rw [am_loop_eq, e1]; exact k1, by rw [am_loop_eq, e2]; exact k2, hq⟩
theorem am_loop_1 {S R : Type} {B : S → Option (S ⊕ R)} (P : Nat → S → Prop) (Q : R → Prop) (hs : ∀ n s, P n s → (∃ r, B s = some (.inr r) ∧ Q r) ∨ (∃ s' n', B s = some (.inl s') ∧ n' < n ∧ P n' s')) : ∀ n s, P n s → ∃ r, am_loop B s = some r ∧ Q r := by
  intro n
  induction n using Nat.strongRecOn with
  | ind n ih =>
    intro s h
    rcases hs n s h with ⟨r, e, hq⟩ | ⟨s', n', e, hn, hp⟩
    · exact ⟨r, by rw [am_loop_eq, e], hq⟩
    · obtain ⟨r, k, hq⟩ := ih n' hn s' hp
      exact ⟨r, by rw [am_loop_eq, e]; exact k, hq⟩
/-- both sides' heights -/
theorem pr_H {σ1 σ2 : am_H} {m a : Nat} (hm : m < 3) (M : pr_mach σ1 σ2 m a) : ∃ H : Bool → Int → Int, ∀ b h, 0 ≤ h → h ≤ 200000 → f_X3_heightAt a (Int64.ofInt h) b σ1 = some (Int32.ofInt (H b h)) ∧ f_X12_heightOf (Int32.ofInt m) (Int32.ofInt h) b σ2 = some (Int32.ofInt (H b h)) ∧ -9000 ≤ H b h ∧ H b h ≤ 9000 := by
  obtain ⟨wc, ws, zr, sl, kc, kw, kt, C, M, -⟩ := M
  refine ⟨fun b h => ph_sum ws (max zr 0) h b wc, fun b h h0 h1 => ⟨ph_heightAt C h0 h1, ph_heightOf M hm h0 h1, ?_⟩⟩
  obtain ⟨c1, -, -, ⟨z1, z2⟩, c5⟩ := C
  have hb := ph_b (ws := ws) (z := max zr 0) (h := h) (b := b) (n := wc) (by omega) (fun i hi => (c5 i hi).1)
  show -9000 ≤ ph_sum ws (max zr 0) h b wc ∧ ph_sum ws (max zr 0) h b wc ≤ 9000
  omega
theorem q_spC {σ : am_H} {a b c : Int} (a1 : -2147483648 ≤ a) (a2 : a < 2147483648) (b1 : -2147483648 ≤ b) (b2 : b < 2147483648) (c1 : 0 ≤ c) (c2 : c < 2147483648) : f_X11_isSpan (Int32.ofInt a) (Int32.ofInt b) (Int32.ofInt c) σ = some (decide ((0 ≤ a ∧ a ≤ 99999) ∧ (0 ≤ b ∧ b ≤ 99999) ∧ a ≤ b ∧ b - a < c)) := by
  by_cases h1 : 0 ≤ a ∧ a ≤ 99999
  · by_cases h2 : 0 ≤ b ∧ b ≤ 99999
    · by_cases h3 : b < a
      · simp (disch := omega) only [f_X11_isSpan, Option.bind_some, qi, ql, qI_lt, qI_le, qI_eq, qI_L, qI_ix, qL_lt, qL_eq, q_nat, q_cs, ← Int32.ofInt_add, ← Int32.ofInt_sub, ← Int32.ofInt_mul, ← Int32.ofInt_neg, ← Int64.ofInt_add, ← Int64.ofInt_sub, ← Int64.ofInt_mul, ← Int64.ofInt_neg, pL_I, q_mx, q_mn, q_ab, q_abL, q_mnL, q_nn0, q_nn1, q_rr, q_b1, q_b0, q_T, q_F, q_iT, q_iF, q_d, q_in, q_wi, q_hC, q_hM, pT_i, pU_i, pS_i, pS_j, pS_0, Sum.elim_inl, Sum.elim_inr, if_pos, if_neg]
        rw [decide_eq_false (by omega)]
      · by_cases h4 : b - a < c
        · simp (disch := omega) only [f_X11_isSpan, Option.bind_some, qi, ql, qI_lt, qI_le, qI_eq, qI_L, qI_ix, qL_lt, qL_eq, q_nat, q_cs, ← Int32.ofInt_add, ← Int32.ofInt_sub, ← Int32.ofInt_mul, ← Int32.ofInt_neg, ← Int64.ofInt_add, ← Int64.ofInt_sub, ← Int64.ofInt_mul, ← Int64.ofInt_neg, pL_I, q_mx, q_mn, q_ab, q_abL, q_mnL, q_nn0, q_nn1, q_rr, q_b1, q_b0, q_T, q_F, q_iT, q_iF, q_d, q_in, q_wi, q_hC, q_hM, pT_i, pU_i, pS_i, pS_j, pS_0, Sum.elim_inl, Sum.elim_inr, if_pos, if_neg]
          rw [decide_eq_true (by omega)]
        · simp (disch := omega) only [f_X11_isSpan, Option.bind_some, qi, ql, qI_lt, qI_le, qI_eq, qI_L, qI_ix, qL_lt, qL_eq, q_nat, q_cs, ← Int32.ofInt_add, ← Int32.ofInt_sub, ← Int32.ofInt_mul, ← Int32.ofInt_neg, ← Int64.ofInt_add, ← Int64.ofInt_sub, ← Int64.ofInt_mul, ← Int64.ofInt_neg, pL_I, q_mx, q_mn, q_ab, q_abL, q_mnL, q_nn0, q_nn1, q_rr, q_b1, q_b0, q_T, q_F, q_iT, q_iF, q_d, q_in, q_wi, q_hC, q_hM, pT_i, pU_i, pS_i, pS_j, pS_0, Sum.elim_inl, Sum.elim_inr, if_pos, if_neg]
          rw [decide_eq_false (by omega)]
    · simp (disch := omega) only [f_X11_isSpan, Option.bind_some, qi, ql, qI_lt, qI_le, qI_eq, qI_L, qI_ix, qL_lt, qL_eq, q_nat, q_cs, ← Int32.ofInt_add, ← Int32.ofInt_sub, ← Int32.ofInt_mul, ← Int32.ofInt_neg, ← Int64.ofInt_add, ← Int64.ofInt_sub, ← Int64.ofInt_mul, ← Int64.ofInt_neg, pL_I, q_mx, q_mn, q_ab, q_abL, q_mnL, q_nn0, q_nn1, q_rr, q_b1, q_b0, q_T, q_F, q_iT, q_iF, q_d, q_in, q_wi, q_hC, q_hM, pT_i, pU_i, pS_i, pS_j, pS_0, Sum.elim_inl, Sum.elim_inr, if_pos, if_neg]
      rw [decide_eq_false (by omega)]
  · simp (disch := omega) only [f_X11_isSpan, Option.bind_some, qi, ql, qI_lt, qI_le, qI_eq, qI_L, qI_ix, qL_lt, qL_eq, q_nat, q_cs, ← Int32.ofInt_add, ← Int32.ofInt_sub, ← Int32.ofInt_mul, ← Int32.ofInt_neg, ← Int64.ofInt_add, ← Int64.ofInt_sub, ← Int64.ofInt_mul, ← Int64.ofInt_neg, pL_I, q_mx, q_mn, q_ab, q_abL, q_mnL, q_nn0, q_nn1, q_rr, q_b1, q_b0, q_T, q_F, q_iT, q_iF, q_d, q_in, q_wi, q_hC, q_hM, pT_i, pU_i, pS_i, pS_j, pS_0, Sum.elim_inl, Sum.elim_inr, if_pos, if_neg]
    rw [decide_eq_false (by omega)]
theorem q_spM {σ : am_H} {a b c : Int} (a1 : -2147483648 ≤ a) (a2 : a < 2147483648) (b1 : -2147483648 ≤ b) (b2 : b < 2147483648) (c1 : 0 ≤ c) (c2 : c < 2147483648) : f_X12_isSpan (Int32.ofInt a) (Int32.ofInt b) (Int32.ofInt c) σ = some (decide ((0 ≤ a ∧ a ≤ 99999) ∧ (0 ≤ b ∧ b ≤ 99999) ∧ a ≤ b ∧ b - a < c)) := by
  by_cases h1 : 0 ≤ a ∧ a ≤ 99999
  · by_cases h2 : 0 ≤ b ∧ b ≤ 99999
    · by_cases h3 : a ≤ b ∧ b - a < c
      · simp (disch := omega) only [f_X12_isSpan, Option.bind_some, qi, ql, qI_lt, qI_le, qI_eq, qI_L, qI_ix, qL_lt, qL_eq, q_nat, q_cs, ← Int32.ofInt_add, ← Int32.ofInt_sub, ← Int32.ofInt_mul, ← Int32.ofInt_neg, ← Int64.ofInt_add, ← Int64.ofInt_sub, ← Int64.ofInt_mul, ← Int64.ofInt_neg, pL_I, q_mx, q_mn, q_ab, q_abL, q_mnL, q_nn0, q_nn1, q_rr, q_b1, q_b0, q_T, q_F, q_iT, q_iF, q_d, q_in, q_wi, q_hC, q_hM, pT_i, pU_i, pS_i, pS_j, pS_0, Sum.elim_inl, Sum.elim_inr, if_pos, if_neg]
        rw [decide_eq_true (by omega)]
      · simp (disch := omega) only [f_X12_isSpan, Option.bind_some, qi, ql, qI_lt, qI_le, qI_eq, qI_L, qI_ix, qL_lt, qL_eq, q_nat, q_cs, ← Int32.ofInt_add, ← Int32.ofInt_sub, ← Int32.ofInt_mul, ← Int32.ofInt_neg, ← Int64.ofInt_add, ← Int64.ofInt_sub, ← Int64.ofInt_mul, ← Int64.ofInt_neg, pL_I, q_mx, q_mn, q_ab, q_abL, q_mnL, q_nn0, q_nn1, q_rr, q_b1, q_b0, q_T, q_F, q_iT, q_iF, q_d, q_in, q_wi, q_hC, q_hM, pT_i, pU_i, pS_i, pS_j, pS_0, Sum.elim_inl, Sum.elim_inr, if_pos, if_neg]
        rw [decide_eq_false (by omega)]
    · simp (disch := omega) only [f_X12_isSpan, Option.bind_some, qi, ql, qI_lt, qI_le, qI_eq, qI_L, qI_ix, qL_lt, qL_eq, q_nat, q_cs, ← Int32.ofInt_add, ← Int32.ofInt_sub, ← Int32.ofInt_mul, ← Int32.ofInt_neg, ← Int64.ofInt_add, ← Int64.ofInt_sub, ← Int64.ofInt_mul, ← Int64.ofInt_neg, pL_I, q_mx, q_mn, q_ab, q_abL, q_mnL, q_nn0, q_nn1, q_rr, q_b1, q_b0, q_T, q_F, q_iT, q_iF, q_d, q_in, q_wi, q_hC, q_hM, pT_i, pU_i, pS_i, pS_j, pS_0, Sum.elim_inl, Sum.elim_inr, if_pos, if_neg]
      rw [decide_eq_false (by omega)]
  · simp (disch := omega) only [f_X12_isSpan, Option.bind_some, qi, ql, qI_lt, qI_le, qI_eq, qI_L, qI_ix, qL_lt, qL_eq, q_nat, q_cs, ← Int32.ofInt_add, ← Int32.ofInt_sub, ← Int32.ofInt_mul, ← Int32.ofInt_neg, ← Int64.ofInt_add, ← Int64.ofInt_sub, ← Int64.ofInt_mul, ← Int64.ofInt_neg, pL_I, q_mx, q_mn, q_ab, q_abL, q_mnL, q_nn0, q_nn1, q_rr, q_b1, q_b0, q_T, q_F, q_iT, q_iF, q_d, q_in, q_wi, q_hC, q_hM, pT_i, pU_i, pS_i, pS_j, pS_0, Sum.elim_inl, Sum.elim_inr, if_pos, if_neg]
    rw [decide_eq_false (by omega)]
/-! ===== pointer, extreme, compare ===== -/
theorem po_15 : am_op_15 pr_Rel := by
  intro σ1 σ2 h v1 v2 v3
  obtain ⟨x, x1, x2, rfl⟩ := q_ex v1
  obtain ⟨y, y1, y2, rfl⟩ := q_ex v2
  obtain ⟨z, z1, z2, rfl⟩ := q_ex v3
  rcases pr_m (h.2.S 0) x1 x2 with ⟨c, e1, e2⟩ | ⟨m, a, hm, ha, rfl, hr, e1, e2, M⟩
  · refine pr_ro h (Int32.ofInt (-1)) 2 ?_ ?_
    · simp (disch := omega) only [f_X11_pointer, f_X11_none, e1, Option.bind_some, qi, ql, qI_lt, qI_le, qI_eq, qI_L, qI_ix, qL_lt, qL_eq, q_nat, q_cs, ← Int32.ofInt_add, ← Int32.ofInt_sub, ← Int32.ofInt_mul, ← Int32.ofInt_neg, ← Int64.ofInt_add, ← Int64.ofInt_sub, ← Int64.ofInt_mul, ← Int64.ofInt_neg, pL_I, q_mx, q_mn, q_ab, q_abL, q_mnL, q_nn0, q_nn1, q_rr, q_b1, q_b0, q_T, q_F, q_iT, q_iF, q_d, q_in, q_wi, q_hC, q_hM, pT_i, pU_i, pS_i, pS_j, pS_0, Sum.elim_inl, Sum.elim_inr, if_pos, if_neg]
    · simp (disch := omega) only [f_X12_pointer, f_X12_refuse, e2, Option.bind_some, qi, ql, qI_lt, qI_le, qI_eq, qI_L, qI_ix, qL_lt, qL_eq, q_nat, q_cs, ← Int32.ofInt_add, ← Int32.ofInt_sub, ← Int32.ofInt_mul, ← Int32.ofInt_neg, ← Int64.ofInt_add, ← Int64.ofInt_sub, ← Int64.ofInt_mul, ← Int64.ofInt_neg, pL_I, q_mx, q_mn, q_ab, q_abL, q_mnL, q_nn0, q_nn1, q_rr, q_b1, q_b0, q_T, q_F, q_iT, q_iF, q_d, q_in, q_wi, q_hC, q_hM, pT_i, pU_i, pS_i, pS_j, pS_0, Sum.elim_inl, Sum.elim_inr, if_pos, if_neg]
  · by_cases cz : (0 ≤ y ∧ y ≤ 99999) ∧ (0 ≤ z ∧ z ≤ 99999) ∧ y ≤ z ∧ z - y < 2001
    · obtain ⟨H, hH⟩ := pr_H (by omega) M
      obtain ⟨wc, ws, zr, sl, kc, kw, kt, -, -, -, s1, ⟨s2, s3⟩, s4, -⟩ := M
      obtain ⟨g1, g2, g3, g4⟩ := hH true y (by omega) (by omega)
      have ix : am_ix 3 (Int32.ofInt (m : Int)) = some m := by
        rw [qI_ix (by omega) (by omega) (by omega), q_nat]
      obtain ⟨r1, r2, k1, k2, hq⟩ := am_loop_2 (B1 := fun s : Int32 × Int32 => f_X3_pointerAt_23 a (Int32.ofInt z) (Int32.ofInt (max sl 0)) s.1 s.2 σ1) (B2 := fun s : Int32 × Int32 => f_X12_pointer_71 (Int32.ofInt m) (Int32.ofInt z) s.1 s.2 (pS σ2 0)) (fun n s1 s2 => ∃ t hh : Int, s1 = (Int32.ofInt t, Int32.ofInt hh) ∧ s2 = (Int32.ofInt t, Int32.ofInt hh) ∧ (-9100 ≤ t ∧ t ≤ 9100) ∧ (y + 1 ≤ hh ∧ hh ≤ z + 1) ∧ n = (z + 1 - hh).toNat) (fun r1 r2 => r1 = r2) (by
        rintro n s1 s2 ⟨t, hh, rfl, rfl, tb, hb, rfl⟩
        by_cases ce : z < hh
        · left
          refine ⟨Int32.ofInt t, Int32.ofInt t, ?_, ?_, rfl⟩
          · simp (disch := omega) only [f_X3_pointerAt_23, Option.bind_some, qi, ql, qI_lt, qI_le, qI_eq, qI_L, qI_ix, qL_lt, qL_eq, q_nat, q_cs, ← Int32.ofInt_add, ← Int32.ofInt_sub, ← Int32.ofInt_mul, ← Int32.ofInt_neg, ← Int64.ofInt_add, ← Int64.ofInt_sub, ← Int64.ofInt_mul, ← Int64.ofInt_neg, pL_I, q_mx, q_mn, q_ab, q_abL, q_mnL, q_nn0, q_nn1, q_rr, q_b1, q_b0, q_T, q_F, q_iT, q_iF, q_d, q_in, q_wi, q_hC, q_hM, pT_i, pU_i, pS_i, pS_j, pS_0, Sum.elim_inl, Sum.elim_inr, if_pos, if_neg]
          · simp (disch := omega) only [f_X12_pointer_71, Option.bind_some, qi, ql, qI_lt, qI_le, qI_eq, qI_L, qI_ix, qL_lt, qL_eq, q_nat, q_cs, ← Int32.ofInt_add, ← Int32.ofInt_sub, ← Int32.ofInt_mul, ← Int32.ofInt_neg, ← Int64.ofInt_add, ← Int64.ofInt_sub, ← Int64.ofInt_mul, ← Int64.ofInt_neg, pL_I, q_mx, q_mn, q_ab, q_abL, q_mnL, q_nn0, q_nn1, q_rr, q_b1, q_b0, q_T, q_F, q_iT, q_iF, q_d, q_in, q_wi, q_hC, q_hM, pT_i, pU_i, pS_i, pS_j, pS_0, Sum.elim_inl, Sum.elim_inr, if_pos, if_neg]
        · right
          obtain ⟨q1, q2, q3, q4⟩ := hH true hh (by omega) (by omega)
          by_cases c1 : t + max sl 0 < H true hh
          · refine ⟨(Int32.ofInt (H true hh - max sl 0), Int32.ofInt (hh + 1)), (Int32.ofInt (H true hh - max sl 0), Int32.ofInt (hh + 1)), (z + 1 - (hh + 1)).toNat, ?_, ?_, by omega, _, _, rfl, rfl, by omega, by omega, rfl⟩
            · simp (disch := omega) only [f_X3_pointerAt_23, q1, Option.bind_some, qi, ql, qI_lt, qI_le, qI_eq, qI_L, qI_ix, qL_lt, qL_eq, q_nat, q_cs, ← Int32.ofInt_add, ← Int32.ofInt_sub, ← Int32.ofInt_mul, ← Int32.ofInt_neg, ← Int64.ofInt_add, ← Int64.ofInt_sub, ← Int64.ofInt_mul, ← Int64.ofInt_neg, pL_I, q_mx, q_mn, q_ab, q_abL, q_mnL, q_nn0, q_nn1, q_rr, q_b1, q_b0, q_T, q_F, q_iT, q_iF, q_d, q_in, q_wi, q_hC, q_hM, pT_i, pU_i, pS_i, pS_j, pS_0, Sum.elim_inl, Sum.elim_inr, if_pos, if_neg]
            · simp (disch := omega) only [f_X12_pointer_71, q2, ix, s4, Option.bind_some, qi, ql, qI_lt, qI_le, qI_eq, qI_L, qI_ix, qL_lt, qL_eq, q_nat, q_cs, ← Int32.ofInt_add, ← Int32.ofInt_sub, ← Int32.ofInt_mul, ← Int32.ofInt_neg, ← Int64.ofInt_add, ← Int64.ofInt_sub, ← Int64.ofInt_mul, ← Int64.ofInt_neg, pL_I, q_mx, q_mn, q_ab, q_abL, q_mnL, q_nn0, q_nn1, q_rr, q_b1, q_b0, q_T, q_F, q_iT, q_iF, q_d, q_in, q_wi, q_hC, q_hM, pT_i, pU_i, pS_i, pS_j, pS_0, Sum.elim_inl, Sum.elim_inr, if_pos, if_neg]
          · by_cases c2 : H true hh < t - max sl 0
            · refine ⟨(Int32.ofInt (H true hh + max sl 0), Int32.ofInt (hh + 1)), (Int32.ofInt (H true hh + max sl 0), Int32.ofInt (hh + 1)), (z + 1 - (hh + 1)).toNat, ?_, ?_, by omega, _, _, rfl, rfl, by omega, by omega, rfl⟩
              · simp (disch := omega) only [f_X3_pointerAt_23, q1, Option.bind_some, qi, ql, qI_lt, qI_le, qI_eq, qI_L, qI_ix, qL_lt, qL_eq, q_nat, q_cs, ← Int32.ofInt_add, ← Int32.ofInt_sub, ← Int32.ofInt_mul, ← Int32.ofInt_neg, ← Int64.ofInt_add, ← Int64.ofInt_sub, ← Int64.ofInt_mul, ← Int64.ofInt_neg, pL_I, q_mx, q_mn, q_ab, q_abL, q_mnL, q_nn0, q_nn1, q_rr, q_b1, q_b0, q_T, q_F, q_iT, q_iF, q_d, q_in, q_wi, q_hC, q_hM, pT_i, pU_i, pS_i, pS_j, pS_0, Sum.elim_inl, Sum.elim_inr, if_pos, if_neg]
              · simp (disch := omega) only [f_X12_pointer_71, q2, ix, s4, Option.bind_some, qi, ql, qI_lt, qI_le, qI_eq, qI_L, qI_ix, qL_lt, qL_eq, q_nat, q_cs, ← Int32.ofInt_add, ← Int32.ofInt_sub, ← Int32.ofInt_mul, ← Int32.ofInt_neg, ← Int64.ofInt_add, ← Int64.ofInt_sub, ← Int64.ofInt_mul, ← Int64.ofInt_neg, pL_I, q_mx, q_mn, q_ab, q_abL, q_mnL, q_nn0, q_nn1, q_rr, q_b1, q_b0, q_T, q_F, q_iT, q_iF, q_d, q_in, q_wi, q_hC, q_hM, pT_i, pU_i, pS_i, pS_j, pS_0, Sum.elim_inl, Sum.elim_inr, if_pos, if_neg]
            · refine ⟨(Int32.ofInt t, Int32.ofInt (hh + 1)), (Int32.ofInt t, Int32.ofInt (hh + 1)), (z + 1 - (hh + 1)).toNat, ?_, ?_, by omega, _, _, rfl, rfl, by omega, by omega, rfl⟩
              · simp (disch := omega) only [f_X3_pointerAt_23, q1, Option.bind_some, qi, ql, qI_lt, qI_le, qI_eq, qI_L, qI_ix, qL_lt, qL_eq, q_nat, q_cs, ← Int32.ofInt_add, ← Int32.ofInt_sub, ← Int32.ofInt_mul, ← Int32.ofInt_neg, ← Int64.ofInt_add, ← Int64.ofInt_sub, ← Int64.ofInt_mul, ← Int64.ofInt_neg, pL_I, q_mx, q_mn, q_ab, q_abL, q_mnL, q_nn0, q_nn1, q_rr, q_b1, q_b0, q_T, q_F, q_iT, q_iF, q_d, q_in, q_wi, q_hC, q_hM, pT_i, pU_i, pS_i, pS_j, pS_0, Sum.elim_inl, Sum.elim_inr, if_pos, if_neg]
              · simp (disch := omega) only [f_X12_pointer_71, q2, ix, s4, Option.bind_some, qi, ql, qI_lt, qI_le, qI_eq, qI_L, qI_ix, qL_lt, qL_eq, q_nat, q_cs, ← Int32.ofInt_add, ← Int32.ofInt_sub, ← Int32.ofInt_mul, ← Int32.ofInt_neg, ← Int64.ofInt_add, ← Int64.ofInt_sub, ← Int64.ofInt_mul, ← Int64.ofInt_neg, pL_I, q_mx, q_mn, q_ab, q_abL, q_mnL, q_nn0, q_nn1, q_rr, q_b1, q_b0, q_T, q_F, q_iT, q_iF, q_d, q_in, q_wi, q_hC, q_hM, pT_i, pU_i, pS_i, pS_j, pS_0, Sum.elim_inl, Sum.elim_inr, if_pos, if_neg]) _ (Int32.ofInt (H true y), Int32.ofInt (y + 1)) (Int32.ofInt (H true y), Int32.ofInt (y + 1)) ⟨_, _, rfl, rfl, by omega, by omega, rfl⟩
      subst hq
      refine pr_ro h r1 0 ?_ ?_
      · simp (disch := omega) only [f_X11_pointer, f_X11_answer, f_X3_pointerAt, e1, q_spC, g1, s1, k1, Option.bind_some, qi, ql, qI_lt, qI_le, qI_eq, qI_L, qI_ix, qL_lt, qL_eq, q_nat, q_cs, ← Int32.ofInt_add, ← Int32.ofInt_sub, ← Int32.ofInt_mul, ← Int32.ofInt_neg, ← Int64.ofInt_add, ← Int64.ofInt_sub, ← Int64.ofInt_mul, ← Int64.ofInt_neg, pL_I, q_mx, q_mn, q_ab, q_abL, q_mnL, q_nn0, q_nn1, q_rr, q_b1, q_b0, q_T, q_F, q_iT, q_iF, q_d, q_in, q_wi, q_hC, q_hM, pT_i, pU_i, pS_i, pS_j, pS_0, Sum.elim_inl, Sum.elim_inr, if_pos, if_neg]
      · simp (disch := omega) only [f_X12_pointer, e2, g2, k2, Option.bind_some, qi, ql, qI_lt, qI_le, qI_eq, qI_L, qI_ix, qL_lt, qL_eq, q_nat, q_cs, ← Int32.ofInt_add, ← Int32.ofInt_sub, ← Int32.ofInt_mul, ← Int32.ofInt_neg, ← Int64.ofInt_add, ← Int64.ofInt_sub, ← Int64.ofInt_mul, ← Int64.ofInt_neg, pL_I, q_mx, q_mn, q_ab, q_abL, q_mnL, q_nn0, q_nn1, q_rr, q_b1, q_b0, q_T, q_F, q_iT, q_iF, q_d, q_in, q_wi, q_hC, q_hM, pT_i, pU_i, pS_i, pS_j, pS_0, Sum.elim_inl, Sum.elim_inr, if_pos, if_neg]
    · refine pr_ro h (Int32.ofInt (-1)) 5 ?_ ?_
      · simp (disch := omega) only [f_X11_pointer, f_X11_none, e1, q_spC, Option.bind_some, qi, ql, qI_lt, qI_le, qI_eq, qI_L, qI_ix, qL_lt, qL_eq, q_nat, q_cs, ← Int32.ofInt_add, ← Int32.ofInt_sub, ← Int32.ofInt_mul, ← Int32.ofInt_neg, ← Int64.ofInt_add, ← Int64.ofInt_sub, ← Int64.ofInt_mul, ← Int64.ofInt_neg, pL_I, q_mx, q_mn, q_ab, q_abL, q_mnL, q_nn0, q_nn1, q_rr, q_b1, q_b0, q_T, q_F, q_iT, q_iF, q_d, q_in, q_wi, q_hC, q_hM, pT_i, pU_i, pS_i, pS_j, pS_0, Sum.elim_inl, Sum.elim_inr, if_pos, if_neg]
      · by_cases c1 : 0 ≤ y ∧ y ≤ 99999
        · by_cases c2 : 0 ≤ z ∧ z ≤ 99999
          · simp (disch := omega) only [f_X12_pointer, f_X12_pointer_51, f_X12_refuse, e2, Option.bind_some, qi, ql, qI_lt, qI_le, qI_eq, qI_L, qI_ix, qL_lt, qL_eq, q_nat, q_cs, ← Int32.ofInt_add, ← Int32.ofInt_sub, ← Int32.ofInt_mul, ← Int32.ofInt_neg, ← Int64.ofInt_add, ← Int64.ofInt_sub, ← Int64.ofInt_mul, ← Int64.ofInt_neg, pL_I, q_mx, q_mn, q_ab, q_abL, q_mnL, q_nn0, q_nn1, q_rr, q_b1, q_b0, q_T, q_F, q_iT, q_iF, q_d, q_in, q_wi, q_hC, q_hM, pT_i, pU_i, pS_i, pS_j, pS_0, Sum.elim_inl, Sum.elim_inr, if_pos, if_neg]
          · simp (disch := omega) only [f_X12_pointer, f_X12_pointer_51, f_X12_refuse, e2, Option.bind_some, qi, ql, qI_lt, qI_le, qI_eq, qI_L, qI_ix, qL_lt, qL_eq, q_nat, q_cs, ← Int32.ofInt_add, ← Int32.ofInt_sub, ← Int32.ofInt_mul, ← Int32.ofInt_neg, ← Int64.ofInt_add, ← Int64.ofInt_sub, ← Int64.ofInt_mul, ← Int64.ofInt_neg, pL_I, q_mx, q_mn, q_ab, q_abL, q_mnL, q_nn0, q_nn1, q_rr, q_b1, q_b0, q_T, q_F, q_iT, q_iF, q_d, q_in, q_wi, q_hC, q_hM, pT_i, pU_i, pS_i, pS_j, pS_0, Sum.elim_inl, Sum.elim_inr, if_pos, if_neg]
        · simp (disch := omega) only [f_X12_pointer, f_X12_pointer_51, f_X12_refuse, e2, Option.bind_some, qi, ql, qI_lt, qI_le, qI_eq, qI_L, qI_ix, qL_lt, qL_eq, q_nat, q_cs, ← Int32.ofInt_add, ← Int32.ofInt_sub, ← Int32.ofInt_mul, ← Int32.ofInt_neg, ← Int64.ofInt_add, ← Int64.ofInt_sub, ← Int64.ofInt_mul, ← Int64.ofInt_neg, pL_I, q_mx, q_mn, q_ab, q_abL, q_mnL, q_nn0, q_nn1, q_rr, q_b1, q_b0, q_T, q_F, q_iT, q_iF, q_d, q_in, q_wi, q_hC, q_hM, pT_i, pU_i, pS_i, pS_j, pS_0, Sum.elim_inl, Sum.elim_inr, if_pos, if_neg]
/-- the HOUR of the extreme, by heights H -/
theorem px_ext {σ1 σ2 : am_H} {m a : Nat} {H : Bool → Int → Int} (hH : ∀ b h, 0 ≤ h → h ≤ 200000 → f_X3_heightAt a (Int64.ofInt h) b σ1 = some (Int32.ofInt (H b h)) ∧ f_X12_heightOf (Int32.ofInt m) (Int32.ofInt h) b σ2 = some (Int32.ofInt (H b h)) ∧ -9000 ≤ H b h ∧ H b h ≤ 9000) {y z : Int} (y0 : 0 ≤ y) (yz : y ≤ z) (z1 : z ≤ 99999) (b g : Bool) : ∃ r : Int, (y ≤ r ∧ r ≤ z) ∧ (∀ k, y ≤ k → k ≤ z → if g = true then H b k ≤ H b r else H b r ≤ H b k) ∧ f_X3_extremeHour a (Int32.ofInt y) (Int32.ofInt z) b g σ1 = some (Int32.ofInt r) ∧ am_loop (fun s : Int32 × Int32 => f_X12_extreme_48 (Int32.ofInt m) (Int32.ofInt z) b g s.1 s.2 σ2) (Int32.ofInt y, Int32.ofInt (y + 1)) = some (Int32.ofInt r) := by
  obtain ⟨g1, g2, g3, g4⟩ := hH b y (by omega) (by omega)
  obtain ⟨r1, r2, k1, k2, r, e1, e2, rb, hq⟩ := am_loop_2 (B1 := fun s : Int32 × Int32 × Int32 => f_X3_extremeHour_17 a (Int32.ofInt z) b g s.1 s.2.1 s.2.2 σ1) (B2 := fun s : Int32 × Int32 => f_X12_extreme_48 (Int32.ofInt m) (Int32.ofInt z) b g s.1 s.2 σ2) (fun n s1 s2 => ∃ t hh : Int, s1 = (Int32.ofInt t, Int32.ofInt (H b t), Int32.ofInt hh) ∧ s2 = (Int32.ofInt t, Int32.ofInt hh) ∧ (y ≤ t ∧ t ≤ z) ∧ (y + 1 ≤ hh ∧ hh ≤ z + 1) ∧ (∀ k, y ≤ k → k < hh → if g = true then H b k ≤ H b t else H b t ≤ H b k) ∧ n = (z + 1 - hh).toNat) (fun r1 r2 => ∃ r : Int, r1 = Int32.ofInt r ∧ r2 = Int32.ofInt r ∧ (y ≤ r ∧ r ≤ z) ∧ (∀ k, y ≤ k → k ≤ z → if g = true then H b k ≤ H b r else H b r ≤ H b k)) (by
    rintro n s1 s2 ⟨t, hh, rfl, rfl, tb, hb, hk, rfl⟩
    by_cases ce : z < hh
    · left
      refine ⟨Int32.ofInt t, Int32.ofInt t, ?_, ?_, t, rfl, rfl, tb, fun k k0 k1 => hk k k0 (by omega)⟩
      · simp (disch := omega) only [f_X3_extremeHour_17, Option.bind_some, qi, ql, qI_lt, qI_le, qI_eq, qI_L, qI_ix, qL_lt, qL_eq, q_nat, q_cs, ← Int32.ofInt_add, ← Int32.ofInt_sub, ← Int32.ofInt_mul, ← Int32.ofInt_neg, ← Int64.ofInt_add, ← Int64.ofInt_sub, ← Int64.ofInt_mul, ← Int64.ofInt_neg, pL_I, q_mx, q_mn, q_ab, q_abL, q_mnL, q_nn0, q_nn1, q_rr, q_b1, q_b0, q_T, q_F, q_iT, q_iF, q_d, q_in, q_wi, q_hC, q_hM, pT_i, pU_i, pS_i, pS_j, pS_0, Sum.elim_inl, Sum.elim_inr, if_pos, if_neg]
      · simp (disch := omega) only [f_X12_extreme_48, Option.bind_some, qi, ql, qI_lt, qI_le, qI_eq, qI_L, qI_ix, qL_lt, qL_eq, q_nat, q_cs, ← Int32.ofInt_add, ← Int32.ofInt_sub, ← Int32.ofInt_mul, ← Int32.ofInt_neg, ← Int64.ofInt_add, ← Int64.ofInt_sub, ← Int64.ofInt_mul, ← Int64.ofInt_neg, pL_I, q_mx, q_mn, q_ab, q_abL, q_mnL, q_nn0, q_nn1, q_rr, q_b1, q_b0, q_T, q_F, q_iT, q_iF, q_d, q_in, q_wi, q_hC, q_hM, pT_i, pU_i, pS_i, pS_j, pS_0, Sum.elim_inl, Sum.elim_inr, if_pos, if_neg]
    · right
      obtain ⟨q1, q2, q3, q4⟩ := hH b hh (by omega) (by omega)
      obtain ⟨p1, p2, p3, p4⟩ := hH b t (by omega) (by omega)
      cases g with
      | true =>
        by_cases c1 : H b t < H b hh
        · refine ⟨(Int32.ofInt hh, Int32.ofInt (H b hh), Int32.ofInt (hh + 1)), (Int32.ofInt hh, Int32.ofInt (hh + 1)), (z + 1 - (hh + 1)).toNat, ?_, ?_, by omega, _, _, rfl, rfl, by omega, by omega, fun k k0 k1 => ?_, rfl⟩
          · simp (disch := omega) only [f_X3_extremeHour_17, q1, Option.bind_some, qi, ql, qI_lt, qI_le, qI_eq, qI_L, qI_ix, qL_lt, qL_eq, q_nat, q_cs, ← Int32.ofInt_add, ← Int32.ofInt_sub, ← Int32.ofInt_mul, ← Int32.ofInt_neg, ← Int64.ofInt_add, ← Int64.ofInt_sub, ← Int64.ofInt_mul, ← Int64.ofInt_neg, pL_I, q_mx, q_mn, q_ab, q_abL, q_mnL, q_nn0, q_nn1, q_rr, q_b1, q_b0, q_T, q_F, q_iT, q_iF, q_d, q_in, q_wi, q_hC, q_hM, pT_i, pU_i, pS_i, pS_j, pS_0, Sum.elim_inl, Sum.elim_inr, if_pos, if_neg]
          · simp (disch := omega) only [f_X12_extreme_48, q2, p2, Option.bind_some, qi, ql, qI_lt, qI_le, qI_eq, qI_L, qI_ix, qL_lt, qL_eq, q_nat, q_cs, ← Int32.ofInt_add, ← Int32.ofInt_sub, ← Int32.ofInt_mul, ← Int32.ofInt_neg, ← Int64.ofInt_add, ← Int64.ofInt_sub, ← Int64.ofInt_mul, ← Int64.ofInt_neg, pL_I, q_mx, q_mn, q_ab, q_abL, q_mnL, q_nn0, q_nn1, q_rr, q_b1, q_b0, q_T, q_F, q_iT, q_iF, q_d, q_in, q_wi, q_hC, q_hM, pT_i, pU_i, pS_i, pS_j, pS_0, Sum.elim_inl, Sum.elim_inr, if_pos, if_neg]
          · rw [if_pos rfl]
            by_cases ck : k = hh
            · subst ck; omega
            · have := hk k k0 (by omega)
              rw [if_pos rfl] at this
              omega
        · refine ⟨(Int32.ofInt t, Int32.ofInt (H b t), Int32.ofInt (hh + 1)), (Int32.ofInt t, Int32.ofInt (hh + 1)), (z + 1 - (hh + 1)).toNat, ?_, ?_, by omega, _, _, rfl, rfl, by omega, by omega, fun k k0 k1 => ?_, rfl⟩
          · simp (disch := omega) only [f_X3_extremeHour_17, q1, Option.bind_some, qi, ql, qI_lt, qI_le, qI_eq, qI_L, qI_ix, qL_lt, qL_eq, q_nat, q_cs, ← Int32.ofInt_add, ← Int32.ofInt_sub, ← Int32.ofInt_mul, ← Int32.ofInt_neg, ← Int64.ofInt_add, ← Int64.ofInt_sub, ← Int64.ofInt_mul, ← Int64.ofInt_neg, pL_I, q_mx, q_mn, q_ab, q_abL, q_mnL, q_nn0, q_nn1, q_rr, q_b1, q_b0, q_T, q_F, q_iT, q_iF, q_d, q_in, q_wi, q_hC, q_hM, pT_i, pU_i, pS_i, pS_j, pS_0, Sum.elim_inl, Sum.elim_inr, if_pos, if_neg]
          · simp (disch := omega) only [f_X12_extreme_48, q2, p2, Option.bind_some, qi, ql, qI_lt, qI_le, qI_eq, qI_L, qI_ix, qL_lt, qL_eq, q_nat, q_cs, ← Int32.ofInt_add, ← Int32.ofInt_sub, ← Int32.ofInt_mul, ← Int32.ofInt_neg, ← Int64.ofInt_add, ← Int64.ofInt_sub, ← Int64.ofInt_mul, ← Int64.ofInt_neg, pL_I, q_mx, q_mn, q_ab, q_abL, q_mnL, q_nn0, q_nn1, q_rr, q_b1, q_b0, q_T, q_F, q_iT, q_iF, q_d, q_in, q_wi, q_hC, q_hM, pT_i, pU_i, pS_i, pS_j, pS_0, Sum.elim_inl, Sum.elim_inr, if_pos, if_neg]
          · rw [if_pos rfl]
            by_cases ck : k = hh
            · subst ck; omega
            · have := hk k k0 (by omega)
              rw [if_pos rfl] at this
              omega
      | false =>
        by_cases c1 : H b hh < H b t
        · refine ⟨(Int32.ofInt hh, Int32.ofInt (H b hh), Int32.ofInt (hh + 1)), (Int32.ofInt hh, Int32.ofInt (hh + 1)), (z + 1 - (hh + 1)).toNat, ?_, ?_, by omega, _, _, rfl, rfl, by omega, by omega, fun k k0 k1 => ?_, rfl⟩
          · simp (disch := omega) only [f_X3_extremeHour_17, q1, Option.bind_some, qi, ql, qI_lt, qI_le, qI_eq, qI_L, qI_ix, qL_lt, qL_eq, q_nat, q_cs, ← Int32.ofInt_add, ← Int32.ofInt_sub, ← Int32.ofInt_mul, ← Int32.ofInt_neg, ← Int64.ofInt_add, ← Int64.ofInt_sub, ← Int64.ofInt_mul, ← Int64.ofInt_neg, pL_I, q_mx, q_mn, q_ab, q_abL, q_mnL, q_nn0, q_nn1, q_rr, q_b1, q_b0, q_T, q_F, q_iT, q_iF, q_d, q_in, q_wi, q_hC, q_hM, pT_i, pU_i, pS_i, pS_j, pS_0, Sum.elim_inl, Sum.elim_inr, if_pos, if_neg]
          · simp (disch := omega) only [f_X12_extreme_48, q2, p2, Option.bind_some, qi, ql, qI_lt, qI_le, qI_eq, qI_L, qI_ix, qL_lt, qL_eq, q_nat, q_cs, ← Int32.ofInt_add, ← Int32.ofInt_sub, ← Int32.ofInt_mul, ← Int32.ofInt_neg, ← Int64.ofInt_add, ← Int64.ofInt_sub, ← Int64.ofInt_mul, ← Int64.ofInt_neg, pL_I, q_mx, q_mn, q_ab, q_abL, q_mnL, q_nn0, q_nn1, q_rr, q_b1, q_b0, q_T, q_F, q_iT, q_iF, q_d, q_in, q_wi, q_hC, q_hM, pT_i, pU_i, pS_i, pS_j, pS_0, Sum.elim_inl, Sum.elim_inr, if_pos, if_neg]
          · rw [if_neg (by decide)]
            by_cases ck : k = hh
            · subst ck; omega
            · have := hk k k0 (by omega)
              rw [if_neg (by decide)] at this
              omega
        · refine ⟨(Int32.ofInt t, Int32.ofInt (H b t), Int32.ofInt (hh + 1)), (Int32.ofInt t, Int32.ofInt (hh + 1)), (z + 1 - (hh + 1)).toNat, ?_, ?_, by omega, _, _, rfl, rfl, by omega, by omega, fun k k0 k1 => ?_, rfl⟩
          · simp (disch := omega) only [f_X3_extremeHour_17, q1, Option.bind_some, qi, ql, qI_lt, qI_le, qI_eq, qI_L, qI_ix, qL_lt, qL_eq, q_nat, q_cs, ← Int32.ofInt_add, ← Int32.ofInt_sub, ← Int32.ofInt_mul, ← Int32.ofInt_neg, ← Int64.ofInt_add, ← Int64.ofInt_sub, ← Int64.ofInt_mul, ← Int64.ofInt_neg, pL_I, q_mx, q_mn, q_ab, q_abL, q_mnL, q_nn0, q_nn1, q_rr, q_b1, q_b0, q_T, q_F, q_iT, q_iF, q_d, q_in, q_wi, q_hC, q_hM, pT_i, pU_i, pS_i, pS_j, pS_0, Sum.elim_inl, Sum.elim_inr, if_pos, if_neg]
          · simp (disch := omega) only [f_X12_extreme_48, q2, p2, Option.bind_some, qi, ql, qI_lt, qI_le, qI_eq, qI_L, qI_ix, qL_lt, qL_eq, q_nat, q_cs, ← Int32.ofInt_add, ← Int32.ofInt_sub, ← Int32.ofInt_mul, ← Int32.ofInt_neg, ← Int64.ofInt_add, ← Int64.ofInt_sub, ← Int64.ofInt_mul, ← Int64.ofInt_neg, pL_I, q_mx, q_mn, q_ab, q_abL, q_mnL, q_nn0, q_nn1, q_rr, q_b1, q_b0, q_T, q_F, q_iT, q_iF, q_d, q_in, q_wi, q_hC, q_hM, pT_i, pU_i, pS_i, pS_j, pS_0, Sum.elim_inl, Sum.elim_inr, if_pos, if_neg]
          · rw [if_neg (by decide)]
            by_cases ck : k = hh
            · subst ck; omega
            · have := hk k k0 (by omega)
              rw [if_neg (by decide)] at this
              omega) _ (Int32.ofInt y, Int32.ofInt (H b y), Int32.ofInt (y + 1)) (Int32.ofInt y, Int32.ofInt (y + 1)) ⟨y, y + 1, rfl, rfl, by omega, by omega, fun k k0 k1 => by
    have : k = y := by omega
    subst this
    split <;> omega, rfl⟩
  subst e1 e2
  refine ⟨r, rb, hq, ?_, k2⟩
  simp (disch := omega) only [f_X3_extremeHour, g1, k1, Option.bind_some, qi, ql, qI_lt, qI_le, qI_eq, qI_L, qI_ix, qL_lt, qL_eq, q_nat, q_cs, ← Int32.ofInt_add, ← Int32.ofInt_sub, ← Int32.ofInt_mul, ← Int32.ofInt_neg, ← Int64.ofInt_add, ← Int64.ofInt_sub, ← Int64.ofInt_mul, ← Int64.ofInt_neg, pL_I, q_mx, q_mn, q_ab, q_abL, q_mnL, q_nn0, q_nn1, q_rr, q_b1, q_b0, q_T, q_F, q_iT, q_iF, q_d, q_in, q_wi, q_hC, q_hM, pT_i, pU_i, pS_i, pS_j, pS_0, Sum.elim_inl, Sum.elim_inr, if_pos, if_neg]
theorem po_29 : am_op_29 pr_Rel := by
  intro σ1 σ2 h v1 v2 v3 b g
  obtain ⟨x, x1, x2, rfl⟩ := q_ex v1
  obtain ⟨y, y1, y2, rfl⟩ := q_ex v2
  obtain ⟨z, z1, z2, rfl⟩ := q_ex v3
  rcases pr_m (h.2.S 0) x1 x2 with ⟨c, e1, e2⟩ | ⟨m, a, hm, ha, rfl, hr, e1, e2, M⟩
  · refine pr_ro h (Int32.ofInt (-1)) 2 ?_ ?_
    · simp (disch := omega) only [f_X11_extreme, f_X11_none, e1, Option.bind_some, qi, ql, qI_lt, qI_le, qI_eq, qI_L, qI_ix, qL_lt, qL_eq, q_nat, q_cs, ← Int32.ofInt_add, ← Int32.ofInt_sub, ← Int32.ofInt_mul, ← Int32.ofInt_neg, ← Int64.ofInt_add, ← Int64.ofInt_sub, ← Int64.ofInt_mul, ← Int64.ofInt_neg, pL_I, q_mx, q_mn, q_ab, q_abL, q_mnL, q_nn0, q_nn1, q_rr, q_b1, q_b0, q_T, q_F, q_iT, q_iF, q_d, q_in, q_wi, q_hC, q_hM, pT_i, pU_i, pS_i, pS_j, pS_0, Sum.elim_inl, Sum.elim_inr, if_pos, if_neg]
    · simp (disch := omega) only [f_X12_extreme, f_X12_refuse, e2, Option.bind_some, qi, ql, qI_lt, qI_le, qI_eq, qI_L, qI_ix, qL_lt, qL_eq, q_nat, q_cs, ← Int32.ofInt_add, ← Int32.ofInt_sub, ← Int32.ofInt_mul, ← Int32.ofInt_neg, ← Int64.ofInt_add, ← Int64.ofInt_sub, ← Int64.ofInt_mul, ← Int64.ofInt_neg, pL_I, q_mx, q_mn, q_ab, q_abL, q_mnL, q_nn0, q_nn1, q_rr, q_b1, q_b0, q_T, q_F, q_iT, q_iF, q_d, q_in, q_wi, q_hC, q_hM, pT_i, pU_i, pS_i, pS_j, pS_0, Sum.elim_inl, Sum.elim_inr, if_pos, if_neg]
  · by_cases cz : (0 ≤ y ∧ y ≤ 99999) ∧ (0 ≤ z ∧ z ≤ 99999) ∧ y ≤ z ∧ z - y < 2000
    · obtain ⟨H, hH⟩ := pr_H (by omega) M
      obtain ⟨r, rb, -, k1, k2⟩ := px_ext hH (y := y) (z := z) (by omega) (by omega) (by omega) b g
      refine pr_ro h (Int32.ofInt r) 0 ?_ ?_
      · simp (disch := omega) only [f_X11_extreme, f_X11_answer, e1, q_spC, k1, Option.bind_some, qi, ql, qI_lt, qI_le, qI_eq, qI_L, qI_ix, qL_lt, qL_eq, q_nat, q_cs, ← Int32.ofInt_add, ← Int32.ofInt_sub, ← Int32.ofInt_mul, ← Int32.ofInt_neg, ← Int64.ofInt_add, ← Int64.ofInt_sub, ← Int64.ofInt_mul, ← Int64.ofInt_neg, pL_I, q_mx, q_mn, q_ab, q_abL, q_mnL, q_nn0, q_nn1, q_rr, q_b1, q_b0, q_T, q_F, q_iT, q_iF, q_d, q_in, q_wi, q_hC, q_hM, pT_i, pU_i, pS_i, pS_j, pS_0, Sum.elim_inl, Sum.elim_inr, if_pos, if_neg]
      · simp (disch := omega) only [f_X12_extreme, e2, q_spM, k2, Option.bind_some, qi, ql, qI_lt, qI_le, qI_eq, qI_L, qI_ix, qL_lt, qL_eq, q_nat, q_cs, ← Int32.ofInt_add, ← Int32.ofInt_sub, ← Int32.ofInt_mul, ← Int32.ofInt_neg, ← Int64.ofInt_add, ← Int64.ofInt_sub, ← Int64.ofInt_mul, ← Int64.ofInt_neg, pL_I, q_mx, q_mn, q_ab, q_abL, q_mnL, q_nn0, q_nn1, q_rr, q_b1, q_b0, q_T, q_F, q_iT, q_iF, q_d, q_in, q_wi, q_hC, q_hM, pT_i, pU_i, pS_i, pS_j, pS_0, Sum.elim_inl, Sum.elim_inr, if_pos, if_neg]
    · refine pr_ro h (Int32.ofInt (-1)) 5 ?_ ?_
      · simp (disch := omega) only [f_X11_extreme, f_X11_none, e1, q_spC, Option.bind_some, qi, ql, qI_lt, qI_le, qI_eq, qI_L, qI_ix, qL_lt, qL_eq, q_nat, q_cs, ← Int32.ofInt_add, ← Int32.ofInt_sub, ← Int32.ofInt_mul, ← Int32.ofInt_neg, ← Int64.ofInt_add, ← Int64.ofInt_sub, ← Int64.ofInt_mul, ← Int64.ofInt_neg, pL_I, q_mx, q_mn, q_ab, q_abL, q_mnL, q_nn0, q_nn1, q_rr, q_b1, q_b0, q_T, q_F, q_iT, q_iF, q_d, q_in, q_wi, q_hC, q_hM, pT_i, pU_i, pS_i, pS_j, pS_0, Sum.elim_inl, Sum.elim_inr, if_pos, if_neg]
      · simp (disch := omega) only [f_X12_extreme, f_X12_refuse, e2, q_spM, Option.bind_some, qi, ql, qI_lt, qI_le, qI_eq, qI_L, qI_ix, qL_lt, qL_eq, q_nat, q_cs, ← Int32.ofInt_add, ← Int32.ofInt_sub, ← Int32.ofInt_mul, ← Int32.ofInt_neg, ← Int64.ofInt_add, ← Int64.ofInt_sub, ← Int64.ofInt_mul, ← Int64.ofInt_neg, pL_I, q_mx, q_mn, q_ab, q_abL, q_mnL, q_nn0, q_nn1, q_rr, q_b1, q_b0, q_T, q_F, q_iT, q_iF, q_d, q_in, q_wi, q_hC, q_hM, pT_i, pU_i, pS_i, pS_j, pS_0, Sum.elim_inl, Sum.elim_inr, if_pos, if_neg]
theorem po_35 : am_op_35 pr_Rel := by
  intro σ1 σ2 h v1 v2 v3
  obtain ⟨y, y1, y2, rfl⟩ := q_ex v1
  obtain ⟨z, z1, z2, rfl⟩ := q_ex v2
  obtain ⟨x, x1, x2, rfl⟩ := q_ex v3
  by_cases cz : (0 ≤ y ∧ y ≤ 99999) ∧ (0 ≤ z ∧ z ≤ 99999) ∧ y ≤ z ∧ z - y < 2000
  · by_cases cx : 0 ≤ x ∧ x ≤ 99999
    · obtain ⟨a0, a1, a2, ⟨b0, b1, b2⟩, -, r0, r1, -, m0, m1⟩ := (show pr_machs σ1 (pS σ2 0) from h.2.S 0 4 (by omega))
      obtain ⟨H, hH⟩ := pr_H (by omega) m0
      obtain ⟨G, hG⟩ := pr_H (by omega) m1
      have rr0 : am_rr 3 (σ1.2.2 1205 0 (0 : Int).toNat) = some a0 := by
        rw [show (0 : Int).toNat = 0 from rfl, r0]
        exact q_rr b0
      have rr1 : am_rr 3 (σ1.2.2 1205 0 (1 : Int).toNat) = some a1 := by
        rw [show (1 : Int).toNat = 1 from rfl, r1]
        exact q_rr b1
      obtain ⟨w1, w2, k1, k2, hq⟩ := am_loop_2 (B1 := fun s : Int32 => f_X11_compare_31 (Int32.ofInt z) (Int32.ofInt x) s σ1) (B2 := fun s : Int32 => f_X12_compare_42 (Int32.ofInt z) (Int32.ofInt x) s (pS σ2 0)) (fun n s1 s2 => ∃ hh : Int, s1 = Int32.ofInt hh ∧ s2 = Int32.ofInt hh ∧ (y ≤ hh ∧ hh ≤ z + 1) ∧ n = (z + 1 - hh).toNat) (fun r1 r2 => r1 = r2) (by
        rintro n s1 s2 ⟨hh, rfl, rfl, hb, rfl⟩
        by_cases ce : z < hh
        · left
          refine ⟨.inr (), .inr (), ?_, ?_, rfl⟩
          · simp (disch := omega) only [f_X11_compare_31, Option.bind_some, qi, ql, qI_lt, qI_le, qI_eq, qI_L, qI_ix, qL_lt, qL_eq, q_nat, q_cs, ← Int32.ofInt_add, ← Int32.ofInt_sub, ← Int32.ofInt_mul, ← Int32.ofInt_neg, ← Int64.ofInt_add, ← Int64.ofInt_sub, ← Int64.ofInt_mul, ← Int64.ofInt_neg, pL_I, q_mx, q_mn, q_ab, q_abL, q_mnL, q_nn0, q_nn1, q_rr, q_b1, q_b0, q_T, q_F, q_iT, q_iF, q_d, q_in, q_wi, q_hC, q_hM, pT_i, pU_i, pS_i, pS_j, pS_0, Sum.elim_inl, Sum.elim_inr, if_pos, if_neg]
          · simp (disch := omega) only [f_X12_compare_42, Option.bind_some, qi, ql, qI_lt, qI_le, qI_eq, qI_L, qI_ix, qL_lt, qL_eq, q_nat, q_cs, ← Int32.ofInt_add, ← Int32.ofInt_sub, ← Int32.ofInt_mul, ← Int32.ofInt_neg, ← Int64.ofInt_add, ← Int64.ofInt_sub, ← Int64.ofInt_mul, ← Int64.ofInt_neg, pL_I, q_mx, q_mn, q_ab, q_abL, q_mnL, q_nn0, q_nn1, q_rr, q_b1, q_b0, q_T, q_F, q_iT, q_iF, q_d, q_in, q_wi, q_hC, q_hM, pT_i, pU_i, pS_i, pS_j, pS_0, Sum.elim_inl, Sum.elim_inr, if_pos, if_neg]
        · obtain ⟨q1, q2, q3, q4⟩ := hH true hh (by omega) (by omega)
          obtain ⟨p1, p2, p3, p4⟩ := hG true hh (by omega) (by omega)
          have q2' : f_X12_heightOf (Int32.ofInt 0) (Int32.ofInt hh) true (pS σ2 0) = some (Int32.ofInt (H true hh)) := q2
          have p2' : f_X12_heightOf (Int32.ofInt 1) (Int32.ofInt hh) true (pS σ2 0) = some (Int32.ofInt (G true hh)) := p2
          by_cases c1 : x < (((H true hh - G true hh).natAbs : Nat) : Int)
          · left
            refine ⟨.inl (Int32.ofInt hh), .inl (Int32.ofInt hh), ?_, ?_, rfl⟩
            · simp (disch := omega) only [f_X11_compare_31, rr0, rr1, q1, p1, Option.bind_some, qi, ql, qI_lt, qI_le, qI_eq, qI_L, qI_ix, qL_lt, qL_eq, q_nat, q_cs, ← Int32.ofInt_add, ← Int32.ofInt_sub, ← Int32.ofInt_mul, ← Int32.ofInt_neg, ← Int64.ofInt_add, ← Int64.ofInt_sub, ← Int64.ofInt_mul, ← Int64.ofInt_neg, pL_I, q_mx, q_mn, q_ab, q_abL, q_mnL, q_nn0, q_nn1, q_rr, q_b1, q_b0, q_T, q_F, q_iT, q_iF, q_d, q_in, q_wi, q_hC, q_hM, pT_i, pU_i, pS_i, pS_j, pS_0, Sum.elim_inl, Sum.elim_inr, if_pos, if_neg]
            · simp (disch := omega) only [f_X12_compare_42, q2', p2', Option.bind_some, qi, ql, qI_lt, qI_le, qI_eq, qI_L, qI_ix, qL_lt, qL_eq, q_nat, q_cs, ← Int32.ofInt_add, ← Int32.ofInt_sub, ← Int32.ofInt_mul, ← Int32.ofInt_neg, ← Int64.ofInt_add, ← Int64.ofInt_sub, ← Int64.ofInt_mul, ← Int64.ofInt_neg, pL_I, q_mx, q_mn, q_ab, q_abL, q_mnL, q_nn0, q_nn1, q_rr, q_b1, q_b0, q_T, q_F, q_iT, q_iF, q_d, q_in, q_wi, q_hC, q_hM, pT_i, pU_i, pS_i, pS_j, pS_0, Sum.elim_inl, Sum.elim_inr, if_pos, if_neg]
          · right
            refine ⟨Int32.ofInt (hh + 1), Int32.ofInt (hh + 1), (z + 1 - (hh + 1)).toNat, ?_, ?_, by omega, _, rfl, rfl, by omega, rfl⟩
            · simp (disch := omega) only [f_X11_compare_31, rr0, rr1, q1, p1, Option.bind_some, qi, ql, qI_lt, qI_le, qI_eq, qI_L, qI_ix, qL_lt, qL_eq, q_nat, q_cs, ← Int32.ofInt_add, ← Int32.ofInt_sub, ← Int32.ofInt_mul, ← Int32.ofInt_neg, ← Int64.ofInt_add, ← Int64.ofInt_sub, ← Int64.ofInt_mul, ← Int64.ofInt_neg, pL_I, q_mx, q_mn, q_ab, q_abL, q_mnL, q_nn0, q_nn1, q_rr, q_b1, q_b0, q_T, q_F, q_iT, q_iF, q_d, q_in, q_wi, q_hC, q_hM, pT_i, pU_i, pS_i, pS_j, pS_0, Sum.elim_inl, Sum.elim_inr, if_pos, if_neg]
            · simp (disch := omega) only [f_X12_compare_42, q2', p2', Option.bind_some, qi, ql, qI_lt, qI_le, qI_eq, qI_L, qI_ix, qL_lt, qL_eq, q_nat, q_cs, ← Int32.ofInt_add, ← Int32.ofInt_sub, ← Int32.ofInt_mul, ← Int32.ofInt_neg, ← Int64.ofInt_add, ← Int64.ofInt_sub, ← Int64.ofInt_mul, ← Int64.ofInt_neg, pL_I, q_mx, q_mn, q_ab, q_abL, q_mnL, q_nn0, q_nn1, q_rr, q_b1, q_b0, q_T, q_F, q_iT, q_iF, q_d, q_in, q_wi, q_hC, q_hM, pT_i, pU_i, pS_i, pS_j, pS_0, Sum.elim_inl, Sum.elim_inr, if_pos, if_neg]) _ (Int32.ofInt y) (Int32.ofInt y) ⟨_, rfl, rfl, by omega, rfl⟩
      subst hq
      cases w1 with
      | inl t =>
        refine pr_ro h t 0 ?_ ?_
        · simp (disch := omega) only [f_X11_compare, f_X11_answer, q_spC, k1, Option.bind_some, qi, ql, qI_lt, qI_le, qI_eq, qI_L, qI_ix, qL_lt, qL_eq, q_nat, q_cs, ← Int32.ofInt_add, ← Int32.ofInt_sub, ← Int32.ofInt_mul, ← Int32.ofInt_neg, ← Int64.ofInt_add, ← Int64.ofInt_sub, ← Int64.ofInt_mul, ← Int64.ofInt_neg, pL_I, q_mx, q_mn, q_ab, q_abL, q_mnL, q_nn0, q_nn1, q_rr, q_b1, q_b0, q_T, q_F, q_iT, q_iF, q_d, q_in, q_wi, q_hC, q_hM, pT_i, pU_i, pS_i, pS_j, pS_0, Sum.elim_inl, Sum.elim_inr, if_pos, if_neg]
        · simp (disch := omega) only [f_X12_compare, q_spM, k2, Option.bind_some, qi, ql, qI_lt, qI_le, qI_eq, qI_L, qI_ix, qL_lt, qL_eq, q_nat, q_cs, ← Int32.ofInt_add, ← Int32.ofInt_sub, ← Int32.ofInt_mul, ← Int32.ofInt_neg, ← Int64.ofInt_add, ← Int64.ofInt_sub, ← Int64.ofInt_mul, ← Int64.ofInt_neg, pL_I, q_mx, q_mn, q_ab, q_abL, q_mnL, q_nn0, q_nn1, q_rr, q_b1, q_b0, q_T, q_F, q_iT, q_iF, q_d, q_in, q_wi, q_hC, q_hM, pT_i, pU_i, pS_i, pS_j, pS_0, Sum.elim_inl, Sum.elim_inr, if_pos, if_neg]
      | inr t =>
        refine pr_ro h (Int32.ofInt (-1)) 0 ?_ ?_
        · simp (disch := omega) only [f_X11_compare, f_X11_answer, q_spC, k1, Option.bind_some, qi, ql, qI_lt, qI_le, qI_eq, qI_L, qI_ix, qL_lt, qL_eq, q_nat, q_cs, ← Int32.ofInt_add, ← Int32.ofInt_sub, ← Int32.ofInt_mul, ← Int32.ofInt_neg, ← Int64.ofInt_add, ← Int64.ofInt_sub, ← Int64.ofInt_mul, ← Int64.ofInt_neg, pL_I, q_mx, q_mn, q_ab, q_abL, q_mnL, q_nn0, q_nn1, q_rr, q_b1, q_b0, q_T, q_F, q_iT, q_iF, q_d, q_in, q_wi, q_hC, q_hM, pT_i, pU_i, pS_i, pS_j, pS_0, Sum.elim_inl, Sum.elim_inr, if_pos, if_neg]
        · simp (disch := omega) only [f_X12_compare, q_spM, k2, Option.bind_some, qi, ql, qI_lt, qI_le, qI_eq, qI_L, qI_ix, qL_lt, qL_eq, q_nat, q_cs, ← Int32.ofInt_add, ← Int32.ofInt_sub, ← Int32.ofInt_mul, ← Int32.ofInt_neg, ← Int64.ofInt_add, ← Int64.ofInt_sub, ← Int64.ofInt_mul, ← Int64.ofInt_neg, pL_I, q_mx, q_mn, q_ab, q_abL, q_mnL, q_nn0, q_nn1, q_rr, q_b1, q_b0, q_T, q_F, q_iT, q_iF, q_d, q_in, q_wi, q_hC, q_hM, pT_i, pU_i, pS_i, pS_j, pS_0, Sum.elim_inl, Sum.elim_inr, if_pos, if_neg]
    · refine pr_ro h (Int32.ofInt (-1)) 5 ?_ ?_
      · simp (disch := omega) only [f_X11_compare, f_X11_compare_22, f_X11_none, q_spC, Option.bind_some, qi, ql, qI_lt, qI_le, qI_eq, qI_L, qI_ix, qL_lt, qL_eq, q_nat, q_cs, ← Int32.ofInt_add, ← Int32.ofInt_sub, ← Int32.ofInt_mul, ← Int32.ofInt_neg, ← Int64.ofInt_add, ← Int64.ofInt_sub, ← Int64.ofInt_mul, ← Int64.ofInt_neg, pL_I, q_mx, q_mn, q_ab, q_abL, q_mnL, q_nn0, q_nn1, q_rr, q_b1, q_b0, q_T, q_F, q_iT, q_iF, q_d, q_in, q_wi, q_hC, q_hM, pT_i, pU_i, pS_i, pS_j, pS_0, Sum.elim_inl, Sum.elim_inr, if_pos, if_neg]
      · simp (disch := omega) only [f_X12_compare, f_X12_compare_33, f_X12_refuse, q_spM, Option.bind_some, qi, ql, qI_lt, qI_le, qI_eq, qI_L, qI_ix, qL_lt, qL_eq, q_nat, q_cs, ← Int32.ofInt_add, ← Int32.ofInt_sub, ← Int32.ofInt_mul, ← Int32.ofInt_neg, ← Int64.ofInt_add, ← Int64.ofInt_sub, ← Int64.ofInt_mul, ← Int64.ofInt_neg, pL_I, q_mx, q_mn, q_ab, q_abL, q_mnL, q_nn0, q_nn1, q_rr, q_b1, q_b0, q_T, q_F, q_iT, q_iF, q_d, q_in, q_wi, q_hC, q_hM, pT_i, pU_i, pS_i, pS_j, pS_0, Sum.elim_inl, Sum.elim_inr, if_pos, if_neg]
  · refine pr_ro h (Int32.ofInt (-1)) 5 ?_ ?_
    · simp (disch := omega) only [f_X11_compare, f_X11_compare_22, f_X11_none, q_spC, Option.bind_some, qi, ql, qI_lt, qI_le, qI_eq, qI_L, qI_ix, qL_lt, qL_eq, q_nat, q_cs, ← Int32.ofInt_add, ← Int32.ofInt_sub, ← Int32.ofInt_mul, ← Int32.ofInt_neg, ← Int64.ofInt_add, ← Int64.ofInt_sub, ← Int64.ofInt_mul, ← Int64.ofInt_neg, pL_I, q_mx, q_mn, q_ab, q_abL, q_mnL, q_nn0, q_nn1, q_rr, q_b1, q_b0, q_T, q_F, q_iT, q_iF, q_d, q_in, q_wi, q_hC, q_hM, pT_i, pU_i, pS_i, pS_j, pS_0, Sum.elim_inl, Sum.elim_inr, if_pos, if_neg]
    · simp (disch := omega) only [f_X12_compare, f_X12_compare_33, f_X12_refuse, q_spM, Option.bind_some, qi, ql, qI_lt, qI_le, qI_eq, qI_L, qI_ix, qL_lt, qL_eq, q_nat, q_cs, ← Int32.ofInt_add, ← Int32.ofInt_sub, ← Int32.ofInt_mul, ← Int32.ofInt_neg, ← Int64.ofInt_add, ← Int64.ofInt_sub, ← Int64.ofInt_mul, ← Int64.ofInt_neg, pL_I, q_mx, q_mn, q_ab, q_abL, q_mnL, q_nn0, q_nn1, q_rr, q_b1, q_b0, q_T, q_F, q_iT, q_iF, q_d, q_in, q_wi, q_hC, q_hM, pT_i, pU_i, pS_i, pS_j, pS_0, Sum.elim_inl, Sum.elim_inr, if_pos, if_neg]
