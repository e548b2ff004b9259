/-- the class's recursion -/
theorem dr_cls {σ : am_H} {r d : Nat} {m : Nat → Nat → Int} {col : Int} (hd : d ≤ 5) (e3 : σ.1 1 r 3 = Int32.ofInt (d : Int)) (hc : -1 ≤ col ∧ col ≤ 4) (hm : ∀ i k, i < d → k < d → (if (k : Int) = col then σ.2.1 206 r i else σ.2.1 205 r (5 * i + k)) = Int64.ofInt (m i k)) : ∀ (k i mask f : Nat), i + k = d → k < f → mask < 32 → f_X1_determinant f r (Int32.ofInt (i : Int)) (Int32.ofInt (mask : Int)) (Int32.ofInt col) σ = some (Int64.ofInt (dl m d k i mask)) := by
  intro k
  induction k with
  | zero =>
    intro i mask f hi hf hk
    obtain ⟨f, rfl⟩ : ∃ f', f = f' + 1 := ⟨f - 1, by omega⟩
    show f_X1_determinant_0 (f_X1_determinant f) r (Int32.ofInt (i : Int)) (Int32.ofInt (mask : Int)) (Int32.ofInt col) σ = some (Int64.ofInt 1)
    have e : i = d := by omega
    simp (disch := omega) only [f_X1_determinant_0, e3, Option.bind_some, qi, ql, qI_lt, qI_le, qI_eq, qI_L, qI_ix, qL_lt, qL_eq, q_nat, q_cs, ← Int32.ofInt_add, ← Int32.ofInt_sub, ← Int32.ofInt_mul, ← Int32.ofInt_neg, ← Int64.ofInt_add, ← Int64.ofInt_sub, ← Int64.ofInt_mul, ← Int64.ofInt_neg, pL_I, q_mx, q_mn, q_ab, q_abL, q_mnL, q_nn0, q_nn1, q_rr, q_b1, q_b0, q_T, q_F, q_iT, q_iF, q_d, q_in, q_wi, q_hC, q_hM, pT_i, pU_i, pS_i, pS_j, pS_0, Sum.elim_inl, Sum.elim_inr, if_pos, if_neg]
  | succ k ih =>
    intro i mask f hi hf hk
    obtain ⟨f, rfl⟩ : ∃ f', f = f' + 1 := ⟨f - 1, by omega⟩
    have lp := am_loop_n (body := fun s : Int64 × Int64 × Int32 => f_X1_determinant_24 (f_X1_determinant f) r (Int32.ofInt (i : Int)) (Int32.ofInt (mask : Int)) (Int32.ofInt col) s.1 s.2.1 s.2.2 σ) (fun c => (Int64.ofInt (en_fo (fun c (s : Int × Int) => if mask.testBit c = true then s else (s.1 + s.2 * m i c * dl m d k (i + 1) (mask ||| 2 ^ c), -s.2)) c (0, 1)).1, Int64.ofInt (en_fo (fun c (s : Int × Int) => if mask.testBit c = true then s else (s.1 + s.2 * m i c * dl m d k (i + 1) (mask ||| 2 ^ c), -s.2)) c (0, 1)).2, Int32.ofInt (c : Int))) d (r := Int64.ofInt (dl m d (k + 1) i mask)) ?_ ?_
    · have lp' : am_loop (fun s : Int64 × Int64 × Int32 => f_X1_determinant_24 (f_X1_determinant f) r (Int32.ofInt (i : Int)) (Int32.ofInt (mask : Int)) (Int32.ofInt col) s.1 s.2.1 s.2.2 σ) (Int64.ofInt 0, Int64.ofInt 1, Int32.ofInt 0) = some (Int64.ofInt (dl m d (k + 1) i mask)) := lp
      show f_X1_determinant_0 (f_X1_determinant f) r (Int32.ofInt (i : Int)) (Int32.ofInt (mask : Int)) (Int32.ofInt col) σ = some (Int64.ofInt (dl m d (k + 1) i mask))
      simp (disch := omega) only [f_X1_determinant_0, e3, lp', Option.bind_some, qi, ql, qI_lt, qI_le, qI_eq, qI_L, qI_ix, qL_lt, qL_eq, q_nat, q_cs, ← Int32.ofInt_add, ← Int32.ofInt_sub, ← Int32.ofInt_mul, ← Int32.ofInt_neg, ← Int64.ofInt_add, ← Int64.ofInt_sub, ← Int64.ofInt_mul, ← Int64.ofInt_neg, pL_I, q_mx, q_mn, q_ab, q_abL, q_mnL, q_nn0, q_nn1, q_rr, q_b1, q_b0, q_T, q_F, q_iT, q_iF, q_d, q_in, q_wi, q_hC, q_hM, pT_i, pU_i, pS_i, pS_j, pS_0, Sum.elim_inl, Sum.elim_inr, if_pos, if_neg]
    · intro c hcd
      have bit := dt_1 ⟨mask, hk⟩ ⟨c, by omega⟩
      obtain ⟨or1, or2⟩ := dt_2 ⟨mask, hk⟩ ⟨c, by omega⟩
      have bit' : (((Int32.ofInt (mask : Int)) >>> ((Int32.ofInt (c : Int)) &&& Int32.ofInt 31)) &&& Int32.ofInt 1) = Int32.ofInt (if mask.testBit c = true then 1 else 0) := bit
      have or1' : (Int32.ofInt (mask : Int)) ||| (Int32.ofInt 1 <<< ((Int32.ofInt (c : Int)) &&& Int32.ofInt 31)) = Int32.ofInt ((mask ||| 2 ^ c : Nat) : Int) := or1
      have rcc : f_X1_determinant f r (Int32.ofInt ((i : Int) + 1)) (Int32.ofInt ((mask ||| 2 ^ c : Nat) : Int)) (Int32.ofInt col) σ = some (Int64.ofInt (dl m d k (i + 1) (mask ||| 2 ^ c))) := ih (i + 1) (mask ||| 2 ^ c) f (by omega) (by omega) or2
      have hmc := hm i c (by omega) hcd
      generalize hs : en_fo (fun c (s : Int × Int) => if mask.testBit c = true then s else (s.1 + s.2 * m i c * dl m d k (i + 1) (mask ||| 2 ^ c), -s.2)) c (0, 1) = s
      have es : en_fo (fun c (s : Int × Int) => if mask.testBit c = true then s else (s.1 + s.2 * m i c * dl m d k (i + 1) (mask ||| 2 ^ c), -s.2)) (c + 1) (0, 1) = (if mask.testBit c = true then s else (s.1 + s.2 * m i c * dl m d k (i + 1) (mask ||| 2 ^ c), -s.2)) := by
        rw [← hs]
        rfl
      rw [es]
      by_cases tb : mask.testBit c = true
      · rw [if_pos tb] at bit' ⊢
        simp (disch := omega) only [f_X1_determinant_24, e3, bit', Option.bind_some, qi, ql, qI_lt, qI_le, qI_eq, qI_L, qI_ix, qL_lt, qL_eq, q_nat, q_cs, ← Int32.ofInt_add, ← Int32.ofInt_sub, ← Int32.ofInt_mul, ← Int32.ofInt_neg, ← Int64.ofInt_add, ← Int64.ofInt_sub, ← Int64.ofInt_mul, ← Int64.ofInt_neg, pL_I, q_mx, q_mn, q_ab, q_abL, q_mnL, q_nn0, q_nn1, q_rr, q_b1, q_b0, q_T, q_F, q_iT, q_iF, q_d, q_in, q_wi, q_hC, q_hM, pT_i, pU_i, pS_i, pS_j, pS_0, Sum.elim_inl, Sum.elim_inr, if_pos, if_neg]
      · rw [if_neg tb] at bit' ⊢
        have fin : f_X1_determinant_68 (f_X1_determinant f) r (Int32.ofInt (i : Int)) (Int32.ofInt (mask : Int)) (Int32.ofInt col) (Int64.ofInt s.1) (Int64.ofInt s.2) (Int32.ofInt (c : Int)) (Int64.ofInt (m i c)) σ = some (.inl (Int64.ofInt (s.1 + s.2 * m i c * dl m d k (i + 1) (mask ||| 2 ^ c)), Int64.ofInt (-s.2), Int32.ofInt ((c : Int) + 1))) := by
          unfold f_X1_determinant_68
          by_cases z : Int64.ofInt (m i c) = 0
          · rw [if_pos z, Int64.ofInt_add, Int64.ofInt_mul, Int64.ofInt_mul, z, Int64.mul_zero, Int64.zero_mul, Int64.ofInt_neg, Int32.ofInt_add]
            rfl
          · rw [if_neg z]
            simp (disch := omega) only [or1', rcc, Option.bind_some, qi, ql, qI_lt, qI_le, qI_eq, qI_L, qI_ix, qL_lt, qL_eq, q_nat, q_cs, ← Int32.ofInt_add, ← Int32.ofInt_sub, ← Int32.ofInt_mul, ← Int32.ofInt_neg, ← Int64.ofInt_add, ← Int64.ofInt_sub, ← Int64.ofInt_mul, ← Int64.ofInt_neg, pL_I, q_mx, q_mn, q_ab, q_abL, q_mnL, q_nn0, q_nn1, q_rr, q_b1, q_b0, q_T, q_F, q_iT, q_iF, q_d, q_in, q_wi, q_hC, q_hM, pT_i, pU_i, pS_i, pS_j, pS_0, Sum.elim_inl, Sum.elim_inr, if_pos, if_neg]
        by_cases cc : (c : Int) = col
        · rw [if_pos cc] at hmc
          have i5 : (i : Int).toNat = i := q_nat i
          simp (disch := omega) only [f_X1_determinant_24, e3, bit', hmc, fin, Option.bind_some, qi, ql, qI_lt, qI_le, qI_eq, qI_L, qI_ix, qL_lt, qL_eq, q_nat, q_cs, ← Int32.ofInt_add, ← Int32.ofInt_sub, ← Int32.ofInt_mul, ← Int32.ofInt_neg, ← Int64.ofInt_add, ← Int64.ofInt_sub, ← Int64.ofInt_mul, ← Int64.ofInt_neg, pL_I, q_mx, q_mn, q_ab, q_abL, q_mnL, q_nn0, q_nn1, q_rr, q_b1, q_b0, q_T, q_F, q_iT, q_iF, q_d, q_in, q_wi, q_hC, q_hM, pT_i, pU_i, pS_i, pS_j, pS_0, Sum.elim_inl, Sum.elim_inr, if_pos, if_neg]
        · rw [if_neg cc] at hmc
          have i5 : ((i : Int) * 5 + (c : Int)).toNat = 5 * i + c := by omega
          simp (disch := omega) only [f_X1_determinant_24, e3, bit', i5, hmc, fin, Option.bind_some, qi, ql, qI_lt, qI_le, qI_eq, qI_L, qI_ix, qL_lt, qL_eq, q_nat, q_cs, ← Int32.ofInt_add, ← Int32.ofInt_sub, ← Int32.ofInt_mul, ← Int32.ofInt_neg, ← Int64.ofInt_add, ← Int64.ofInt_sub, ← Int64.ofInt_mul, ← Int64.ofInt_neg, pL_I, q_mx, q_mn, q_ab, q_abL, q_mnL, q_nn0, q_nn1, q_rr, q_b1, q_b0, q_T, q_F, q_iT, q_iF, q_d, q_in, q_wi, q_hC, q_hM, pT_i, pU_i, pS_i, pS_j, pS_0, Sum.elim_inl, Sum.elim_inr, if_pos, if_neg]
    · simp (disch := omega) only [f_X1_determinant_24, e3, Option.bind_some, qi, ql, qI_lt, qI_le, qI_eq, qI_L, qI_ix, qL_lt, qL_eq, q_nat, q_cs, ← Int32.ofInt_add, ← Int32.ofInt_sub, ← Int32.ofInt_mul, ← Int32.ofInt_neg, ← Int64.ofInt_add, ← Int64.ofInt_sub, ← Int64.ofInt_mul, ← Int64.ofInt_neg, pL_I, q_mx, q_mn, q_ab, q_abL, q_mnL, q_nn0, q_nn1, q_rr, q_b1, q_b0, q_T, q_F, q_iT, q_iF, q_d, q_in, q_wi, q_hC, q_hM, pT_i, pU_i, pS_i, pS_j, pS_0, Sum.elim_inl, Sum.elim_inr, if_pos, if_neg]
      rfl
