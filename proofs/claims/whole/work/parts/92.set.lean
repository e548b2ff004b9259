/-! ===== set ===== -/
def pw_set (w : Nat → Int) (s t : Int) : Nat → Int := fun k => if k = 2 then s else if k = 3 then t else w k
theorem pw_set_ok {w : Nat → Int} {s t : Int} (ok : pw_ok w) (s0 : 0 ≤ s) (s1 : s ≤ 99) (t0 : 0 ≤ t) (t1 : t ≤ 23) : pw_ok (pw_set w s t) := by
  obtain ⟨a, b, c, d, e, f, g, h, i⟩ := ok
  exact ⟨a, b, ⟨s0, s1⟩, ⟨t0, t1⟩, e, f, g, h, i⟩
theorem pw_set_tr {w : Nat → Int} {s t : Int} (tr : pw_tr w) : pw_tr (pw_set w s t) := by
  intro k hk
  have h := tr k hk
  show 5 ≤ (if 5 + k = 2 then s else if 5 + k = 3 then t else w (5 + k))
  rw [if_neg (by omega), if_neg (by omega)]
  exact h
theorem pw_set_C {σ : am_H} {r : Nat} {w : Nat → Int} {s t : Int} (C : pw_C σ r w) : pw_C (am_wI (am_wI σ 10 r 3 (Int32.ofInt s)) 10 r 4 (Int32.ofInt t)) r (pw_set w s t) := by
  obtain ⟨c0, c1, c2, c3, c4, c5, c6, c7⟩ := C
  refine ⟨?_, ?_, ?_, ?_, ?_, fun k hk => ?_, c6, c7⟩
  · simp [am_wI, am_u3]; exact c0
  · simp [am_wI, am_u3]; exact c1
  · simp [am_wI, am_u3]; rfl
  · simp [am_wI, am_u3]; rfl
  · simp [am_wI, am_u3]; exact c4
  · have h := c5 k hk
    simp [am_wI, am_u3]
    rw [h]
    show Int32.ofInt (w (5 + k)) = Int32.ofInt (if 5 + k = 2 then s else if 5 + k = 3 then t else w (5 + k))
    rw [if_neg (by omega), if_neg (by omega)]
theorem pw_ne_C {σ : am_H} {r r' : Nat} {w : Nat → Int} {s t : Int} (C : pw_C σ r' w) (hr : r' ≠ r) : pw_C (am_wI (am_wI σ 10 r 3 (Int32.ofInt s)) 10 r 4 (Int32.ofInt t)) r' w := by
  obtain ⟨c0, c1, c2, c3, c4, c5, c6, c7⟩ := C
  refine ⟨?_, ?_, ?_, ?_, ?_, c5, c6, c7⟩
  · simp [am_wI, am_u3]; exact c0
  · simp [am_wI, am_u3]; exact c1
  · simp [am_wI, am_u3, hr]; exact c2
  · simp [am_wI, am_u3, hr]; exact c3
  · simp [am_wI, am_u3]; exact c4
theorem pw_set_M {σ : am_H} {m i : Nat} {w : Nat → Int} {s t : Int} (M : pw_M σ m i w) : pw_M (am_wI (am_wI σ 1324 0 (54 * m + 9 * i + 2) (Int32.ofInt s)) 1324 0 (54 * m + 9 * i + 3) (Int32.ofInt t)) m i (pw_set w s t) := by
  intro k hk
  have h := M k hk
  show (if 1324 = 1324 ∧ 0 = 0 ∧ 54 * m + 9 * i + k = 54 * m + 9 * i + 3 then Int32.ofInt t else if 1324 = 1324 ∧ 0 = 0 ∧ 54 * m + 9 * i + k = 54 * m + 9 * i + 2 then Int32.ofInt s else σ.1 1324 0 (54 * m + 9 * i + k)) = Int32.ofInt (if k = 2 then s else if k = 3 then t else w k)
  by_cases c3 : k = 3
  · subst c3
    rw [if_pos ⟨rfl, rfl, rfl⟩, if_neg (by omega), if_pos rfl]
  · by_cases c2 : k = 2
    · subst c2
      rw [if_neg (by omega), if_pos ⟨rfl, rfl, rfl⟩, if_pos rfl]
    · rw [if_neg (by omega), if_neg (by omega), if_neg c2, if_neg c3]
      exact h
theorem pw_ne_M {σ : am_H} {m i m' i' : Nat} {w : Nat → Int} {s t : Int} (M : pw_M σ m' i' w) (hi : i < 6) (hi' : i' < 6) (hn : m' ≠ m ∨ i' ≠ i) : pw_M (am_wI (am_wI σ 1324 0 (54 * m + 9 * i + 2) (Int32.ofInt s)) 1324 0 (54 * m + 9 * i + 3) (Int32.ofInt t)) m' i' w := by
  intro k hk
  have h := M k hk
  show (if 1324 = 1324 ∧ 0 = 0 ∧ 54 * m' + 9 * i' + k = 54 * m + 9 * i + 3 then Int32.ofInt t else if 1324 = 1324 ∧ 0 = 0 ∧ 54 * m' + 9 * i' + k = 54 * m + 9 * i + 2 then Int32.ofInt s else σ.1 1324 0 (54 * m' + 9 * i' + k)) = Int32.ofInt (w k)
  rw [if_neg (by omega), if_neg (by omega)]
  exact h
theorem pr_mach_set {σ1 σ2 : am_H} {m a m' a' i : Nat} {s t : Int} (X : pr_mach σ1 σ2 m' a') (hi : i < 6) (hma : m' = m ↔ a' = a) (s0 : 0 ≤ s) (s1 : s ≤ 99) (t0 : 0 ≤ t) (t1 : t ≤ 23) : pr_mach (am_wI (am_wI σ1 10 (6 * a + i) 3 (Int32.ofInt s)) 10 (6 * a + i) 4 (Int32.ofInt t)) (am_wI (am_wI σ2 1324 0 (54 * m + 9 * i + 2) (Int32.ofInt s)) 1324 0 (54 * m + 9 * i + 3) (Int32.ofInt t)) m' a' := by
  obtain ⟨wc, ws, zr, sl, kc, kw, kt, ⟨c1, c2, c3, c4, c5⟩, ⟨d1, d2, d3, d4, d5⟩, tr, q1, q2, q3, k1, k2, k3, k4⟩ := X
  refine ⟨wc, fun j => if m' = m ∧ j = i then pw_set (ws j) s t else ws j, zr, sl, kc, kw, kt, ⟨c1, c2, c3, c4, fun j hj => ?_⟩, ⟨d1, d2, d3, d4, fun j hj => ?_⟩, fun j hj => ?_, q1, q2, q3, k1, k2, k3, k4⟩
  · by_cases c : m' = m ∧ j = i
    · simp only [if_pos c]
      obtain ⟨cm, rfl⟩ := c
      have ea := hma.mp cm
      subst ea
      exact ⟨pw_set_ok (c5 j hj).1 s0 s1 t0 t1, pw_set_C (c5 j hj).2⟩
    · simp only [if_neg c]
      refine ⟨(c5 j hj).1, pw_ne_C (c5 j hj).2 (fun e => c ?_)⟩
      have ea : a' = a := by omega
      exact ⟨hma.mpr ea, by omega⟩
  · by_cases c : m' = m ∧ j = i
    · simp only [if_pos c]
      obtain ⟨rfl, rfl⟩ := c
      exact ⟨pw_set_ok (d5 j hj).1 s0 s1 t0 t1, pw_set_M (d5 j hj).2⟩
    · simp only [if_neg c]
      exact ⟨(d5 j hj).1, pw_ne_M (d5 j hj).2 hi (by omega) (by omega)⟩
  · by_cases c : m' = m ∧ j = i
    · simp only [if_pos c]
      exact pw_set_tr (tr j hj)
    · simp only [if_neg c]
      exact tr j hj
theorem po_12 : am_op_12 pr_Rel := by
  intro σ1 σ2 h v1 v2 v3 v4
  obtain ⟨x, x1, x2, rfl⟩ := q_ex v1
  obtain ⟨y, y1, y2, rfl⟩ := q_ex v2
  obtain ⟨s, s1, s2, rfl⟩ := q_ex v3
  obtain ⟨t, t1, t2, rfl⟩ := q_ex v4
  rcases pr_w (h.2.S 0) x1 x2 y1 y2 with ⟨e1, e2⟩ | ⟨m, a, i, w, hm, ha, hi, rfl, rfl, hr, em, eM, ea, e1, e2, ok, tr, C, M, -⟩
  · refine pr_ro h false 2 ?_ ?_
    · simp (disch := omega) only [f_X11_set, f_X11_no, e1, Option.bind_some, qi, ql, qI_lt, qI_le, qI_eq, qI_L, qI_ix, qL_lt, qL_eq, q_nat, q_cs, ← Int32.ofInt_add, ← Int32.ofInt_sub, ← Int32.ofInt_mul, ← Int32.ofInt_neg, ← Int64.ofInt_add, ← Int64.ofInt_sub, ← Int64.ofInt_mul, ← Int64.ofInt_neg, pL_I, q_mx, q_mn, q_ab, q_abL, q_mnL, q_nn0, q_nn1, q_rr, q_b1, q_b0, q_T, q_F, q_iT, q_iF, q_d, q_in, q_wi, q_hC, q_hM, pT_i, pU_i, pS_i, pS_j, pS_0, Sum.elim_inl, Sum.elim_inr, if_pos, if_neg]
    · simp (disch := omega) only [f_X12_set, f_X12_no, e2, Option.bind_some, qi, ql, qI_lt, qI_le, qI_eq, qI_L, qI_ix, qL_lt, qL_eq, q_nat, q_cs, ← Int32.ofInt_add, ← Int32.ofInt_sub, ← Int32.ofInt_mul, ← Int32.ofInt_neg, ← Int64.ofInt_add, ← Int64.ofInt_sub, ← Int64.ofInt_mul, ← Int64.ofInt_neg, pL_I, q_mx, q_mn, q_ab, q_abL, q_mnL, q_nn0, q_nn1, q_rr, q_b1, q_b0, q_T, q_F, q_iT, q_iF, q_d, q_in, q_wi, q_hC, q_hM, pT_i, pU_i, pS_i, pS_j, pS_0, Sum.elim_inl, Sum.elim_inr, if_pos, if_neg]
  · by_cases cs : 0 ≤ s ∧ s ≤ 99
    · by_cases ct : 0 ≤ t ∧ t ≤ 23
      · have i2 : (54 * (m : Int) + 9 * i + 2).toNat = 54 * m + 9 * i + 2 := by omega
        have i3 : (54 * (m : Int) + 9 * i + 3).toNat = 54 * m + 9 * i + 3 := by omega
        refine ⟨true, pT (am_wI (am_wI σ1 10 (6 * a + i) 3 (Int32.ofInt s)) 10 (6 * a + i) 4 (Int32.ofInt t)) 0, am_wI (am_wI (pS σ2 0) 1324 0 (54 * m + 9 * i + 2) (Int32.ofInt s)) 1324 0 (54 * m + 9 * i + 3) (Int32.ofInt t), ?_, ?_, rfl, ?_⟩
        · simp (disch := omega) only [f_X11_set, f_X11_yes, e1, Option.bind_some, qi, ql, qI_lt, qI_le, qI_eq, qI_L, qI_ix, qL_lt, qL_eq, q_nat, q_cs, ← Int32.ofInt_add, ← Int32.ofInt_sub, ← Int32.ofInt_mul, ← Int32.ofInt_neg, ← Int64.ofInt_add, ← Int64.ofInt_sub, ← Int64.ofInt_mul, ← Int64.ofInt_neg, pL_I, q_mx, q_mn, q_ab, q_abL, q_mnL, q_nn0, q_nn1, q_rr, q_b1, q_b0, q_T, q_F, q_iT, q_iF, q_d, q_in, q_wi, q_hC, q_hM, pT_i, pU_i, pS_i, pS_j, pS_0, Sum.elim_inl, Sum.elim_inr, if_pos, if_neg]
        · simp (disch := omega) only [f_X12_set, f_X12_cell, e2, i2, i3, Option.bind_some, qi, ql, qI_lt, qI_le, qI_eq, qI_L, qI_ix, qL_lt, qL_eq, q_nat, q_cs, ← Int32.ofInt_add, ← Int32.ofInt_sub, ← Int32.ofInt_mul, ← Int32.ofInt_neg, ← Int64.ofInt_add, ← Int64.ofInt_sub, ← Int64.ofInt_mul, ← Int64.ofInt_neg, pL_I, q_mx, q_mn, q_ab, q_abL, q_mnL, q_nn0, q_nn1, q_rr, q_b1, q_b0, q_T, q_F, q_iT, q_iF, q_d, q_in, q_wi, q_hC, q_hM, pT_i, pU_i, pS_i, pS_j, pS_0, Sum.elim_inl, Sum.elim_inr, if_pos, if_neg]
        · refine (h.2.S 0).st [(11, 0), (10, 3), (10, 4)] [(1324, 999)] [4] (by decide +kernel) (((qf.rf.wI rfl).wI rfl).wI rfl) ((qf.rf.wI rfl).wI rfl) ?_
          intro n hn
          rw [List.mem_singleton] at hn
          subst hn
          obtain ⟨a0, a1, a2, b, ⟨n01, n02, n12⟩, r0, r1, r2, m0, m1⟩ := (show pr_machs σ1 (pS σ2 0) from h.2.S 0 4 (by omega))
          have hma0 : 0 = m ↔ a0 = a := by
            rcases (by omega : m = 0 ∨ m = 1) with rfl | rfl
            · rw [r0] at hr
              exact ⟨fun _ => Option.some.inj hr, fun _ => rfl⟩
            · rw [r1] at hr
              have := Option.some.inj hr
              omega
          have hma1 : 1 = m ↔ a1 = a := by
            rcases (by omega : m = 0 ∨ m = 1) with rfl | rfl
            · rw [r0] at hr
              have := Option.some.inj hr
              omega
            · rw [r1] at hr
              exact ⟨fun _ => Option.some.inj hr, fun _ => rfl⟩
          have M0 := pr_mach_set (m := m) (a := a) m0 hi hma0 cs.1 cs.2 ct.1 ct.2
          have M1 := pr_mach_set (m := m) (a := a) m1 hi hma1 cs.1 cs.2 ct.1 ct.2
          have f : qa (pr_fC 4) (am_wI (am_wI σ1 10 (6 * a + i) 3 (Int32.ofInt s)) 10 (6 * a + i) 4 (Int32.ofInt t)) (pT (am_wI (am_wI σ1 10 (6 * a + i) 3 (Int32.ofInt s)) 10 (6 * a + i) 4 (Int32.ofInt t)) 0) := pT_f.a (by decide +kernel)
          exact ⟨a0, a1, a2, b, ⟨n01, n02, n12⟩, r0, r1, r2, qa_mach f (qf.rf.a (l := []) (by decide +kernel)) M0, qa_mach f (qf.rf.a (l := []) (by decide +kernel)) M1⟩
      · refine pr_ro h false 5 ?_ ?_
        · simp (disch := omega) only [f_X11_set, f_X11_set_40, f_X11_no, e1, Option.bind_some, qi, ql, qI_lt, qI_le, qI_eq, qI_L, qI_ix, qL_lt, qL_eq, q_nat, q_cs, ← Int32.ofInt_add, ← Int32.ofInt_sub, ← Int32.ofInt_mul, ← Int32.ofInt_neg, ← Int64.ofInt_add, ← Int64.ofInt_sub, ← Int64.ofInt_mul, ← Int64.ofInt_neg, pL_I, q_mx, q_mn, q_ab, q_abL, q_mnL, q_nn0, q_nn1, q_rr, q_b1, q_b0, q_T, q_F, q_iT, q_iF, q_d, q_in, q_wi, q_hC, q_hM, pT_i, pU_i, pS_i, pS_j, pS_0, Sum.elim_inl, Sum.elim_inr, if_pos, if_neg]
        · simp (disch := omega) only [f_X12_set, f_X12_set_50, f_X12_no, e2, Option.bind_some, qi, ql, qI_lt, qI_le, qI_eq, qI_L, qI_ix, qL_lt, qL_eq, q_nat, q_cs, ← Int32.ofInt_add, ← Int32.ofInt_sub, ← Int32.ofInt_mul, ← Int32.ofInt_neg, ← Int64.ofInt_add, ← Int64.ofInt_sub, ← Int64.ofInt_mul, ← Int64.ofInt_neg, pL_I, q_mx, q_mn, q_ab, q_abL, q_mnL, q_nn0, q_nn1, q_rr, q_b1, q_b0, q_T, q_F, q_iT, q_iF, q_d, q_in, q_wi, q_hC, q_hM, pT_i, pU_i, pS_i, pS_j, pS_0, Sum.elim_inl, Sum.elim_inr, if_pos, if_neg]
    · refine pr_ro h false 5 ?_ ?_
      · simp (disch := omega) only [f_X11_set, f_X11_set_40, f_X11_no, e1, Option.bind_some, qi, ql, qI_lt, qI_le, qI_eq, qI_L, qI_ix, qL_lt, qL_eq, q_nat, q_cs, ← Int32.ofInt_add, ← Int32.ofInt_sub, ← Int32.ofInt_mul, ← Int32.ofInt_neg, ← Int64.ofInt_add, ← Int64.ofInt_sub, ← Int64.ofInt_mul, ← Int64.ofInt_neg, pL_I, q_mx, q_mn, q_ab, q_abL, q_mnL, q_nn0, q_nn1, q_rr, q_b1, q_b0, q_T, q_F, q_iT, q_iF, q_d, q_in, q_wi, q_hC, q_hM, pT_i, pU_i, pS_i, pS_j, pS_0, Sum.elim_inl, Sum.elim_inr, if_pos, if_neg]
      · simp (disch := omega) only [f_X12_set, f_X12_set_50, f_X12_no, e2, Option.bind_some, qi, ql, qI_lt, qI_le, qI_eq, qI_L, qI_ix, qL_lt, qL_eq, q_nat, q_cs, ← Int32.ofInt_add, ← Int32.ofInt_sub, ← Int32.ofInt_mul, ← Int32.ofInt_neg, ← Int64.ofInt_add, ← Int64.ofInt_sub, ← Int64.ofInt_mul, ← Int64.ofInt_neg, pL_I, q_mx, q_mn, q_ab, q_abL, q_mnL, q_nn0, q_nn1, q_rr, q_b1, q_b0, q_T, q_F, q_iT, q_iF, q_d, q_in, q_wi, q_hC, q_hM, pT_i, pU_i, pS_i, pS_j, pS_0, Sum.elim_inl, Sum.elim_inr, if_pos, if_neg]
