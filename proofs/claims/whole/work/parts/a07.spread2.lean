def py_lC : List (Nat × Nat) := [(0, 13), (0, 14), (0, 15), (0, 16)]
def py_lM : List (Nat × Nat) := [(12, 43), (12, 32), (12, 33), (12, 34)]
theorem py_try {σ : am_H} {D H : Nat → Int} {n : Nat} {S W z a o : Int} (hn : n ≤ 48) (A : py_A σ D H n) (o0 : 0 ≤ o) (o1 : o ≤ 5) (hW : -1 ≤ W ∧ W < o) (hS : 0 ≤ S ∧ S ≤ 240000) (s16 : σ.1 0 0 16 = Int32.ofInt S) (s13 : σ.1 0 0 13 = Int32.ofInt W) (s14 : σ.1 0 0 14 = Int32.ofInt z) (s15 : σ.1 0 0 15 = Int32.ofInt a) : ∃ (τ : am_H) (S' W' z' a' : Int), f_X0_trySpread (Int32.ofInt o) (Int32.ofInt n) σ = some τ ∧ qf py_lC σ τ ∧ τ.1 0 0 16 = Int32.ofInt S' ∧ τ.1 0 0 13 = Int32.ofInt W' ∧ τ.1 0 0 14 = Int32.ofInt z' ∧ τ.1 0 0 15 = Int32.ofInt a' ∧ (0 ≤ S' ∧ S' ≤ S) ∧ (-1 ≤ W' ∧ W' ≤ o) ∧ py_S (py_f D H n) py_V S W z a o S' W' z' a' := by
  have fb := fun (s t : Int) (h0 : 0 ≤ s) (h1 : s ≤ 100) => py_fb (D := D) (H := H) (n := n) (s := s) (t := t) hn (fun j hj => (A j hj).2.2.1) h0 h1
  obtain ⟨τ, k1, S', W', z', a', q, e16, e13, e14, e15, Sb, Wb, hk⟩ := am_loop_1 (B := fun x : Int32 × am_H => f_X0_trySpread_2 (Int32.ofInt o) (Int32.ofInt n) x.1 x.2) (fun N x => ∃ (t : Int) (ρ : am_H) (S' W' z' a' : Int), x = (Int32.ofInt t, ρ) ∧ (0 ≤ t ∧ t ≤ 24) ∧ qf py_lC σ ρ ∧ ρ.1 0 0 16 = Int32.ofInt S' ∧ ρ.1 0 0 13 = Int32.ofInt W' ∧ ρ.1 0 0 14 = Int32.ofInt z' ∧ ρ.1 0 0 15 = Int32.ofInt a' ∧ (0 ≤ S' ∧ S' ≤ S) ∧ (-1 ≤ W' ∧ W' ≤ o) ∧ py_S (py_f D H n) (fun s t' => (0 ≤ s ∧ s ≤ 99) ∧ (0 ≤ t' ∧ t' < t)) S W z a o S' W' z' a' ∧ N = (24 - t).toNat) (fun τ => ∃ (S' W' z' a' : Int), qf py_lC σ τ ∧ τ.1 0 0 16 = Int32.ofInt S' ∧ τ.1 0 0 13 = Int32.ofInt W' ∧ τ.1 0 0 14 = Int32.ofInt z' ∧ τ.1 0 0 15 = Int32.ofInt a' ∧ (0 ≤ S' ∧ S' ≤ S) ∧ (-1 ≤ W' ∧ W' ≤ o) ∧ py_S (py_f D H n) py_V S W z a o S' W' z' a') (by
    rintro N x ⟨t, ρ, S', W', z', a', rfl, tb, q, e16, e13, e14, e15, Sb, Wb, hk, rfl⟩
    by_cases ce : t < 24
    · right
      have A' : py_A ρ D H n := fun j hj => ⟨by rw [(q 100 0 j rfl).1]; exact (A j hj).1, by rw [(q 102 0 j rfl).1]; exact (A j hj).2.1, (A j hj).2.2.1, (A j hj).2.2.2⟩
      obtain ⟨m, mb, b1, b2⟩ := py_best hn A' (t := t) (by omega) (by omega)
      have b3 := py_sum hn A' (s := m) (t := t) (by omega) (by omega) (by omega) (by omega)
      have m1 := fb m t (by omega) (by omega)
      have ups : f_X0_trySpread_73 (Int32.ofInt o) (Int32.ofInt n) (Int32.ofInt t) (Int32.ofInt m) (Int32.ofInt (py_f D H n m t)) ρ = some (.inl (Int32.ofInt (t + 1), am_wI (am_wI (am_wI (am_wI ρ 0 0 16 (Int32.ofInt (py_f D H n m t))) 0 0 13 (Int32.ofInt o)) 0 0 14 (Int32.ofInt m)) 0 0 15 (Int32.ofInt t))) := by
        simp (disch := omega) only [f_X0_trySpread_73, Option.bind_some, qi, ql, qI_lt, qI_le, qI_eq, qI_L, qI_ix, qL_lt, qL_eq, q_nat, q_cs, ← Int32.ofInt_add, ← Int32.ofInt_sub, ← Int32.ofInt_mul, ← Int32.ofInt_neg, ← Int64.ofInt_add, ← Int64.ofInt_sub, ← Int64.ofInt_mul, ← Int64.ofInt_neg, pL_I, q_mx, q_mn, q_ab, q_abL, q_mnL, q_nn0, q_nn1, q_rr, q_b1, q_b0, q_T, q_F, q_iT, q_iF, q_d, q_in, q_wi, q_hC, q_hM, pT_i, pU_i, pS_i, pS_j, pS_0, Sum.elim_inl, Sum.elim_inr, if_pos, if_neg]
      have new : py_f D H n m t < S → pn_ok (fun s t' => (0 ≤ s ∧ s ≤ 99) ∧ (0 ≤ t' ∧ t' < t + 1)) (py_f D H n) m t → ∃ s' n', f_X0_trySpread_73 (Int32.ofInt o) (Int32.ofInt n) (Int32.ofInt t) (Int32.ofInt m) (Int32.ofInt (py_f D H n m t)) ρ = some (.inl s') ∧ n' < (24 - t).toNat ∧ ∃ (t1 : Int) (ρ : am_H) (S' W' z' a' : Int), s' = (Int32.ofInt t1, ρ) ∧ (0 ≤ t1 ∧ t1 ≤ 24) ∧ qf py_lC σ ρ ∧ ρ.1 0 0 16 = Int32.ofInt S' ∧ ρ.1 0 0 13 = Int32.ofInt W' ∧ ρ.1 0 0 14 = Int32.ofInt z' ∧ ρ.1 0 0 15 = Int32.ofInt a' ∧ (0 ≤ S' ∧ S' ≤ S) ∧ (-1 ≤ W' ∧ W' ≤ o) ∧ py_S (py_f D H n) (fun s t' => (0 ≤ s ∧ s ≤ 99) ∧ (0 ≤ t' ∧ t' < t1)) S W z a o S' W' z' a' ∧ n' = (24 - t1).toNat := fun h1 h2 => ⟨_, (24 - (t + 1)).toNat, ups, by omega, t + 1, _, py_f D H n m t, o, m, t, rfl, by omega, (((q.wI rfl).wI rfl).wI rfl).wI rfl, rfl, rfl, rfl, rfl, by omega, by omega, Or.inr ⟨rfl, mb, by omega, rfl, h1, h2⟩, rfl⟩
      have keep : py_S (py_f D H n) (fun s t' => (0 ≤ s ∧ s ≤ 99) ∧ (0 ≤ t' ∧ t' < t + 1)) S W z a o S' W' z' a' → ∃ s' n', (some (Sum.inl (Int32.ofInt (t + 1), ρ)) : Option ((Int32 × am_H) ⊕ am_H)) = some (.inl s') ∧ n' < (24 - t).toNat ∧ ∃ (t1 : Int) (ρ : am_H) (S' W' z' a' : Int), s' = (Int32.ofInt t1, ρ) ∧ (0 ≤ t1 ∧ t1 ≤ 24) ∧ qf py_lC σ ρ ∧ ρ.1 0 0 16 = Int32.ofInt S' ∧ ρ.1 0 0 13 = Int32.ofInt W' ∧ ρ.1 0 0 14 = Int32.ofInt z' ∧ ρ.1 0 0 15 = Int32.ofInt a' ∧ (0 ≤ S' ∧ S' ≤ S) ∧ (-1 ≤ W' ∧ W' ≤ o) ∧ py_S (py_f D H n) (fun s t' => (0 ≤ s ∧ s ≤ 99) ∧ (0 ≤ t' ∧ t' < t1)) S W z a o S' W' z' a' ∧ n' = (24 - t1).toNat := fun h => ⟨_, (24 - (t + 1)).toNat, rfl, by omega, t + 1, ρ, S', W', z', a', rfl, by omega, q, e16, e13, e14, e15, Sb, Wb, h, rfl⟩
      rcases hk with ⟨k1, k2, k3, k4, k5⟩ | ⟨k1, zb, ab, k2, k3, k4⟩
      · by_cases c1 : py_f D H n m t < S'
        · have ev : f_X0_trySpread_2 (Int32.ofInt o) (Int32.ofInt n) (Int32.ofInt t) ρ = f_X0_trySpread_73 (Int32.ofInt o) (Int32.ofInt n) (Int32.ofInt t) (Int32.ofInt m) (Int32.ofInt (py_f D H n m t)) ρ := by
            simp (disch := omega) only [f_X0_trySpread_2, f_X0_trySpread_57, b1, b3, e16, e13, Option.bind_some, qi, ql, qI_lt, qI_le, qI_eq, qI_L, qI_ix, qL_lt, qL_eq, q_nat, q_cs, ← Int32.ofInt_add, ← Int32.ofInt_sub, ← Int32.ofInt_mul, ← Int32.ofInt_neg, ← Int64.ofInt_add, ← Int64.ofInt_sub, ← Int64.ofInt_mul, ← Int64.ofInt_neg, pL_I, q_mx, q_mn, q_ab, q_abL, q_mnL, q_nn0, q_nn1, q_rr, q_b1, q_b0, q_T, q_F, q_iT, q_iF, q_d, q_in, q_wi, q_hC, q_hM, pT_i, pU_i, pS_i, pS_j, pS_0, Sum.elim_inl, Sum.elim_inr, if_pos, if_neg]
          show ∃ s' n', f_X0_trySpread_2 (Int32.ofInt o) (Int32.ofInt n) (Int32.ofInt t) ρ = some (.inl s') ∧ _
          rw [ev]
          refine new (by omega) ⟨by omega, fun x y hx => ?_⟩
          by_cases cy : y = t
          · subst cy
            have := b2 x (by omega) (by omega)
            omega
          · have := k5 x y (by omega)
            omega
        · have ev : f_X0_trySpread_2 (Int32.ofInt o) (Int32.ofInt n) (Int32.ofInt t) ρ = some (.inl (Int32.ofInt (t + 1), ρ)) := by
            by_cases c2 : py_f D H n m t = S'
            · simp (disch := omega) only [f_X0_trySpread_2, f_X0_trySpread_57, b1, b3, e16, e13, Option.bind_some, qi, ql, qI_lt, qI_le, qI_eq, qI_L, qI_ix, qL_lt, qL_eq, q_nat, q_cs, ← Int32.ofInt_add, ← Int32.ofInt_sub, ← Int32.ofInt_mul, ← Int32.ofInt_neg, ← Int64.ofInt_add, ← Int64.ofInt_sub, ← Int64.ofInt_mul, ← Int64.ofInt_neg, pL_I, q_mx, q_mn, q_ab, q_abL, q_mnL, q_nn0, q_nn1, q_rr, q_b1, q_b0, q_T, q_F, q_iT, q_iF, q_d, q_in, q_wi, q_hC, q_hM, pT_i, pU_i, pS_i, pS_j, pS_0, Sum.elim_inl, Sum.elim_inr, if_pos, if_neg]
            · simp (disch := omega) only [f_X0_trySpread_2, f_X0_trySpread_57, b1, b3, e16, e13, Option.bind_some, qi, ql, qI_lt, qI_le, qI_eq, qI_L, qI_ix, qL_lt, qL_eq, q_nat, q_cs, ← Int32.ofInt_add, ← Int32.ofInt_sub, ← Int32.ofInt_mul, ← Int32.ofInt_neg, ← Int64.ofInt_add, ← Int64.ofInt_sub, ← Int64.ofInt_mul, ← Int64.ofInt_neg, pL_I, q_mx, q_mn, q_ab, q_abL, q_mnL, q_nn0, q_nn1, q_rr, q_b1, q_b0, q_T, q_F, q_iT, q_iF, q_d, q_in, q_wi, q_hC, q_hM, pT_i, pU_i, pS_i, pS_j, pS_0, Sum.elim_inl, Sum.elim_inr, if_pos, if_neg]
          show ∃ s' n', f_X0_trySpread_2 (Int32.ofInt o) (Int32.ofInt n) (Int32.ofInt t) ρ = some (.inl s') ∧ _
          rw [ev]
          refine keep (Or.inl ⟨k1, k2, k3, k4, fun x y hx => ?_⟩)
          by_cases cy : y = t
          · subst cy
            have := b2 x (by omega) (by omega)
            omega
          · exact k5 x y (by omega)
      · by_cases c1 : py_f D H n m t < S' ∨ (py_f D H n m t = S' ∧ m < z')
        · have ev : f_X0_trySpread_2 (Int32.ofInt o) (Int32.ofInt n) (Int32.ofInt t) ρ = f_X0_trySpread_73 (Int32.ofInt o) (Int32.ofInt n) (Int32.ofInt t) (Int32.ofInt m) (Int32.ofInt (py_f D H n m t)) ρ := by
            by_cases c2 : py_f D H n m t < S'
            · simp (disch := omega) only [f_X0_trySpread_2, f_X0_trySpread_57, b1, b3, e16, e13, Option.bind_some, qi, ql, qI_lt, qI_le, qI_eq, qI_L, qI_ix, qL_lt, qL_eq, q_nat, q_cs, ← Int32.ofInt_add, ← Int32.ofInt_sub, ← Int32.ofInt_mul, ← Int32.ofInt_neg, ← Int64.ofInt_add, ← Int64.ofInt_sub, ← Int64.ofInt_mul, ← Int64.ofInt_neg, pL_I, q_mx, q_mn, q_ab, q_abL, q_mnL, q_nn0, q_nn1, q_rr, q_b1, q_b0, q_T, q_F, q_iT, q_iF, q_d, q_in, q_wi, q_hC, q_hM, pT_i, pU_i, pS_i, pS_j, pS_0, Sum.elim_inl, Sum.elim_inr, if_pos, if_neg]
            · simp (disch := omega) only [f_X0_trySpread_2, f_X0_trySpread_57, b1, b3, e16, e13, e14, Option.bind_some, qi, ql, qI_lt, qI_le, qI_eq, qI_L, qI_ix, qL_lt, qL_eq, q_nat, q_cs, ← Int32.ofInt_add, ← Int32.ofInt_sub, ← Int32.ofInt_mul, ← Int32.ofInt_neg, ← Int64.ofInt_add, ← Int64.ofInt_sub, ← Int64.ofInt_mul, ← Int64.ofInt_neg, pL_I, q_mx, q_mn, q_ab, q_abL, q_mnL, q_nn0, q_nn1, q_rr, q_b1, q_b0, q_T, q_F, q_iT, q_iF, q_d, q_in, q_wi, q_hC, q_hM, pT_i, pU_i, pS_i, pS_j, pS_0, Sum.elim_inl, Sum.elim_inr, if_pos, if_neg]
          show ∃ s' n', f_X0_trySpread_2 (Int32.ofInt o) (Int32.ofInt n) (Int32.ofInt t) ρ = some (.inl s') ∧ _
          rw [ev]
          refine new (by omega) ⟨by omega, fun x y hx => ?_⟩
          by_cases cy : y = t
          · subst cy
            have := b2 x (by omega) (by omega)
            omega
          · have := k4.2 x y (by omega)
            omega
        · have ev : f_X0_trySpread_2 (Int32.ofInt o) (Int32.ofInt n) (Int32.ofInt t) ρ = some (.inl (Int32.ofInt (t + 1), ρ)) := by
            by_cases c2 : py_f D H n m t = S'
            · simp (disch := omega) only [f_X0_trySpread_2, f_X0_trySpread_57, b1, b3, e16, e13, e14, Option.bind_some, qi, ql, qI_lt, qI_le, qI_eq, qI_L, qI_ix, qL_lt, qL_eq, q_nat, q_cs, ← Int32.ofInt_add, ← Int32.ofInt_sub, ← Int32.ofInt_mul, ← Int32.ofInt_neg, ← Int64.ofInt_add, ← Int64.ofInt_sub, ← Int64.ofInt_mul, ← Int64.ofInt_neg, pL_I, q_mx, q_mn, q_ab, q_abL, q_mnL, q_nn0, q_nn1, q_rr, q_b1, q_b0, q_T, q_F, q_iT, q_iF, q_d, q_in, q_wi, q_hC, q_hM, pT_i, pU_i, pS_i, pS_j, pS_0, Sum.elim_inl, Sum.elim_inr, if_pos, if_neg]
            · simp (disch := omega) only [f_X0_trySpread_2, f_X0_trySpread_57, b1, b3, e16, e13, e14, Option.bind_some, qi, ql, qI_lt, qI_le, qI_eq, qI_L, qI_ix, qL_lt, qL_eq, q_nat, q_cs, ← Int32.ofInt_add, ← Int32.ofInt_sub, ← Int32.ofInt_mul, ← Int32.ofInt_neg, ← Int64.ofInt_add, ← Int64.ofInt_sub, ← Int64.ofInt_mul, ← Int64.ofInt_neg, pL_I, q_mx, q_mn, q_ab, q_abL, q_mnL, q_nn0, q_nn1, q_rr, q_b1, q_b0, q_T, q_F, q_iT, q_iF, q_d, q_in, q_wi, q_hC, q_hM, pT_i, pU_i, pS_i, pS_j, pS_0, Sum.elim_inl, Sum.elim_inr, if_pos, if_neg]
          show ∃ s' n', f_X0_trySpread_2 (Int32.ofInt o) (Int32.ofInt n) (Int32.ofInt t) ρ = some (.inl s') ∧ _
          rw [ev]
          have k41 := k4.1
          refine keep (Or.inr ⟨k1, zb, ab, k2, k3, by omega, fun x y hx => ?_⟩)
          by_cases cy : y = t
          · subst cy
            have := b2 x (by omega) (by omega)
            omega
          · exact k4.2 x y (by omega)
    · left
      refine ⟨ρ, ?_, S', W', z', a', q, e16, e13, e14, e15, Sb, Wb, ?_⟩
      · simp (disch := omega) only [f_X0_trySpread_2, Option.bind_some, qi, ql, qI_lt, qI_le, qI_eq, qI_L, qI_ix, qL_lt, qL_eq, q_nat, q_cs, ← Int32.ofInt_add, ← Int32.ofInt_sub, ← Int32.ofInt_mul, ← Int32.ofInt_neg, ← Int64.ofInt_add, ← Int64.ofInt_sub, ← Int64.ofInt_mul, ← Int64.ofInt_neg, pL_I, q_mx, q_mn, q_ab, q_abL, q_mnL, q_nn0, q_nn1, q_rr, q_b1, q_b0, q_T, q_F, q_iT, q_iF, q_d, q_in, q_wi, q_hC, q_hM, pT_i, pU_i, pS_i, pS_j, pS_0, Sum.elim_inl, Sum.elim_inr, if_pos, if_neg]
      · have e : (fun s t' : Int => (0 ≤ s ∧ s ≤ 99) ∧ (0 ≤ t' ∧ t' < t)) = py_V := funext fun x => funext fun y => propext (by unfold py_V; omega)
        rw [e] at hk
        exact hk) _ (Int32.ofInt 0, σ) ⟨0, σ, S, W, z, a, rfl, by omega, qf.rf, s16, s13, s14, s15, by omega, by omega, Or.inl ⟨rfl, rfl, rfl, rfl, fun s t h => by omega⟩, rfl⟩
  refine ⟨τ, S', W', z', a', ?_, q, e16, e13, e14, e15, Sb, Wb, hk⟩
  simp (disch := omega) only [f_X0_trySpread, k1, Option.bind_some, qi, ql, qI_lt, qI_le, qI_eq, qI_L, qI_ix, qL_lt, qL_eq, q_nat, q_cs, ← Int32.ofInt_add, ← Int32.ofInt_sub, ← Int32.ofInt_mul, ← Int32.ofInt_neg, ← Int64.ofInt_add, ← Int64.ofInt_sub, ← Int64.ofInt_mul, ← Int64.ofInt_neg, pL_I, q_mx, q_mn, q_ab, q_abL, q_mnL, q_nn0, q_nn1, q_rr, q_b1, q_b0, q_T, q_F, q_iT, q_iF, q_d, q_in, q_wi, q_hC, q_hM, pT_i, pU_i, pS_i, pS_j, pS_0, Sum.elim_inl, Sum.elim_inr, if_pos, if_neg]
/-- the reference's sum -/
theorem py_sumM {σ : am_H} {m wc o n : Nat} {ws : Nat → Nat → Int} {zz y s t : Int} {lo : Nat → Int} {v2 : Int32} (hm : m < 3) (hn : n ≤ 48) (M : ph_M σ m wc ws zz) (ho : o < wc) (y0 : 0 ≤ y) (y1 : y + n ≤ 100000) (hl : ∀ j, j < n → σ.1 1385 0 j = Int32.ofInt (lo j) ∧ -1188 ≤ lo j ∧ lo j ≤ 1188) (s0 : 0 ≤ s) (s1 : s ≤ 99) (t0 : 0 ≤ t) (t1 : t ≤ 23) : am_loop (fun x : Int64 × Int32 => f_X12_spread_161 (Int32.ofInt m) v2 (Int32.ofInt y) (Int32.ofInt n) (Int32.ofInt o) (Int32.ofInt (24 * s + t)) x.1 x.2 σ) (Int64.ofInt 0, Int32.ofInt 0) = some (Int64.ofInt (py_f (fun j => lo j + ws o 2 * pc_cos (pw_place (ws o) (y + j) false)) (fun j => (pw_tg (ws o) (y + j)).tmod 24) n s t)) := by
  obtain ⟨d1, d2, d3, d4, d5⟩ := M
  obtain ⟨ok, Mw⟩ := d5 o ho
  have k2 : 0 ≤ ws o 2 ∧ ws o 2 ≤ 99 := ok.2.2.1
  have eq1 : (24 * s + t).tdiv 24 = s := by
    rw [Int.tdiv_eq_ediv_of_nonneg (by omega)]
    omega
  have eq2 : (24 * s + t).tmod 24 = t := by
    rw [Int.tmod_eq_emod_of_nonneg (by omega)]
    omega
  refine am_loop_n (body := fun x : Int64 × Int32 => f_X12_spread_161 (Int32.ofInt m) v2 (Int32.ofInt y) (Int32.ofInt n) (Int32.ofInt o) (Int32.ofInt (24 * s + t)) x.1 x.2 σ) (fun i => (Int64.ofInt (py_f (fun j => lo j + ws o 2 * pc_cos (pw_place (ws o) (y + j) false)) (fun j => (pw_tg (ws o) (y + j)).tmod 24) i s t), Int32.ofInt i)) n ?_ ?_
  · intro i hi
    obtain ⟨l1, l2⟩ := hl i hi
    have tgb := pw_tg_b ok (h := y + i) (by omega) (by omega)
    have tf := pm_trueFrom ok Mw hm (by omega) (h := y + i) (by omega) (by omega)
    have tp := pm_truePlace ok Mw hm (by omega) (h := y + i) (by omega) (by omega)
    have pb := pw_place_b (b := false) ok (h := y + i) (by omega) (by omega)
    have cs := pm_cosine (σ := σ) pb.1 pb.2
    obtain ⟨o0, o1, o2, -⟩ := pm_o Mw hm (by omega)
    have n1 := Int.tmod_nonneg (a := pw_tg (ws o) (y + i)) 24 (by omega)
    have n2 := Int.tmod_lt_of_pos (pw_tg (ws o) (y + i)) (b := 24) (by omega)
    have em : ((pw_tg (ws o) (y + i)).tmod 24 + t).tmod 24 = ((pw_tg (ws o) (y + i)).tmod 24 + t) % 24 := Int.tmod_eq_emod_of_nonneg (by omega)
    have ec : f_X12_cosine (Int32.ofInt (((pw_tg (ws o) (y + i)).tmod 24 + t) % 24)) σ = some (Int32.ofInt (pc_cos ((pw_tg (ws o) (y + i)).tmod 24 + t))) := by
      rw [pm_cosine (by omega) (by omega), pc_mod]
    have c1 := pc_b ((pw_tg (ws o) (y + i)).tmod 24 + t)
    have c2 := pc_b (pw_place (ws o) (y + i) false)
    have e1 : s * pc_cos ((pw_tg (ws o) (y + i)).tmod 24 + t) ≤ s * 12 := Int.mul_le_mul_of_nonneg_left c1.2 s0
    have e2 : s * (-12) ≤ s * pc_cos ((pw_tg (ws o) (y + i)).tmod 24 + t) := Int.mul_le_mul_of_nonneg_left c1.1 s0
    have e3 : ws o 2 * pc_cos (pw_place (ws o) (y + i) false) ≤ ws o 2 * 12 := Int.mul_le_mul_of_nonneg_left c2.2 k2.1
    have e4 : ws o 2 * (-12) ≤ ws o 2 * pc_cos (pw_place (ws o) (y + i) false) := Int.mul_le_mul_of_nonneg_left c2.1 k2.1
    show _ = some (Sum.inl (Int64.ofInt (py_f (fun j => lo j + ws o 2 * pc_cos (pw_place (ws o) (y + j) false)) (fun j => (pw_tg (ws o) (y + j)).tmod 24) i s t + (((lo i + ws o 2 * pc_cos (pw_place (ws o) (y + i) false) - s * pc_cos ((pw_tg (ws o) (y + i)).tmod 24 + t)).natAbs : Nat) : Int)), Int32.ofInt ((i + 1 : Nat) : Int)))
    simp (disch := omega) only [f_X12_spread_161, o2, tp, cs, tf, qI_rem, qI_div, eq1, eq2, em, ec, l1, Option.bind_some, qi, ql, qI_lt, qI_le, qI_eq, qI_L, qI_ix, qL_lt, qL_eq, q_nat, q_cs, ← Int32.ofInt_add, ← Int32.ofInt_sub, ← Int32.ofInt_mul, ← Int32.ofInt_neg, ← Int64.ofInt_add, ← Int64.ofInt_sub, ← Int64.ofInt_mul, ← Int64.ofInt_neg, pL_I, q_mx, q_mn, q_ab, q_abL, q_mnL, q_nn0, q_nn1, q_rr, q_b1, q_b0, q_T, q_F, q_iT, q_iF, q_d, q_in, q_wi, q_hC, q_hM, pT_i, pU_i, pS_i, pS_j, pS_0, Sum.elim_inl, Sum.elim_inr, if_pos, if_neg]
  · simp (disch := omega) only [f_X12_spread_161, Option.bind_some, qi, ql, qI_lt, qI_le, qI_eq, qI_L, qI_ix, qL_lt, qL_eq, q_nat, q_cs, ← Int32.ofInt_add, ← Int32.ofInt_sub, ← Int32.ofInt_mul, ← Int32.ofInt_neg, ← Int64.ofInt_add, ← Int64.ofInt_sub, ← Int64.ofInt_mul, ← Int64.ofInt_neg, pL_I, q_mx, q_mn, q_ab, q_abL, q_mnL, q_nn0, q_nn1, q_rr, q_b1, q_b0, q_T, q_F, q_iT, q_iF, q_d, q_in, q_wi, q_hC, q_hM, pT_i, pU_i, pS_i, pS_j, pS_0, Sum.elim_inl, Sum.elim_inr, if_pos, if_neg]
