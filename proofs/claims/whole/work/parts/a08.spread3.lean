theorem py_ref {σ : am_H} {m wc o w n : Nat} {ws : Nat → Nat → Int} {zz y S W z a : Int} {lo : Nat → Int} (hm : m < 3) (hn : n ≤ 48) (M : ph_M σ m wc ws zz) (ho : o < wc) (hw : w < 6) (hne : o ≠ w) (y0 : 0 ≤ y) (y1 : y + n ≤ 100000) (hl : ∀ j, j < n → σ.1 1385 0 j = Int32.ofInt (lo j) ∧ -1188 ≤ lo j ∧ lo j ≤ 1188) (hS : 0 ≤ S ∧ S ≤ 240000) (hW : -1 ≤ W ∧ W < (o : Int)) (s43 : σ.2.1 12 0 43 = Int64.ofInt S) (s32 : σ.1 12 0 32 = Int32.ofInt W) (s33 : σ.1 12 0 33 = Int32.ofInt z) (s34 : σ.1 12 0 34 = Int32.ofInt a) : ∃ (τ : am_H) (S' W' z' a' : Int), am_loop (fun x : Int32 × am_H => f_X12_spread_141 (Int32.ofInt m) (Int32.ofInt w) (Int32.ofInt y) (Int32.ofInt n) (Int32.ofInt o) x.1 x.2) (Int32.ofInt 0, σ) = some τ ∧ qf py_lM σ τ ∧ τ.2.1 12 0 43 = Int64.ofInt S' ∧ τ.1 12 0 32 = Int32.ofInt W' ∧ τ.1 12 0 33 = Int32.ofInt z' ∧ τ.1 12 0 34 = Int32.ofInt a' ∧ py_S (py_f (fun j => lo j + ws o 2 * pc_cos (pw_place (ws o) (y + j) false)) (fun j => (pw_tg (ws o) (y + j)).tmod 24) n) py_V S W z a o S' W' z' a' := by
  have w6 := M.1
  have ok := (M.2.2.2.2 o ho).1
  have k2 : 0 ≤ ws o 2 ∧ ws o 2 ≤ 99 := ok.2.2.1
  have sm := fun (ρ : am_H) (q : qf py_lM σ ρ) (s t : Int) (s0 : 0 ≤ s) (s1 : s ≤ 99) (t0 : 0 ≤ t) (t1 : t ≤ 23) => py_sumM (v2 := Int32.ofInt w) (lo := lo) hm hn (ph_Mq (q.a (by decide +kernel)) M) ho y0 y1 (fun j hj => ⟨by rw [(q 1385 0 j rfl).1]; exact (hl j hj).1, (hl j hj).2⟩) s0 s1 t0 t1
  have fb := fun (s t : Int) (h0 : 0 ≤ s) (h1 : s ≤ 99) => py_fb (D := fun j => lo j + ws o 2 * pc_cos (pw_place (ws o) (y + j) false)) (H := fun j => (pw_tg (ws o) (y + j)).tmod 24) (n := n) (s := s) (t := t) hn (fun j hj => by
    have := (hl j hj).2
    have c2 := pc_b (pw_place (ws o) (y + j) false)
    have e3 : ws o 2 * pc_cos (pw_place (ws o) (y + j) false) ≤ ws o 2 * 12 := Int.mul_le_mul_of_nonneg_left c2.2 k2.1
    have e4 : ws o 2 * (-12) ≤ ws o 2 * pc_cos (pw_place (ws o) (y + j) false) := Int.mul_le_mul_of_nonneg_left c2.1 k2.1
    show -3000 ≤ lo j + ws o 2 * pc_cos (pw_place (ws o) (y + j) false) ∧ lo j + ws o 2 * pc_cos (pw_place (ws o) (y + j) false) ≤ 3000
    omega) h0 (by omega)
  generalize hf : py_f (fun j => lo j + ws o 2 * pc_cos (pw_place (ws o) (y + j) false)) (fun j => (pw_tg (ws o) (y + j)).tmod 24) n = f at *
  refine am_loop_1 (B := fun x : Int32 × am_H => f_X12_spread_141 (Int32.ofInt m) (Int32.ofInt w) (Int32.ofInt y) (Int32.ofInt n) (Int32.ofInt o) x.1 x.2) (fun N x => ∃ (v : Int) (ρ : am_H) (S' W' z' a' : Int), x = (Int32.ofInt v, ρ) ∧ (0 ≤ v ∧ v ≤ 2400) ∧ qf py_lM σ ρ ∧ ρ.2.1 12 0 43 = Int64.ofInt S' ∧ ρ.1 12 0 32 = Int32.ofInt W' ∧ ρ.1 12 0 33 = Int32.ofInt z' ∧ ρ.1 12 0 34 = Int32.ofInt a' ∧ (0 ≤ S' ∧ S' ≤ S) ∧ py_S f (fun s t => (0 ≤ s ∧ s ≤ 99) ∧ (0 ≤ t ∧ t ≤ 23) ∧ 24 * s + t < v) S W z a o S' W' z' a' ∧ N = (2400 - v).toNat) (fun τ => ∃ (S' W' z' a' : Int), qf py_lM σ τ ∧ τ.2.1 12 0 43 = Int64.ofInt S' ∧ τ.1 12 0 32 = Int32.ofInt W' ∧ τ.1 12 0 33 = Int32.ofInt z' ∧ τ.1 12 0 34 = Int32.ofInt a' ∧ py_S f py_V S W z a o S' W' z' a') ?_ _ (Int32.ofInt 0, σ) ⟨0, σ, S, W, z, a, rfl, by omega, qf.rf, s43, s32, s33, s34, by omega, Or.inl ⟨rfl, rfl, rfl, rfl, fun s t h => by omega⟩, rfl⟩ |> fun ⟨τ, k1, S', W', z', a', k2⟩ => ⟨τ, S', W', z', a', k1, k2⟩
  rintro N x ⟨v, ρ, S', W', z', a', rfl, vb, q, e43, e32, e33, e34, Sb, hk, rfl⟩
  by_cases ce : v < 2400
  · right
    obtain ⟨s, t, rfl, sb, tb⟩ : ∃ s t : Int, v = 24 * s + t ∧ (0 ≤ s ∧ s ≤ 99) ∧ (0 ≤ t ∧ t ≤ 23) := ⟨v / 24, v % 24, by omega, by omega, by omega⟩
    have eq1 : (24 * s + t).tdiv 24 = s := by
      rw [Int.tdiv_eq_ediv_of_nonneg (by omega)]
      omega
    have eq2 : (24 * s + t).tmod 24 = t := by
      rw [Int.tmod_eq_emod_of_nonneg (by omega)]
      omega
    have lp := sm ρ q s t sb.1 sb.2 tb.1 tb.2
    have d := fb s t sb.1 sb.2
    have eV : ∀ x y : Int, ((0 ≤ x ∧ x ≤ 99) ∧ (0 ≤ y ∧ y ≤ 23) ∧ 24 * x + y < 24 * s + t + 1) → (x = s ∧ y = t) ∨ ((0 ≤ x ∧ x ≤ 99) ∧ (0 ≤ y ∧ y ≤ 23) ∧ 24 * x + y < 24 * s + t) := fun x y h => by omega
    by_cases c1 : f s t < S'
    · refine ⟨(Int32.ofInt (24 * s + t + 1), am_wI (am_wI (am_wI (am_wL ρ 12 0 43 (Int64.ofInt (f s t))) 12 0 32 (Int32.ofInt o)) 12 0 33 (Int32.ofInt s)) 12 0 34 (Int32.ofInt t)), (2400 - (24 * s + t + 1)).toNat, ?_, by omega, 24 * s + t + 1, _, f s t, o, s, t, rfl, by omega, (((q.wL rfl).wI rfl).wI rfl).wI rfl, rfl, rfl, rfl, rfl, by omega, Or.inr ⟨rfl, sb, tb, rfl, by omega, by omega, fun x y hx => ?_⟩, rfl⟩
      · simp (disch := omega) only [f_X12_spread_141, lp, e43, qI_div, qI_rem, eq1, eq2, Option.bind_some, qi, ql, qI_lt, qI_le, qI_eq, qI_L, qI_ix, qL_lt, qL_eq, q_nat, q_cs, ← Int32.ofInt_add, ← Int32.ofInt_sub, ← Int32.ofInt_mul, ← Int32.ofInt_neg, ← Int64.ofInt_add, ← Int64.ofInt_sub, ← Int64.ofInt_mul, ← Int64.ofInt_neg, pL_I, q_mx, q_mn, q_ab, q_abL, q_mnL, q_nn0, q_nn1, q_rr, q_b1, q_b0, q_T, q_F, q_iT, q_iF, q_d, q_in, q_wi, q_hC, q_hM, pT_i, pU_i, pS_i, pS_j, pS_0, Sum.elim_inl, Sum.elim_inr, if_pos, if_neg]
      · rcases eV x y hx with ⟨rfl, rfl⟩ | hx
        · omega
        · rcases hk with ⟨k1, k2, k3, k4, k5⟩ | ⟨k1, zb, ab, k2, k3, k4⟩
          · have := k5 x y hx
            omega
          · have := k4.2 x y hx
            omega
    · refine ⟨(Int32.ofInt (24 * s + t + 1), ρ), (2400 - (24 * s + t + 1)).toNat, ?_, by omega, 24 * s + t + 1, ρ, S', W', z', a', rfl, by omega, q, e43, e32, e33, e34, Sb, ?_, rfl⟩
      · simp (disch := omega) only [f_X12_spread_141, lp, e43, Option.bind_some, qi, ql, qI_lt, qI_le, qI_eq, qI_L, qI_ix, qL_lt, qL_eq, q_nat, q_cs, ← Int32.ofInt_add, ← Int32.ofInt_sub, ← Int32.ofInt_mul, ← Int32.ofInt_neg, ← Int64.ofInt_add, ← Int64.ofInt_sub, ← Int64.ofInt_mul, ← Int64.ofInt_neg, pL_I, q_mx, q_mn, q_ab, q_abL, q_mnL, q_nn0, q_nn1, q_rr, q_b1, q_b0, q_T, q_F, q_iT, q_iF, q_d, q_in, q_wi, q_hC, q_hM, pT_i, pU_i, pS_i, pS_j, pS_0, Sum.elim_inl, Sum.elim_inr, if_pos, if_neg]
      · rcases hk with ⟨k1, k2, k3, k4, k5⟩ | ⟨k1, zb, ab, k2, k3, k4⟩
        · refine Or.inl ⟨k1, k2, k3, k4, fun x y hx => ?_⟩
          rcases eV x y hx with ⟨rfl, rfl⟩ | hx
          · omega
          · exact k5 x y hx
        · have k41 := k4.1
          refine Or.inr ⟨k1, zb, ab, k2, k3, by omega, fun x y hx => ?_⟩
          rcases eV x y hx with ⟨rfl, rfl⟩ | hx
          · omega
          · exact k4.2 x y hx
  · left
    refine ⟨ρ, ?_, S', W', z', a', q, e43, e32, e33, e34, ?_⟩
    · simp (disch := omega) only [f_X12_spread_141, Option.bind_some, qi, ql, qI_lt, qI_le, qI_eq, qI_L, qI_ix, qL_lt, qL_eq, q_nat, q_cs, ← Int32.ofInt_add, ← Int32.ofInt_sub, ← Int32.ofInt_mul, ← Int32.ofInt_neg, ← Int64.ofInt_add, ← Int64.ofInt_sub, ← Int64.ofInt_mul, ← Int64.ofInt_neg, pL_I, q_mx, q_mn, q_ab, q_abL, q_mnL, q_nn0, q_nn1, q_rr, q_b1, q_b0, q_T, q_F, q_iT, q_iF, q_d, q_in, q_wi, q_hC, q_hM, pT_i, pU_i, pS_i, pS_j, pS_0, Sum.elim_inl, Sum.elim_inr, if_pos, if_neg]
    · have e : (fun s t : Int => (0 ≤ s ∧ s ≤ 99) ∧ (0 ≤ t ∧ t ≤ 23) ∧ 24 * s + t < v) = py_V := funext fun x => funext fun y => propext (by unfold py_V; omega)
      rw [e] at hk
      exact hk
/-- the class makes ready -/
theorem py_prep {σ : am_H} {a wc b o n : Nat} {ws : Nat → Nat → Int} {zr y : Int} (hn : n ≤ 48) (C : ph_C σ a wc ws zr) (hb : b < wc) (ho : o < wc) (y0 : 0 ≤ y) (y1 : y + n ≤ 100000) : ∃ τ : am_H, f_X0_prepareSpread (6 * a + b) (6 * a + o) (Int32.ofInt y) (Int32.ofInt n) σ = some τ ∧ qf [(100, 999), (102, 999)] σ τ ∧ py_A τ (fun j => ws b 2 * pc_cos (pw_place (ws b) (y + j) false) + ws o 2 * pc_cos (pw_place (ws o) (y + j) false)) (fun j => (pw_tg (ws o) (y + j)).tmod 24) n := by
  obtain ⟨τ, k1, q1, A⟩ := am_loop_1 (B := fun x : Int32 × am_H => f_X0_prepareSpread_3 (6 * a + b) (6 * a + o) (Int32.ofInt y) (Int32.ofInt n) x.1 x.2) (fun N x => ∃ (i : Nat) (ρ : am_H), x = (Int32.ofInt i, ρ) ∧ i ≤ n ∧ qf [(100, 999), (102, 999)] σ ρ ∧ py_A ρ (fun j => ws b 2 * pc_cos (pw_place (ws b) (y + j) false) + ws o 2 * pc_cos (pw_place (ws o) (y + j) false)) (fun j => (pw_tg (ws o) (y + j)).tmod 24) i ∧ N = n - i) (fun τ => qf [(100, 999), (102, 999)] σ τ ∧ py_A τ (fun j => ws b 2 * pc_cos (pw_place (ws b) (y + j) false) + ws o 2 * pc_cos (pw_place (ws o) (y + j) false)) (fun j => (pw_tg (ws o) (y + j)).tmod 24) n) (by
    rintro N x ⟨i, ρ, rfl, hi, q, A, rfl⟩
    by_cases ce : i < n
    · right
      have C' := ph_Cq (q.a (by decide +kernel)) C
      obtain ⟨okb, Cb⟩ := C'.2.2.2.2 b hb
      obtain ⟨oko, Co⟩ := C'.2.2.2.2 o ho
      have kb : 0 ≤ ws b 2 ∧ ws b 2 ≤ 99 := okb.2.2.1
      have ko : 0 ≤ ws o 2 ∧ ws o 2 ≤ 99 := oko.2.2.1
      have p1 := pw_placeAt (b := false) okb Cb (h := y + i) (by omega) (by omega)
      have p2 := pw_placeAt (b := false) oko Co (h := y + i) (by omega) (by omega)
      have b1 := pw_place_b (b := false) okb (h := y + i) (by omega) (by omega)
      have b2 := pw_place_b (b := false) oko (h := y + i) (by omega) (by omega)
      have tgb := pw_tg_b oko (h := y + i) (by omega) (by omega)
      have tg := fun v => pw_trueGone (σ := am_wI ρ 100 0 i v) oko Co (h := y + i) (by omega) (by omega)
      have n1 := Int.tmod_nonneg (a := pw_tg (ws o) (y + i)) 24 (by omega)
      have n2 := Int.tmod_lt_of_pos (pw_tg (ws o) (y + i)) (b := 24) (by omega)
      have c1 := pc_b (pw_place (ws b) (y + i) false)
      have c2 := pc_b (pw_place (ws o) (y + i) false)
      have e1 : ws b 2 * pc_cos (pw_place (ws b) (y + i) false) ≤ ws b 2 * 12 := Int.mul_le_mul_of_nonneg_left c1.2 kb.1
      have e2 : ws b 2 * (-12) ≤ ws b 2 * pc_cos (pw_place (ws b) (y + i) false) := Int.mul_le_mul_of_nonneg_left c1.1 kb.1
      have e3 : ws o 2 * pc_cos (pw_place (ws o) (y + i) false) ≤ ws o 2 * 12 := Int.mul_le_mul_of_nonneg_left c2.2 ko.1
      have e4 : ws o 2 * (-12) ≤ ws o 2 * pc_cos (pw_place (ws o) (y + i) false) := Int.mul_le_mul_of_nonneg_left c2.1 ko.1
      have zb : ρ.1 10 (6 * a + b) 3 = Int32.ofInt (ws b 2) := Cb.2.2.1
      have zo : ρ.1 10 (6 * a + o) 3 = Int32.ofInt (ws o 2) := Co.2.2.1
      refine ⟨(Int32.ofInt ((i : Int) + 1), am_wI (am_wI ρ 100 0 i (Int32.ofInt (ws b 2 * pc_cos (pw_place (ws b) (y + i) false) + ws o 2 * pc_cos (pw_place (ws o) (y + i) false)))) 102 0 i (Int32.ofInt ((pw_tg (ws o) (y + i)).tmod 24))), n - (i + 1), ?_, by omega, i + 1, _, rfl, by omega, (q.wI rfl).wI rfl, fun j hj => ?_, rfl⟩
      · simp (disch := omega) only [f_X0_prepareSpread_3, p1, p2, q_cos, zb, zo, tg, qL_rem, Option.bind_some, qi, ql, qI_lt, qI_le, qI_eq, qI_L, qI_ix, qL_lt, qL_eq, q_nat, q_cs, ← Int32.ofInt_add, ← Int32.ofInt_sub, ← Int32.ofInt_mul, ← Int32.ofInt_neg, ← Int64.ofInt_add, ← Int64.ofInt_sub, ← Int64.ofInt_mul, ← Int64.ofInt_neg, pL_I, q_mx, q_mn, q_ab, q_abL, q_mnL, q_nn0, q_nn1, q_rr, q_b1, q_b0, q_T, q_F, q_iT, q_iF, q_d, q_in, q_wi, q_hC, q_hM, pT_i, pU_i, pS_i, pS_j, pS_0, Sum.elim_inl, Sum.elim_inr, if_pos, if_neg]
      · by_cases cj : j = i
        · subst cj
          refine ⟨by simp [am_wI, am_u3], by simp [am_wI, am_u3], ?_, ?_⟩
          · show -3000 ≤ ws b 2 * pc_cos (pw_place (ws b) (y + j) false) + ws o 2 * pc_cos (pw_place (ws o) (y + j) false) ∧ ws b 2 * pc_cos (pw_place (ws b) (y + j) false) + ws o 2 * pc_cos (pw_place (ws o) (y + j) false) ≤ 3000
            omega
          · show 0 ≤ (pw_tg (ws o) (y + j)).tmod 24 ∧ (pw_tg (ws o) (y + j)).tmod 24 ≤ 23
            omega
        · obtain ⟨u1, u2, u3, u4⟩ := A j (by omega)
          exact ⟨by rw [am_wI_r, if_neg (by omega), am_wI_r, if_neg (by omega)]; exact u1, by rw [am_wI_r, if_neg (by omega), am_wI_r, if_neg (by omega)]; exact u2, u3, u4⟩
    · left
      have : i = n := by omega
      subst this
      refine ⟨ρ, ?_, q, A⟩
      simp (disch := omega) only [f_X0_prepareSpread_3, Option.bind_some, qi, ql, qI_lt, qI_le, qI_eq, qI_L, qI_ix, qL_lt, qL_eq, q_nat, q_cs, ← Int32.ofInt_add, ← Int32.ofInt_sub, ← Int32.ofInt_mul, ← Int32.ofInt_neg, ← Int64.ofInt_add, ← Int64.ofInt_sub, ← Int64.ofInt_mul, ← Int64.ofInt_neg, pL_I, q_mx, q_mn, q_ab, q_abL, q_mnL, q_nn0, q_nn1, q_rr, q_b1, q_b0, q_T, q_F, q_iT, q_iF, q_d, q_in, q_wi, q_hC, q_hM, pT_i, pU_i, pS_i, pS_j, pS_0, Sum.elim_inl, Sum.elim_inr, if_pos, if_neg]) n (Int32.ofInt 0, σ) ⟨0, σ, rfl, by omega, qf.rf, fun j hj => by omega, rfl⟩
  refine ⟨τ, ?_, q1, A⟩
  simp (disch := omega) only [f_X0_prepareSpread, k1, Option.bind_some, qi, ql, qI_lt, qI_le, qI_eq, qI_L, qI_ix, qL_lt, qL_eq, q_nat, q_cs, ← Int32.ofInt_add, ← Int32.ofInt_sub, ← Int32.ofInt_mul, ← Int32.ofInt_neg, ← Int64.ofInt_add, ← Int64.ofInt_sub, ← Int64.ofInt_mul, ← Int64.ofInt_neg, pL_I, q_mx, q_mn, q_ab, q_abL, q_mnL, q_nn0, q_nn1, q_rr, q_b1, q_b0, q_T, q_F, q_iT, q_iF, q_d, q_in, q_wi, q_hC, q_hM, pT_i, pU_i, pS_i, pS_j, pS_0, Sum.elim_inl, Sum.elim_inr, if_pos, if_neg]
def py_R (ρ1 ρ2 : am_H) (S W : Int) : Prop := ρ1.1 0 0 16 = Int32.ofInt S ∧ ρ2.2.1 12 0 43 = Int64.ofInt S ∧ (0 ≤ S ∧ S ≤ 240000) ∧ ρ1.1 0 0 13 = Int32.ofInt W ∧ ρ2.1 12 0 32 = Int32.ofInt W ∧ (0 ≤ W → ρ1.1 0 0 14 = ρ2.1 12 0 33 ∧ ρ1.1 0 0 15 = ρ2.1 12 0 34)
theorem py_waves {τ1 τ2 : am_H} {m a wc b n : Nat} {ws : Nat → Nat → Int} {zr y S : Int} (hm : m < 3) (hn : n ≤ 48) (C : ph_C τ1 a wc ws zr) (M : ph_M τ2 m wc ws (max zr 0)) (hb : b < wc) (y0 : 0 ≤ y) (y1 : y + n ≤ 100000) (hl : ∀ j, j < n → τ2.1 1385 0 j = Int32.ofInt (ws b 2 * pc_cos (pw_place (ws b) (y + j) false))) (R : py_R τ1 τ2 S (-1)) : ∃ (ρ1 ρ2 : am_H) (S' W' : Int), am_loop (fun x : Int32 × am_H => f_X0_findSpread_92 a (Int32.ofInt b) (Int32.ofInt y) (Int32.ofInt n) (6 * a + b) x.1 x.2) (Int32.ofInt 0, τ1) = some ρ1 ∧ am_loop (fun x : Int32 × am_H => f_X12_spread_127 (Int32.ofInt m) (Int32.ofInt b) (Int32.ofInt y) (Int32.ofInt n) x.1 x.2) (Int32.ofInt 0, τ2) = some ρ2 ∧ qf [(0, 13), (0, 14), (0, 15), (0, 16), (100, 999), (102, 999)] τ1 ρ1 ∧ qf py_lM τ2 ρ2 ∧ (-1 ≤ W' ∧ W' ≤ 5) ∧ py_R ρ1 ρ2 S' W' := by
  have w6 := C.1
  have okb := (C.2.2.2.2 b hb).1
  have kb : 0 ≤ ws b 2 ∧ ws b 2 ≤ 99 := okb.2.2.1
  have lb : ∀ j : Nat, -1188 ≤ ws b 2 * pc_cos (pw_place (ws b) (y + j) false) ∧ ws b 2 * pc_cos (pw_place (ws b) (y + j) false) ≤ 1188 := fun j => by
    have c1 := pc_b (pw_place (ws b) (y + j) false)
    have e1 : ws b 2 * pc_cos (pw_place (ws b) (y + j) false) ≤ ws b 2 * 12 := Int.mul_le_mul_of_nonneg_left c1.2 kb.1
    have e2 : ws b 2 * (-12) ≤ ws b 2 * pc_cos (pw_place (ws b) (y + j) false) := Int.mul_le_mul_of_nonneg_left c1.1 kb.1
    omega
  obtain ⟨r1, r2, e1, e2, q1, q2, S', W', Wb, R'⟩ := am_loop_2 (B1 := fun x : Int32 × am_H => f_X0_findSpread_92 a (Int32.ofInt b) (Int32.ofInt y) (Int32.ofInt n) (6 * a + b) x.1 x.2) (B2 := fun x : Int32 × am_H => f_X12_spread_127 (Int32.ofInt m) (Int32.ofInt b) (Int32.ofInt y) (Int32.ofInt n) x.1 x.2) (fun N s1 s2 => ∃ (o : Nat) (ρ1 ρ2 : am_H) (S W : Int), s1 = (Int32.ofInt o, ρ1) ∧ s2 = (Int32.ofInt o, ρ2) ∧ o ≤ wc ∧ qf [(0, 13), (0, 14), (0, 15), (0, 16), (100, 999), (102, 999)] τ1 ρ1 ∧ qf py_lM τ2 ρ2 ∧ (-1 ≤ W ∧ W < (o : Int) ∨ W = -1) ∧ py_R ρ1 ρ2 S W ∧ N = wc - o) (fun r1 r2 => qf [(0, 13), (0, 14), (0, 15), (0, 16), (100, 999), (102, 999)] τ1 r1 ∧ qf py_lM τ2 r2 ∧ ∃ S W : Int, (-1 ≤ W ∧ W ≤ 5) ∧ py_R r1 r2 S W) (by
    rintro N s1 s2 ⟨o, ρ1, ρ2, S, W, rfl, rfl, ho, q1, q2, Wb, R, rfl⟩
    have C' := ph_Cq (q1.a (by decide +kernel)) C
    have M' := ph_Mq (q2.a (by decide +kernel)) M
    have c2 := C'.2.1
    have d2 := M'.2.1
    by_cases ce : o < wc
    · right
      by_cases cb : o = b
      · subst cb
        have lp : am_loop (fun x : Int32 × am_H => f_X12_spread_141 (Int32.ofInt m) (Int32.ofInt o) (Int32.ofInt y) (Int32.ofInt n) (Int32.ofInt o) x.1 x.2) (Int32.ofInt 0, ρ2) = some ρ2 := by
          refine am_loop_out ?_
          simp (disch := omega) only [f_X12_spread_141, Option.bind_some, qi, ql, qI_lt, qI_le, qI_eq, qI_L, qI_ix, qL_lt, qL_eq, q_nat, q_cs, ← Int32.ofInt_add, ← Int32.ofInt_sub, ← Int32.ofInt_mul, ← Int32.ofInt_neg, ← Int64.ofInt_add, ← Int64.ofInt_sub, ← Int64.ofInt_mul, ← Int64.ofInt_neg, pL_I, q_mx, q_mn, q_ab, q_abL, q_mnL, q_nn0, q_nn1, q_rr, q_b1, q_b0, q_T, q_F, q_iT, q_iF, q_d, q_in, q_wi, q_hC, q_hM, pT_i, pU_i, pS_i, pS_j, pS_0, Sum.elim_inl, Sum.elim_inr, if_pos, if_neg]
        refine ⟨(Int32.ofInt ((o : Int) + 1), ρ1), (Int32.ofInt ((o : Int) + 1), ρ2), wc - (o + 1), ?_, ?_, by omega, o + 1, ρ1, ρ2, S, W, rfl, rfl, by omega, q1, q2, by omega, R, rfl⟩
        · simp (disch := omega) only [f_X0_findSpread_92, c2, Option.bind_some, qi, ql, qI_lt, qI_le, qI_eq, qI_L, qI_ix, qL_lt, qL_eq, q_nat, q_cs, ← Int32.ofInt_add, ← Int32.ofInt_sub, ← Int32.ofInt_mul, ← Int32.ofInt_neg, ← Int64.ofInt_add, ← Int64.ofInt_sub, ← Int64.ofInt_mul, ← Int64.ofInt_neg, pL_I, q_mx, q_mn, q_ab, q_abL, q_mnL, q_nn0, q_nn1, q_rr, q_b1, q_b0, q_T, q_F, q_iT, q_iF, q_d, q_in, q_wi, q_hC, q_hM, pT_i, pU_i, pS_i, pS_j, pS_0, Sum.elim_inl, Sum.elim_inr, if_pos, if_neg]
        · simp (disch := omega) only [f_X12_spread_127, d2, lp, Option.bind_some, qi, ql, qI_lt, qI_le, qI_eq, qI_L, qI_ix, qL_lt, qL_eq, q_nat, q_cs, ← Int32.ofInt_add, ← Int32.ofInt_sub, ← Int32.ofInt_mul, ← Int32.ofInt_neg, ← Int64.ofInt_add, ← Int64.ofInt_sub, ← Int64.ofInt_mul, ← Int64.ofInt_neg, pL_I, q_mx, q_mn, q_ab, q_abL, q_mnL, q_nn0, q_nn1, q_rr, q_b1, q_b0, q_T, q_F, q_iT, q_iF, q_d, q_in, q_wi, q_hC, q_hM, pT_i, pU_i, pS_i, pS_j, pS_0, Sum.elim_inl, Sum.elim_inr, if_pos, if_neg]
      · obtain ⟨r16, r43, Sb, r13, r32, rW⟩ := R
        obtain ⟨z, -, -, s14⟩ := q_ex (ρ1.1 0 0 14)
        obtain ⟨aa, -, -, s15⟩ := q_ex (ρ1.1 0 0 15)
        obtain ⟨z2, -, -, s33⟩ := q_ex (ρ2.1 12 0 33)
        obtain ⟨a2, -, -, s34⟩ := q_ex (ρ2.1 12 0 34)
        obtain ⟨π, f1, p1, A⟩ := py_prep hn C' hb ce y0 y1
        obtain ⟨π1, S1, W1, z1, a1, f2, p2, t16, t13, t14, t15, S1b, W1b, k1⟩ := py_try (σ := π) (S := S) (W := W) (z := z) (a := aa) (o := o) hn A (by omega) (by omega) (by omega) Sb (by rw [(p1 0 0 16 rfl).1]; exact r16) (by rw [(p1 0 0 13 rfl).1]; exact r13) (by rw [(p1 0 0 14 rfl).1]; exact s14) (by rw [(p1 0 0 15 rfl).1]; exact s15)
        obtain ⟨π2, S3, W3, z3, a3, f3, p3, t43, t32, t33, t34, k3⟩ := py_ref (σ := ρ2) (w := b) (S := S) (W := W) (z := z2) (a := a2) (lo := fun j => ws b 2 * pc_cos (pw_place (ws b) (y + j) false)) hm hn M' ce (by omega) cb y0 y1 (fun j hj => ⟨by rw [(q2 1385 0 j rfl).1]; exact hl j hj, lb j⟩) Sb (by omega) r43 r32 s33 s34
        obtain ⟨u1, u2, u3⟩ := py_one k1 k3
        subst u1 u2
        refine ⟨(Int32.ofInt ((o : Int) + 1), π1), (Int32.ofInt ((o : Int) + 1), π2), wc - (o + 1), ?_, ?_, by omega, o + 1, π1, π2, S1, W1, rfl, rfl, by omega, (q1.tr (p1.mo (by decide))).tr (p2.mo (by decide)), q2.tr p3, by omega, ⟨t16, t43, by omega, t13, t32, fun hw => ?_⟩, rfl⟩
        · simp (disch := omega) only [f_X0_findSpread_92, c2, f1, f2, Option.bind_some, qi, ql, qI_lt, qI_le, qI_eq, qI_L, qI_ix, qL_lt, qL_eq, q_nat, q_cs, ← Int32.ofInt_add, ← Int32.ofInt_sub, ← Int32.ofInt_mul, ← Int32.ofInt_neg, ← Int64.ofInt_add, ← Int64.ofInt_sub, ← Int64.ofInt_mul, ← Int64.ofInt_neg, pL_I, q_mx, q_mn, q_ab, q_abL, q_mnL, q_nn0, q_nn1, q_rr, q_b1, q_b0, q_T, q_F, q_iT, q_iF, q_d, q_in, q_wi, q_hC, q_hM, pT_i, pU_i, pS_i, pS_j, pS_0, Sum.elim_inl, Sum.elim_inr, if_pos, if_neg]
        · simp (disch := omega) only [f_X12_spread_127, d2, f3, Option.bind_some, qi, ql, qI_lt, qI_le, qI_eq, qI_L, qI_ix, qL_lt, qL_eq, q_nat, q_cs, ← Int32.ofInt_add, ← Int32.ofInt_sub, ← Int32.ofInt_mul, ← Int32.ofInt_neg, ← Int64.ofInt_add, ← Int64.ofInt_sub, ← Int64.ofInt_mul, ← Int64.ofInt_neg, pL_I, q_mx, q_mn, q_ab, q_abL, q_mnL, q_nn0, q_nn1, q_rr, q_b1, q_b0, q_T, q_F, q_iT, q_iF, q_d, q_in, q_wi, q_hC, q_hM, pT_i, pU_i, pS_i, pS_j, pS_0, Sum.elim_inl, Sum.elim_inr, if_pos, if_neg]
        · rcases u3 with ⟨v1, v2, v3, v4, v5⟩ | ⟨v1, v2, -⟩
          · have := rW (by omega)
            rw [t14, t15, t33, t34, v1, v2, v3, v4, ← s14, ← s15, ← s33, ← s34]
            exact this
          · rw [t14, t15, t33, t34, v1, v2]
            exact ⟨rfl, rfl⟩
    · left
      refine ⟨ρ1, ρ2, ?_, ?_, q1, q2, S, W, by omega, R⟩
      · simp (disch := omega) only [f_X0_findSpread_92, c2, Option.bind_some, qi, ql, qI_lt, qI_le, qI_eq, qI_L, qI_ix, qL_lt, qL_eq, q_nat, q_cs, ← Int32.ofInt_add, ← Int32.ofInt_sub, ← Int32.ofInt_mul, ← Int32.ofInt_neg, ← Int64.ofInt_add, ← Int64.ofInt_sub, ← Int64.ofInt_mul, ← Int64.ofInt_neg, pL_I, q_mx, q_mn, q_ab, q_abL, q_mnL, q_nn0, q_nn1, q_rr, q_b1, q_b0, q_T, q_F, q_iT, q_iF, q_d, q_in, q_wi, q_hC, q_hM, pT_i, pU_i, pS_i, pS_j, pS_0, Sum.elim_inl, Sum.elim_inr, if_pos, if_neg]
      · simp (disch := omega) only [f_X12_spread_127, d2, Option.bind_some, qi, ql, qI_lt, qI_le, qI_eq, qI_L, qI_ix, qL_lt, qL_eq, q_nat, q_cs, ← Int32.ofInt_add, ← Int32.ofInt_sub, ← Int32.ofInt_mul, ← Int32.ofInt_neg, ← Int64.ofInt_add, ← Int64.ofInt_sub, ← Int64.ofInt_mul, ← Int64.ofInt_neg, pL_I, q_mx, q_mn, q_ab, q_abL, q_mnL, q_nn0, q_nn1, q_rr, q_b1, q_b0, q_T, q_F, q_iT, q_iF, q_d, q_in, q_wi, q_hC, q_hM, pT_i, pU_i, pS_i, pS_j, pS_0, Sum.elim_inl, Sum.elim_inr, if_pos, if_neg]) _ (Int32.ofInt 0, τ1) (Int32.ofInt 0, τ2) ⟨0, τ1, τ2, S, -1, rfl, rfl, by omega, qf.rf, qf.rf, Or.inr rfl, R, rfl⟩
  exact ⟨r1, r2, S', W', e1, e2, q1, q2, Wb, R'⟩
theorem po_33 : am_op_33 pr_Rel := by
  intro σ1 σ2 h v1 v2 v3 v4
  obtain ⟨x, x1, x2, rfl⟩ := q_ex v1
  obtain ⟨b, b1, b2, rfl⟩ := q_ex v2
  obtain ⟨y, y1, y2, rfl⟩ := q_ex v3
  obtain ⟨z, z1, z2, rfl⟩ := q_ex v4
  rcases pr_w (h.2.S 0) x1 x2 b1 b2 with ⟨e1, e2⟩ | ⟨m, a, b, w, hm, ha, hb6, rfl, rfl, hr, em, eM, ea, e1, e2, ok, tr, Cw, Mw, wc, ws, zr, hb, rfl, C, M, -⟩
  · refine pr_ro h (Int32.ofInt (-1)) 2 ?_ ?_
    · rcases pr_m (h.2.S 0) x1 x2 with ⟨c, f1, f2⟩ | ⟨m, a, hm, ha, rfl, hr, f1, f2, M⟩
      · simp (disch := omega) only [f_X11_spread, f_X11_spread_21, f_X11_none, f1, Option.bind_some, qi, ql, qI_lt, qI_le, qI_eq, qI_L, qI_ix, qL_lt, qL_eq, q_nat, q_cs, ← Int32.ofInt_add, ← Int32.ofInt_sub, ← Int32.ofInt_mul, ← Int32.ofInt_neg, ← Int64.ofInt_add, ← Int64.ofInt_sub, ← Int64.ofInt_mul, ← Int64.ofInt_neg, pL_I, q_mx, q_mn, q_ab, q_abL, q_mnL, q_nn0, q_nn1, q_rr, q_b1, q_b0, q_T, q_F, q_iT, q_iF, q_d, q_in, q_wi, q_hC, q_hM, pT_i, pU_i, pS_i, pS_j, pS_0, Sum.elim_inl, Sum.elim_inr, if_pos, if_neg]
      · have f3 : f_X3_waveAt a (Int32.ofInt b) σ1 = some none := by
          obtain ⟨wc, ws, zr, sl, kc, kw, kt, ⟨c1, c2, -⟩, -⟩ := M
          by_cases c : 0 ≤ b ∧ b < wc
          · exfalso
            obtain ⟨b, rfl⟩ : ∃ i : Nat, b = i := ⟨b.toNat, by omega⟩
            have f3 : f_X3_waveAt a (Int32.ofInt b) σ1 = some (some (6 * a + b)) := by
              simp (disch := omega) only [f_X3_waveAt, c2, Option.bind_some, qi, ql, qI_lt, qI_le, qI_eq, qI_L, qI_ix, qL_lt, qL_eq, q_nat, q_cs, ← Int32.ofInt_add, ← Int32.ofInt_sub, ← Int32.ofInt_mul, ← Int32.ofInt_neg, ← Int64.ofInt_add, ← Int64.ofInt_sub, ← Int64.ofInt_mul, ← Int64.ofInt_neg, pL_I, q_mx, q_mn, q_ab, q_abL, q_mnL, q_nn0, q_nn1, q_rr, q_b1, q_b0, q_T, q_F, q_iT, q_iF, q_d, q_in, q_wi, q_hC, q_hM, pT_i, pU_i, pS_i, pS_j, pS_0, Sum.elim_inl, Sum.elim_inr, if_pos, if_neg]
            have e1' : f_X11_waveOf (Int32.ofInt m) (Int32.ofInt b) σ1 = some (some (6 * a + b)) := by
              simp (disch := omega) only [f_X11_waveOf, f1, f3, Option.bind_some, qi, ql, qI_lt, qI_le, qI_eq, qI_L, qI_ix, qL_lt, qL_eq, q_nat, q_cs, ← Int32.ofInt_add, ← Int32.ofInt_sub, ← Int32.ofInt_mul, ← Int32.ofInt_neg, ← Int64.ofInt_add, ← Int64.ofInt_sub, ← Int64.ofInt_mul, ← Int64.ofInt_neg, pL_I, q_mx, q_mn, q_ab, q_abL, q_mnL, q_nn0, q_nn1, q_rr, q_b1, q_b0, q_T, q_F, q_iT, q_iF, q_d, q_in, q_wi, q_hC, q_hM, pT_i, pU_i, pS_i, pS_j, pS_0, Sum.elim_inl, Sum.elim_inr, if_pos, if_neg]
            rw [e1'] at e1
            cases e1
          · by_cases c0 : b < 0
            · simp (disch := omega) only [f_X3_waveAt, c2, Option.bind_some, qi, ql, qI_lt, qI_le, qI_eq, qI_L, qI_ix, qL_lt, qL_eq, q_nat, q_cs, ← Int32.ofInt_add, ← Int32.ofInt_sub, ← Int32.ofInt_mul, ← Int32.ofInt_neg, ← Int64.ofInt_add, ← Int64.ofInt_sub, ← Int64.ofInt_mul, ← Int64.ofInt_neg, pL_I, q_mx, q_mn, q_ab, q_abL, q_mnL, q_nn0, q_nn1, q_rr, q_b1, q_b0, q_T, q_F, q_iT, q_iF, q_d, q_in, q_wi, q_hC, q_hM, pT_i, pU_i, pS_i, pS_j, pS_0, Sum.elim_inl, Sum.elim_inr, if_pos, if_neg]
            · simp (disch := omega) only [f_X3_waveAt, c2, Option.bind_some, qi, ql, qI_lt, qI_le, qI_eq, qI_L, qI_ix, qL_lt, qL_eq, q_nat, q_cs, ← Int32.ofInt_add, ← Int32.ofInt_sub, ← Int32.ofInt_mul, ← Int32.ofInt_neg, ← Int64.ofInt_add, ← Int64.ofInt_sub, ← Int64.ofInt_mul, ← Int64.ofInt_neg, pL_I, q_mx, q_mn, q_ab, q_abL, q_mnL, q_nn0, q_nn1, q_rr, q_b1, q_b0, q_T, q_F, q_iT, q_iF, q_d, q_in, q_wi, q_hC, q_hM, pT_i, pU_i, pS_i, pS_j, pS_0, Sum.elim_inl, Sum.elim_inr, if_pos, if_neg]
        simp (disch := omega) only [f_X11_spread, f_X11_spread_21, f_X11_none, f1, f3, Option.bind_some, qi, ql, qI_lt, qI_le, qI_eq, qI_L, qI_ix, qL_lt, qL_eq, q_nat, q_cs, ← Int32.ofInt_add, ← Int32.ofInt_sub, ← Int32.ofInt_mul, ← Int32.ofInt_neg, ← Int64.ofInt_add, ← Int64.ofInt_sub, ← Int64.ofInt_mul, ← Int64.ofInt_neg, pL_I, q_mx, q_mn, q_ab, q_abL, q_mnL, q_nn0, q_nn1, q_rr, q_b1, q_b0, q_T, q_F, q_iT, q_iF, q_d, q_in, q_wi, q_hC, q_hM, pT_i, pU_i, pS_i, pS_j, pS_0, Sum.elim_inl, Sum.elim_inr, if_pos, if_neg]
    · simp (disch := omega) only [f_X12_spread, f_X12_refuse, e2, Option.bind_some, qi, ql, qI_lt, qI_le, qI_eq, qI_L, qI_ix, qL_lt, qL_eq, q_nat, q_cs, ← Int32.ofInt_add, ← Int32.ofInt_sub, ← Int32.ofInt_mul, ← Int32.ofInt_neg, ← Int64.ofInt_add, ← Int64.ofInt_sub, ← Int64.ofInt_mul, ← Int64.ofInt_neg, pL_I, q_mx, q_mn, q_ab, q_abL, q_mnL, q_nn0, q_nn1, q_rr, q_b1, q_b0, q_T, q_F, q_iT, q_iF, q_d, q_in, q_wi, q_hC, q_hM, pT_i, pU_i, pS_i, pS_j, pS_0, Sum.elim_inl, Sum.elim_inr, if_pos, if_neg]
  · by_cases cz : (0 ≤ y ∧ y ≤ 99999) ∧ (0 ≤ z ∧ z ≤ 99999) ∧ y ≤ z ∧ z - y < 48
    · obtain ⟨n, hn⟩ : ∃ n : Nat, z - y + 1 = n := ⟨(z - y + 1).toNat, by omega⟩
      have n48 : min (n : Int) 48 = n := by omega
      have kb : 0 ≤ ws b 2 ∧ ws b 2 ≤ 99 := ok.2.2.1
      have lb : ∀ j : Nat, -1188 ≤ ws b 2 * pc_cos (pw_place (ws b) (y + j) false) ∧ ws b 2 * pc_cos (pw_place (ws b) (y + j) false) ≤ 1188 := fun j => by
        have c1 := pc_b (pw_place (ws b) (y + j) false)
        have e1 : ws b 2 * pc_cos (pw_place (ws b) (y + j) false) ≤ ws b 2 * 12 := Int.mul_le_mul_of_nonneg_left c1.2 kb.1
        have e2 : ws b 2 * (-12) ≤ ws b 2 * pc_cos (pw_place (ws b) (y + j) false) := Int.mul_le_mul_of_nonneg_left c1.1 kb.1
        omega
      have Sb : ∀ i : Nat, 0 ≤ ps_sum (fun j => (((ws b 2 * pc_cos (pw_place (ws b) (y + j) false)).natAbs : Nat) : Int)) i ∧ ps_sum (fun j => (((ws b 2 * pc_cos (pw_place (ws b) (y + j) false)).natAbs : Nat) : Int)) i ≤ 1188 * i := fun i => ps_b (B := 1188) (fun j hj => by
        have := lb j
        show 0 ≤ (((ws b 2 * pc_cos (pw_place (ws b) (y + j) false)).natAbs : Nat) : Int) ∧ (((ws b 2 * pc_cos (pw_place (ws b) (y + j) false)).natAbs : Nat) : Int) ≤ 1188
        omega)
      have Sn := Sb n
      -- the class's first sum
      have Q0 : qf [(0, 12), (0, 13), (0, 16)] σ1 (am_wI (am_wI (am_wI σ1 0 0 12 (Int32.ofInt 1)) 0 0 13 (Int32.ofInt (-1))) 0 0 16 (Int32.ofInt 0)) := ((qf.rf.wI rfl).wI rfl).wI rfl
      obtain ⟨τ1, k1, q1, t16⟩ := am_loop_1 (B := fun x : Int32 × am_H => f_X0_findSpread_38 a (Int32.ofInt b) (Int32.ofInt y) (Int32.ofInt n) (6 * a + b) x.1 x.2) (fun N x => ∃ (i : Nat) (ρ : am_H), x = (Int32.ofInt i, ρ) ∧ i ≤ n ∧ qf [(0, 16)] (am_wI (am_wI (am_wI σ1 0 0 12 (Int32.ofInt 1)) 0 0 13 (Int32.ofInt (-1))) 0 0 16 (Int32.ofInt 0)) ρ ∧ ρ.1 0 0 16 = Int32.ofInt (ps_sum (fun j => (((ws b 2 * pc_cos (pw_place (ws b) (y + j) false)).natAbs : Nat) : Int)) i) ∧ N = n - i) (fun ρ => qf [(0, 16)] (am_wI (am_wI (am_wI σ1 0 0 12 (Int32.ofInt 1)) 0 0 13 (Int32.ofInt (-1))) 0 0 16 (Int32.ofInt 0)) ρ ∧ ρ.1 0 0 16 = Int32.ofInt (ps_sum (fun j => (((ws b 2 * pc_cos (pw_place (ws b) (y + j) false)).natAbs : Nat) : Int)) n)) (by
        rintro N x ⟨i, ρ, rfl, hi, q, e16, rfl⟩
        by_cases ce : i < n
        · right
          have QQ : qf [(0, 12), (0, 13), (0, 16)] σ1 ρ := Q0.tr (q.mo (by decide))
          obtain ⟨okb, Cb⟩ := (ph_Cq (QQ.a (by decide +kernel)) C).2.2.2.2 b hb
          have p1 := pw_placeAt (b := false) okb Cb (h := y + i) (by omega) (by omega)
          have pb := pw_place_b (b := false) okb (h := y + i) (by omega) (by omega)
          have zb : ρ.1 10 (6 * a + b) 3 = Int32.ofInt (ws b 2) := Cb.2.2.1
          have li := lb i
          refine ⟨(Int32.ofInt ((i : Int) + 1), am_wI ρ 0 0 16 (Int32.ofInt (ps_sum (fun j => (((ws b 2 * pc_cos (pw_place (ws b) (y + j) false)).natAbs : Nat) : Int)) i + (((ws b 2 * pc_cos (pw_place (ws b) (y + i) false)).natAbs : Nat) : Int)))), n - (i + 1), ?_, by omega, i + 1, _, rfl, by omega, q.wI rfl, rfl, rfl⟩
          simp (disch := omega) only [f_X0_findSpread_38, p1, q_cos, zb, e16, Option.bind_some, qi, ql, qI_lt, qI_le, qI_eq, qI_L, qI_ix, qL_lt, qL_eq, q_nat, q_cs, ← Int32.ofInt_add, ← Int32.ofInt_sub, ← Int32.ofInt_mul, ← Int32.ofInt_neg, ← Int64.ofInt_add, ← Int64.ofInt_sub, ← Int64.ofInt_mul, ← Int64.ofInt_neg, pL_I, q_mx, q_mn, q_ab, q_abL, q_mnL, q_nn0, q_nn1, q_rr, q_b1, q_b0, q_T, q_F, q_iT, q_iF, q_d, q_in, q_wi, q_hC, q_hM, pT_i, pU_i, pS_i, pS_j, pS_0, Sum.elim_inl, Sum.elim_inr, if_pos, if_neg]
        · left
          have : i = n := by omega
          subst this
          refine ⟨ρ, ?_, q, e16⟩
          simp (disch := omega) only [f_X0_findSpread_38, Option.bind_some, qi, ql, qI_lt, qI_le, qI_eq, qI_L, qI_ix, qL_lt, qL_eq, q_nat, q_cs, ← Int32.ofInt_add, ← Int32.ofInt_sub, ← Int32.ofInt_mul, ← Int32.ofInt_neg, ← Int64.ofInt_add, ← Int64.ofInt_sub, ← Int64.ofInt_mul, ← Int64.ofInt_neg, pL_I, q_mx, q_mn, q_ab, q_abL, q_mnL, q_nn0, q_nn1, q_rr, q_b1, q_b0, q_T, q_F, q_iT, q_iF, q_d, q_in, q_wi, q_hC, q_hM, pT_i, pU_i, pS_i, pS_j, pS_0, Sum.elim_inl, Sum.elim_inr, if_pos, if_neg]) n (Int32.ofInt 0, am_wI (am_wI (am_wI σ1 0 0 12 (Int32.ofInt 1)) 0 0 13 (Int32.ofInt (-1))) 0 0 16 (Int32.ofInt 0)) ⟨0, _, rfl, by omega, qf.rf, rfl, rfl⟩
      -- the reference's
      have P0 : qf [(12, 43), (12, 32)] (pS σ2 0) (am_wI (am_wL (pS σ2 0) 12 0 43 (Int64.ofInt 0)) 12 0 32 (Int32.ofInt (-1))) := (qf.rf.wL rfl).wI rfl
      obtain ⟨τ2, k2, q2, t43, tl⟩ := am_loop_1 (B := fun x : Int32 × am_H => f_X12_spread_63 (Int32.ofInt m) (Int32.ofInt b) (Int32.ofInt y) (Int32.ofInt n) x.1 x.2) (fun N x => ∃ (i : Nat) (ρ : am_H), x = (Int32.ofInt i, ρ) ∧ i ≤ n ∧ qf [(12, 43), (1385, 999)] (am_wI (am_wL (pS σ2 0) 12 0 43 (Int64.ofInt 0)) 12 0 32 (Int32.ofInt (-1))) ρ ∧ ρ.2.1 12 0 43 = Int64.ofInt (ps_sum (fun j => (((ws b 2 * pc_cos (pw_place (ws b) (y + j) false)).natAbs : Nat) : Int)) i) ∧ (∀ j, j < i → ρ.1 1385 0 j = Int32.ofInt (ws b 2 * pc_cos (pw_place (ws b) (y + j) false))) ∧ N = n - i) (fun ρ => qf [(12, 43), (1385, 999)] (am_wI (am_wL (pS σ2 0) 12 0 43 (Int64.ofInt 0)) 12 0 32 (Int32.ofInt (-1))) ρ ∧ ρ.2.1 12 0 43 = Int64.ofInt (ps_sum (fun j => (((ws b 2 * pc_cos (pw_place (ws b) (y + j) false)).natAbs : Nat) : Int)) n) ∧ (∀ j, j < n → ρ.1 1385 0 j = Int32.ofInt (ws b 2 * pc_cos (pw_place (ws b) (y + j) false)))) (by
        rintro N x ⟨i, ρ, rfl, hi, q, e43, hj, rfl⟩
        by_cases ce : i < n
        · right
          have PP : qf [(12, 43), (12, 32), (1385, 999)] (pS σ2 0) ρ := (P0.mo (by decide)).tr (q.mo (by decide))
          obtain ⟨okb, Mb⟩ := (ph_Mq (PP.a (by decide +kernel)) M).2.2.2.2 b hb
          have tp := pm_truePlace okb Mb (by omega) (by omega) (h := y + i) (by omega) (by omega)
          have pb := pw_place_b (b := false) okb (h := y + i) (by omega) (by omega)
          have cs := pm_cosine (σ := ρ) pb.1 pb.2
          obtain ⟨o0, o1, o2, -⟩ := pm_o Mb (by omega) (by omega)
          have li := lb i
          have r1 : ∀ v : Int32, (am_wI ρ 1385 0 i v).1 1385 0 i = v := fun v => by simp [am_wI, am_u3]
          have r2 : ∀ v : Int32, (am_wI ρ 1385 0 i v).2.1 12 0 43 = Int64.ofInt (ps_sum (fun j => (((ws b 2 * pc_cos (pw_place (ws b) (y + j) false)).natAbs : Nat) : Int)) i) := fun v => e43
          refine ⟨(Int32.ofInt ((i : Int) + 1), am_wL (am_wI ρ 1385 0 i (Int32.ofInt (ws b 2 * pc_cos (pw_place (ws b) (y + i) false)))) 12 0 43 (Int64.ofInt (ps_sum (fun j => (((ws b 2 * pc_cos (pw_place (ws b) (y + j) false)).natAbs : Nat) : Int)) i + (((ws b 2 * pc_cos (pw_place (ws b) (y + i) false)).natAbs : Nat) : Int)))), n - (i + 1), ?_, by omega, i + 1, _, rfl, by omega, (q.wI rfl).wL rfl, rfl, fun j hj' => ?_, rfl⟩
          · simp (disch := omega) only [f_X12_spread_63, o2, tp, cs, r1, r2, Option.bind_some, qi, ql, qI_lt, qI_le, qI_eq, qI_L, qI_ix, qL_lt, qL_eq, q_nat, q_cs, ← Int32.ofInt_add, ← Int32.ofInt_sub, ← Int32.ofInt_mul, ← Int32.ofInt_neg, ← Int64.ofInt_add, ← Int64.ofInt_sub, ← Int64.ofInt_mul, ← Int64.ofInt_neg, pL_I, q_mx, q_mn, q_ab, q_abL, q_mnL, q_nn0, q_nn1, q_rr, q_b1, q_b0, q_T, q_F, q_iT, q_iF, q_d, q_in, q_wi, q_hC, q_hM, pT_i, pU_i, pS_i, pS_j, pS_0, Sum.elim_inl, Sum.elim_inr, if_pos, if_neg]
          · by_cases cj : j = i
            · subst cj
              simp [am_wI, am_wL, am_u3]
            · have := hj j (by omega)
              rw [am_wL_I, am_wI_r, if_neg (by omega)]
              exact this
        · left
          have : i = n := by omega
          subst this
          refine ⟨ρ, ?_, q, e43, hj⟩
          simp (disch := omega) only [f_X12_spread_63, Option.bind_some, qi, ql, qI_lt, qI_le, qI_eq, qI_L, qI_ix, qL_lt, qL_eq, q_nat, q_cs, ← Int32.ofInt_add, ← Int32.ofInt_sub, ← Int32.ofInt_mul, ← Int32.ofInt_neg, ← Int64.ofInt_add, ← Int64.ofInt_sub, ← Int64.ofInt_mul, ← Int64.ofInt_neg, pL_I, q_mx, q_mn, q_ab, q_abL, q_mnL, q_nn0, q_nn1, q_rr, q_b1, q_b0, q_T, q_F, q_iT, q_iF, q_d, q_in, q_wi, q_hC, q_hM, pT_i, pU_i, pS_i, pS_j, pS_0, Sum.elim_inl, Sum.elim_inr, if_pos, if_neg]) n (Int32.ofInt 0, am_wI (am_wL (pS σ2 0) 12 0 43 (Int64.ofInt 0)) 12 0 32 (Int32.ofInt (-1))) ⟨0, _, rfl, by omega, qf.rf, rfl, fun j hj => by omega, rfl⟩
      have Q1 : qf [(0, 12), (0, 13), (0, 16)] σ1 τ1 := Q0.tr (q1.mo (by decide))
      have P1 : qf [(12, 43), (12, 32), (1385, 999)] (pS σ2 0) τ2 := (P0.mo (by decide)).tr (q2.mo (by decide))
      have t13 : τ1.1 0 0 13 = Int32.ofInt (-1) := by rw [(q1 0 0 13 rfl).1]; rfl
      have t32 : τ2.1 12 0 32 = Int32.ofInt (-1) := by rw [(q2 12 0 32 rfl).1]; rfl
      have t12 : τ1.1 0 0 12 = Int32.ofInt 1 := by rw [(q1 0 0 12 rfl).1]; rfl
      obtain ⟨ρ1, ρ2, S', W', k3, k4, q3, q4, Wb, ⟨u16, u43, ub, u13, u32, uW⟩⟩ := py_waves (by omega) (by omega) (ph_Cq (Q1.a (by decide +kernel)) C) (ph_Mq (P1.a (by decide +kernel)) M) hb cz.1.1 (by omega) tl ⟨t16, t43, by omega, t13, t32, fun z => by omega⟩
      have u12 : ρ1.1 0 0 12 = Int32.ofInt 1 := by rw [(q3 0 0 12 rfl).1]; exact t12
      have u32' : (am_wI ρ2 12 0 39 (Int32.ofInt 1)).1 12 0 32 = Int32.ofInt W' := u32
      refine ⟨Int32.ofInt W', pT ρ1 0, am_wI ρ2 12 0 39 (Int32.ofInt 1), ?_, ?_, ?_, ?_⟩
      · simp (disch := omega) only [f_X11_spread, f_X0_findSpread, f_X11_answer, em, ea, q_spC, hn, n48, k1, k3, u13, Option.bind_some, qi, ql, qI_lt, qI_le, qI_eq, qI_L, qI_ix, qL_lt, qL_eq, q_nat, q_cs, ← Int32.ofInt_add, ← Int32.ofInt_sub, ← Int32.ofInt_mul, ← Int32.ofInt_neg, ← Int64.ofInt_add, ← Int64.ofInt_sub, ← Int64.ofInt_mul, ← Int64.ofInt_neg, pL_I, q_mx, q_mn, q_ab, q_abL, q_mnL, q_nn0, q_nn1, q_rr, q_b1, q_b0, q_T, q_F, q_iT, q_iF, q_d, q_in, q_wi, q_hC, q_hM, pT_i, pU_i, pS_i, pS_j, pS_0, Sum.elim_inl, Sum.elim_inr, if_pos, if_neg]
      · simp (disch := omega) only [f_X12_spread, e2, q_spM, hn, k2, k4, u32', Option.bind_some, qi, ql, qI_lt, qI_le, qI_eq, qI_L, qI_ix, qL_lt, qL_eq, q_nat, q_cs, ← Int32.ofInt_add, ← Int32.ofInt_sub, ← Int32.ofInt_mul, ← Int32.ofInt_neg, ← Int64.ofInt_add, ← Int64.ofInt_sub, ← Int64.ofInt_mul, ← Int64.ofInt_neg, pL_I, q_mx, q_mn, q_ab, q_abL, q_mnL, q_nn0, q_nn1, q_rr, q_b1, q_b0, q_T, q_F, q_iT, q_iF, q_d, q_in, q_wi, q_hC, q_hM, pT_i, pU_i, pS_i, pS_j, pS_0, Sum.elim_inl, Sum.elim_inr, if_pos, if_neg]
      · show Int32.ofInt 0 = (am_wI ρ2 12 0 39 (Int32.ofInt 1)).1 12 0 0
        have : ρ2.1 12 0 0 = Int32.ofInt 0 := by
          rw [(q4 12 0 0 rfl).1, (P1 12 0 0 rfl).1]
          rfl
        exact this.symm
      · refine (h.2.S 0).st [(11, 0), (0, 12), (0, 13), (0, 14), (0, 15), (0, 16), (100, 999), (102, 999)] [(12, 43), (12, 32), (12, 33), (12, 34), (12, 39), (1385, 999)] [11] (by decide +kernel) (((Q1.mo (by decide)).tr (q3.mo (by decide))).wI rfl) (((P1.mo (by decide)).tr (q4.mo (by decide))).wI rfl) ?_
        intro N hN
        rw [List.mem_singleton] at hN
        subst hN
        exact ⟨W', 1, S', by omega, Wb, fun _ => rfl, by omega, u12, rfl, u13, u32, uW, u16, u43⟩
    · refine pr_ro h (Int32.ofInt (-1)) 5 ?_ ?_
      · simp (disch := omega) only [f_X11_spread, f_X11_none, em, ea, q_spC, Option.bind_some, qi, ql, qI_lt, qI_le, qI_eq, qI_L, qI_ix, qL_lt, qL_eq, q_nat, q_cs, ← Int32.ofInt_add, ← Int32.ofInt_sub, ← Int32.ofInt_mul, ← Int32.ofInt_neg, ← Int64.ofInt_add, ← Int64.ofInt_sub, ← Int64.ofInt_mul, ← Int64.ofInt_neg, pL_I, q_mx, q_mn, q_ab, q_abL, q_mnL, q_nn0, q_nn1, q_rr, q_b1, q_b0, q_T, q_F, q_iT, q_iF, q_d, q_in, q_wi, q_hC, q_hM, pT_i, pU_i, pS_i, pS_j, pS_0, Sum.elim_inl, Sum.elim_inr, if_pos, if_neg]
      · simp (disch := omega) only [f_X12_spread, f_X12_refuse, e2, q_spM, Option.bind_some, qi, ql, qI_lt, qI_le, qI_eq, qI_L, qI_ix, qL_lt, qL_eq, q_nat, q_cs, ← Int32.ofInt_add, ← Int32.ofInt_sub, ← Int32.ofInt_mul, ← Int32.ofInt_neg, ← Int64.ofInt_add, ← Int64.ofInt_sub, ← Int64.ofInt_mul, ← Int64.ofInt_neg, pL_I, q_mx, q_mn, q_ab, q_abL, q_mnL, q_nn0, q_nn1, q_rr, q_b1, q_b0, q_T, q_F, q_iT, q_iF, q_d, q_in, q_wi, q_hC, q_hM, pT_i, pU_i, pS_i, pS_j, pS_0, Sum.elim_inl, Sum.elim_inr, if_pos, if_neg]
