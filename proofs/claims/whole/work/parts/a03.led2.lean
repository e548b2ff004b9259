theorem pu_wave {τ1 τ2 : am_H} {m a th tr n wc i : Nat} {ws : Nat → Nat → Int} {zr l : Int} {hs rd : Nat → Int} (hm : m < 3) (ha : a < 3) (hth : th < 5) (htr : tr < 5) (hn : n ≤ 24) (C : ph_C τ1 a wc ws zr) (M : ph_M τ2 m wc ws (max zr 0)) (G : pg_C τ1 0 n hs rd) (GM : pg_M τ2 th tr n hs rd) (hd : ∀ j, j < n → τ1.1 100 0 j = Int32.ofInt (ph_sum ws (max zr 0) (hs j) true wc)) (hi : i < wc) (htr5 : pw_tr (ws i)) {π1 π2 : am_H} (Q1 : qf pu_l τ1 π1) (Q2 : qf pu_m τ2 π2) (S : pu_S π1 π2 l) : ∃ (ρ1 ρ2 : am_H) (l' : Int), am_loop (fun s : Int32 × am_H => f_X0_findWheel_80 a 0 (Int32.ofInt i) s.1 s.2) (Int32.ofInt 0, π1) = some ρ1 ∧ am_loop (fun s : Int64 × Int32 × am_H => f_X12_led_61 (Int32.ofInt m) (Int32.ofInt th) (Int32.ofInt tr) (Int32.ofInt n) s.1 (Int32.ofInt i) s.2.1 s.2.2) (Int64.ofInt l, Int32.ofInt 0, π2) = some (Int64.ofInt l', ρ2) ∧ qf pu_l τ1 ρ1 ∧ qf pu_m τ2 ρ2 ∧ pu_S ρ1 ρ2 l' := by
  have ok := (C.2.2.2.2 i hi).1
  have k4 : 0 ≤ ws i 4 ∧ ws i 4 ≤ 2 := ok.2.2.2.2.1
  have c1 := C.1
  obtain ⟨r1, r2, e1, e2, l', ρ2, e3, q1, q2, s⟩ := am_loop_2 (B1 := fun s : Int32 × am_H => f_X0_findWheel_80 a 0 (Int32.ofInt i) s.1 s.2) (B2 := fun s : Int64 × Int32 × am_H => f_X12_led_61 (Int32.ofInt m) (Int32.ofInt th) (Int32.ofInt tr) (Int32.ofInt n) s.1 (Int32.ofInt i) s.2.1 s.2.2) (fun N s1 s2 => ∃ (k : Nat) (l : Int) (ρ1 ρ2 : am_H), s1 = (Int32.ofInt k, ρ1) ∧ s2 = (Int64.ofInt l, Int32.ofInt k, ρ2) ∧ (k : Int) ≤ 2 * ws i 4 ∧ qf pu_l τ1 ρ1 ∧ qf pu_m τ2 ρ2 ∧ pu_S ρ1 ρ2 l ∧ N = (2 * ws i 4 - k).toNat) (fun r1 r2 => ∃ (l : Int) (ρ2 : am_H), r2 = (Int64.ofInt l, ρ2) ∧ qf pu_l τ1 r1 ∧ qf pu_m τ2 ρ2 ∧ pu_S r1 ρ2 l) (by
    rintro N s1 s2 ⟨k, l, ρ1, ρ2, rfl, rfl, hk, q1, q2, s, rfl⟩
    have C' := ph_Cq (q1.a (by decide +kernel)) C
    have G' := pg_Cq (q1.a (by decide +kernel)) G
    have M' := ph_Mq (q2.a (by decide +kernel)) M
    have GM' := pg_Mq (q2.a (by decide +kernel)) GM
    have hd' : ∀ j, j < n → ρ1.1 100 0 j = Int32.ofInt (ph_sum ws (max zr 0) (hs j) true wc) := fun j hj => by rw [(q1 100 0 j rfl).1]; exact hd j hj
    have w4 : ρ1.1 10 (6 * a + i) 5 = Int32.ofInt (ws i 4) := (C'.2.2.2.2 i hi).2.2.2.2.2.1
    obtain ⟨o0, o1, o2, o3, o4, -⟩ := pm_o (M'.2.2.2.2 i hi).2 hm (by omega)
    by_cases ce : (k : Int) < 2 * ws i 4
    · right
      have t5 := htr5 k ce
      obtain ⟨ρ1', ρ2', l1, f1, g1, u1, v1, s1⟩ := pu_step (more := true) (e := 1) hm ha hth htr hn C' M' G' GM' hd' hi ce rfl rfl t5 s
      have Q1' := q1.tr u1
      have Q2' := q2.tr v1
      obtain ⟨ρ1'', ρ2'', l2, f2, g2, u2, v2, s2⟩ := pu_step (more := false) (e := -1) hm ha hth htr hn (ph_Cq (Q1'.a (by decide +kernel)) C) (ph_Mq (Q2'.a (by decide +kernel)) M) (pg_Cq (Q1'.a (by decide +kernel)) G) (pg_Mq (Q2'.a (by decide +kernel)) GM) (fun j hj => by rw [(Q1' 100 0 j rfl).1]; exact hd j hj) hi ce rfl rfl t5 s1
      have lp : am_loop (fun s : Int64 × Int32 × am_H => f_X12_led_79 (Int32.ofInt m) (Int32.ofInt th) (Int32.ofInt tr) (Int32.ofInt n) s.1 (Int32.ofInt i) (Int32.ofInt k) s.2.1 s.2.2) (Int64.ofInt l, Int32.ofInt 1, ρ2) = some (Int64.ofInt l2, ρ2'') := by
        refine (am_loop_in (s' := (Int64.ofInt l1, Int32.ofInt (-1), ρ2')) g1).trans ((am_loop_in (s' := (Int64.ofInt l2, Int32.ofInt (-3), ρ2'')) g2).trans (am_loop_out ?_))
        simp (disch := omega) only [f_X12_led_79, Option.bind_some, qi, ql, qI_lt, qI_le, qI_eq, qI_L, qI_ix, qL_lt, qL_eq, q_nat, q_cs, ← Int32.ofInt_add, ← Int32.ofInt_sub, ← Int32.ofInt_mul, ← Int32.ofInt_neg, ← Int64.ofInt_add, ← Int64.ofInt_sub, ← Int64.ofInt_mul, ← Int64.ofInt_neg, pL_I, q_mx, q_mn, q_ab, q_abL, q_mnL, q_nn0, q_nn1, q_rr, q_b1, q_b0, q_T, q_F, q_iT, q_iF, q_d, q_in, q_wi, q_hC, q_hM, pT_i, pU_i, pS_i, pS_j, pS_0, Sum.elim_inl, Sum.elim_inr, if_pos, if_neg]
      refine ⟨(Int32.ofInt ((k : Int) + 1), ρ1''), (Int64.ofInt l2, Int32.ofInt ((k : Int) + 1), ρ2''), (2 * ws i 4 - ((k + 1 : Nat) : Int)).toNat, ?_, ?_, by omega, k + 1, l2, ρ1'', ρ2'', rfl, rfl, by omega, Q1'.tr u2, Q2'.tr v2, s2, rfl⟩
      · simp (disch := omega) only [f_X0_findWheel_80, f_X10_wheels, w4, f1, f2, Option.bind_some, qi, ql, qI_lt, qI_le, qI_eq, qI_L, qI_ix, qL_lt, qL_eq, q_nat, q_cs, ← Int32.ofInt_add, ← Int32.ofInt_sub, ← Int32.ofInt_mul, ← Int32.ofInt_neg, ← Int64.ofInt_add, ← Int64.ofInt_sub, ← Int64.ofInt_mul, ← Int64.ofInt_neg, pL_I, q_mx, q_mn, q_ab, q_abL, q_mnL, q_nn0, q_nn1, q_rr, q_b1, q_b0, q_T, q_F, q_iT, q_iF, q_d, q_in, q_wi, q_hC, q_hM, pT_i, pU_i, pS_i, pS_j, pS_0, Sum.elim_inl, Sum.elim_inr, if_pos, if_neg]
      · simp (disch := omega) only [f_X12_led_61, o4, lp, Option.bind_some, qi, ql, qI_lt, qI_le, qI_eq, qI_L, qI_ix, qL_lt, qL_eq, q_nat, q_cs, ← Int32.ofInt_add, ← Int32.ofInt_sub, ← Int32.ofInt_mul, ← Int32.ofInt_neg, ← Int64.ofInt_add, ← Int64.ofInt_sub, ← Int64.ofInt_mul, ← Int64.ofInt_neg, pL_I, q_mx, q_mn, q_ab, q_abL, q_mnL, q_nn0, q_nn1, q_rr, q_b1, q_b0, q_T, q_F, q_iT, q_iF, q_d, q_in, q_wi, q_hC, q_hM, pT_i, pU_i, pS_i, pS_j, pS_0, Sum.elim_inl, Sum.elim_inr, if_pos, if_neg]
    · left
      refine ⟨ρ1, (Int64.ofInt l, ρ2), ?_, ?_, l, ρ2, rfl, q1, q2, s⟩
      · simp (disch := omega) only [f_X0_findWheel_80, f_X10_wheels, w4, Option.bind_some, qi, ql, qI_lt, qI_le, qI_eq, qI_L, qI_ix, qL_lt, qL_eq, q_nat, q_cs, ← Int32.ofInt_add, ← Int32.ofInt_sub, ← Int32.ofInt_mul, ← Int32.ofInt_neg, ← Int64.ofInt_add, ← Int64.ofInt_sub, ← Int64.ofInt_mul, ← Int64.ofInt_neg, pL_I, q_mx, q_mn, q_ab, q_abL, q_mnL, q_nn0, q_nn1, q_rr, q_b1, q_b0, q_T, q_F, q_iT, q_iF, q_d, q_in, q_wi, q_hC, q_hM, pT_i, pU_i, pS_i, pS_j, pS_0, Sum.elim_inl, Sum.elim_inr, if_pos, if_neg]
      · simp (disch := omega) only [f_X12_led_61, o4, Option.bind_some, qi, ql, qI_lt, qI_le, qI_eq, qI_L, qI_ix, qL_lt, qL_eq, q_nat, q_cs, ← Int32.ofInt_add, ← Int32.ofInt_sub, ← Int32.ofInt_mul, ← Int32.ofInt_neg, ← Int64.ofInt_add, ← Int64.ofInt_sub, ← Int64.ofInt_mul, ← Int64.ofInt_neg, pL_I, q_mx, q_mn, q_ab, q_abL, q_mnL, q_nn0, q_nn1, q_rr, q_b1, q_b0, q_T, q_F, q_iT, q_iF, q_d, q_in, q_wi, q_hC, q_hM, pT_i, pU_i, pS_i, pS_j, pS_0, Sum.elim_inl, Sum.elim_inr, if_pos, if_neg]) _ (Int32.ofInt 0, π1) (Int64.ofInt l, Int32.ofInt 0, π2) ⟨0, l, π1, π2, rfl, rfl, by omega, Q1, Q2, S, rfl⟩
  subst e3
  exact ⟨r1, ρ2, l', e1, e2, q1, q2, s⟩
theorem pu_all {τ1 τ2 : am_H} {m a th tr n wc : Nat} {ws : Nat → Nat → Int} {zr l : Int} {hs rd : Nat → Int} (hm : m < 3) (ha : a < 3) (hth : th < 5) (htr : tr < 5) (hn : n ≤ 24) (C : ph_C τ1 a wc ws zr) (M : ph_M τ2 m wc ws (max zr 0)) (G : pg_C τ1 0 n hs rd) (GM : pg_M τ2 th tr n hs rd) (hd : ∀ j, j < n → τ1.1 100 0 j = Int32.ofInt (ph_sum ws (max zr 0) (hs j) true wc)) (htr5 : ∀ i, i < wc → pw_tr (ws i)) (S : pu_S τ1 τ2 l) : ∃ (ρ1 ρ2 : am_H) (l' : Int), am_loop (fun s : Int32 × am_H => f_X0_findWheel_69 a 0 s.1 s.2) (Int32.ofInt 0, τ1) = some ρ1 ∧ am_loop (fun s : Int64 × Int32 × am_H => f_X12_led_47 (Int32.ofInt m) (Int32.ofInt th) (Int32.ofInt tr) (Int32.ofInt n) s.1 s.2.1 s.2.2) (Int64.ofInt l, Int32.ofInt 0, τ2) = some ρ2 ∧ qf pu_l τ1 ρ1 ∧ qf pu_m τ2 ρ2 ∧ pu_S ρ1 ρ2 l' := by
  have c1 := C.1
  obtain ⟨r1, r2, e1, e2, l', q1, q2, s⟩ := am_loop_2 (B1 := fun s : Int32 × am_H => f_X0_findWheel_69 a 0 s.1 s.2) (B2 := fun s : Int64 × Int32 × am_H => f_X12_led_47 (Int32.ofInt m) (Int32.ofInt th) (Int32.ofInt tr) (Int32.ofInt n) s.1 s.2.1 s.2.2) (fun N s1 s2 => ∃ (i : Nat) (l : Int) (ρ1 ρ2 : am_H), s1 = (Int32.ofInt i, ρ1) ∧ s2 = (Int64.ofInt l, Int32.ofInt i, ρ2) ∧ i ≤ wc ∧ qf pu_l τ1 ρ1 ∧ qf pu_m τ2 ρ2 ∧ pu_S ρ1 ρ2 l ∧ N = wc - i) (fun r1 r2 => ∃ (l : Int), qf pu_l τ1 r1 ∧ qf pu_m τ2 r2 ∧ pu_S r1 r2 l) (by
    rintro N s1 s2 ⟨i, l, ρ1, ρ2, rfl, rfl, hi, q1, q2, s, rfl⟩
    have w1 : ρ1.1 3 a 1 = Int32.ofInt wc := (ph_Cq (q1.a (by decide +kernel)) C).2.1
    have m1 : ρ2.1 1320 0 m = Int32.ofInt wc := (ph_Mq (q2.a (by decide +kernel)) M).2.1
    by_cases ce : i < wc
    · right
      obtain ⟨ρ1', ρ2', l', f1, f2, u1, u2, s'⟩ := pu_wave hm ha hth htr hn C M G GM hd ce (htr5 i ce) q1 q2 s
      refine ⟨(Int32.ofInt ((i : Int) + 1), ρ1'), (Int64.ofInt l', Int32.ofInt ((i : Int) + 1), ρ2'), wc - (i + 1), ?_, ?_, by omega, i + 1, l', ρ1', ρ2', rfl, rfl, by omega, u1, u2, s', rfl⟩
      · simp (disch := omega) only [f_X0_findWheel_69, w1, f1, Option.bind_some, qi, ql, qI_lt, qI_le, qI_eq, qI_L, qI_ix, qL_lt, qL_eq, q_nat, q_cs, ← Int32.ofInt_add, ← Int32.ofInt_sub, ← Int32.ofInt_mul, ← Int32.ofInt_neg, ← Int64.ofInt_add, ← Int64.ofInt_sub, ← Int64.ofInt_mul, ← Int64.ofInt_neg, pL_I, q_mx, q_mn, q_ab, q_abL, q_mnL, q_nn0, q_nn1, q_rr, q_b1, q_b0, q_T, q_F, q_iT, q_iF, q_d, q_in, q_wi, q_hC, q_hM, pT_i, pU_i, pS_i, pS_j, pS_0, Sum.elim_inl, Sum.elim_inr, if_pos, if_neg]
      · simp (disch := omega) only [f_X12_led_47, m1, f2, Option.bind_some, qi, ql, qI_lt, qI_le, qI_eq, qI_L, qI_ix, qL_lt, qL_eq, q_nat, q_cs, ← Int32.ofInt_add, ← Int32.ofInt_sub, ← Int32.ofInt_mul, ← Int32.ofInt_neg, ← Int64.ofInt_add, ← Int64.ofInt_sub, ← Int64.ofInt_mul, ← Int64.ofInt_neg, pL_I, q_mx, q_mn, q_ab, q_abL, q_mnL, q_nn0, q_nn1, q_rr, q_b1, q_b0, q_T, q_F, q_iT, q_iF, q_d, q_in, q_wi, q_hC, q_hM, pT_i, pU_i, pS_i, pS_j, pS_0, Sum.elim_inl, Sum.elim_inr, if_pos, if_neg]
    · left
      refine ⟨ρ1, ρ2, ?_, ?_, l, q1, q2, s⟩
      · simp (disch := omega) only [f_X0_findWheel_69, w1, Option.bind_some, qi, ql, qI_lt, qI_le, qI_eq, qI_L, qI_ix, qL_lt, qL_eq, q_nat, q_cs, ← Int32.ofInt_add, ← Int32.ofInt_sub, ← Int32.ofInt_mul, ← Int32.ofInt_neg, ← Int64.ofInt_add, ← Int64.ofInt_sub, ← Int64.ofInt_mul, ← Int64.ofInt_neg, pL_I, q_mx, q_mn, q_ab, q_abL, q_mnL, q_nn0, q_nn1, q_rr, q_b1, q_b0, q_T, q_F, q_iT, q_iF, q_d, q_in, q_wi, q_hC, q_hM, pT_i, pU_i, pS_i, pS_j, pS_0, Sum.elim_inl, Sum.elim_inr, if_pos, if_neg]
      · simp (disch := omega) only [f_X12_led_47, m1, Option.bind_some, qi, ql, qI_lt, qI_le, qI_eq, qI_L, qI_ix, qL_lt, qL_eq, q_nat, q_cs, ← Int32.ofInt_add, ← Int32.ofInt_sub, ← Int32.ofInt_mul, ← Int32.ofInt_neg, ← Int64.ofInt_add, ← Int64.ofInt_sub, ← Int64.ofInt_mul, ← Int64.ofInt_neg, pL_I, q_mx, q_mn, q_ab, q_abL, q_mnL, q_nn0, q_nn1, q_rr, q_b1, q_b0, q_T, q_F, q_iT, q_iF, q_d, q_in, q_wi, q_hC, q_hM, pT_i, pU_i, pS_i, pS_j, pS_0, Sum.elim_inl, Sum.elim_inr, if_pos, if_neg]) _ (Int32.ofInt 0, τ1) (Int64.ofInt l, Int32.ofInt 0, τ2) ⟨0, l, τ1, τ2, rfl, rfl, by omega, qf.rf, qf.rf, S, rfl⟩
  exact ⟨r1, r2, l', e1, e2, q1, q2, s⟩
theorem pu_first {σ : am_H} {a n wc : Nat} {ws : Nat → Nat → Int} {zr : Int} {hs rd : Nat → Int} (hn : n ≤ 24) (C : ph_C σ a wc ws zr) (G : pg_C σ 0 n hs rd) (hb : ∀ j, j < n → (0 ≤ hs j ∧ hs j ≤ 99999) ∧ (-999 ≤ rd j ∧ rd j ≤ 1000)) (h3 : σ.1 0 0 3 = Int32.ofInt 0) : ∃ τ : am_H, am_loop (fun t : Int32 × am_H => f_X0_findWheel_12 a 0 t.1 t.2) (Int32.ofInt 0, σ) = some τ ∧ qf [(0, 3), (100, 999)] σ τ ∧ τ.1 0 0 3 = Int32.ofInt (ps_sum (pu_e (fun h => ph_sum ws (max zr 0) h true wc) hs rd) n) ∧ ∀ j, j < n → τ.1 100 0 j = Int32.ofInt (ph_sum ws (max zr 0) (hs j) true wc) := by
  have hH : ∀ h, -9000 ≤ ph_sum ws (max zr 0) h true wc ∧ ph_sum ws (max zr 0) h true wc ≤ 9000 := fun h => by
    have c4 := C.2.2.2.1
    have := ph_b (ws := ws) (z := max zr 0) (h := h) (b := true) (n := wc) (by omega) (fun i hi => (C.2.2.2.2 i hi).1)
    have := C.1
    omega
  refine am_loop_1 (B := fun t : Int32 × am_H => f_X0_findWheel_12 a 0 t.1 t.2) (fun N t => ∃ (i : Nat) (τ : am_H), t = (Int32.ofInt i, τ) ∧ i ≤ n ∧ qf [(0, 3), (100, 999)] σ τ ∧ τ.1 0 0 3 = Int32.ofInt (ps_sum (pu_e (fun h => ph_sum ws (max zr 0) h true wc) hs rd) i) ∧ (∀ j, j < i → τ.1 100 0 j = Int32.ofInt (ph_sum ws (max zr 0) (hs j) true wc)) ∧ N = n - i) _ ?_ n (Int32.ofInt 0, σ) ⟨0, σ, rfl, by omega, qf.rf, h3, fun j hj => by omega, rfl⟩
  rintro N t ⟨i, τ, rfl, hi, hq, hl, hj, rfl⟩
  have Gt := pg_Cq (hq.a (by decide +kernel)) G
  have Ct := ph_Cq (hq.a (by decide +kernel)) C
  have g0 := Gt.1
  by_cases ce : i < n
  · right
    obtain ⟨gh, gr⟩ := Gt.2 i ce
    have bi := hb i ce
    have b1 := hH (hs i)
    have b2 := pu_t12 (x := ph_sum ws (max zr 0) (hs i) true wc) (by omega) (by omega)
    have hh := ph_heightAt (b := true) Ct (h := hs i) (by omega) (by omega)
    have ms := pd_miss (x := (ph_sum ws (max zr 0) (hs i) true wc).tdiv 12) (pg_Cq ((qf.rf (l := [(100, 999)])).wI (k := 100) (i := 0) (j := i) (v := Int32.ofInt (ph_sum ws (max zr 0) (hs i) true wc)) rfl |>.a (by decide +kernel)) Gt) ce hn bi.2 (by omega)
    have r1 : ∀ v : Int32, (am_wI τ 100 0 i v).1 100 0 i = v := fun v => by simp [am_wI, am_u3]
    have r3 : ∀ v : Int32, (am_wI τ 100 0 i v).1 0 0 3 = Int32.ofInt (ps_sum (pu_e (fun h => ph_sum ws (max zr 0) h true wc) hs rd) i) := fun v => hl
    refine ⟨(Int32.ofInt ((i : Int) + 1), am_wI (am_wI τ 100 0 i (Int32.ofInt (ph_sum ws (max zr 0) (hs i) true wc))) 0 0 3 (Int32.ofInt (ps_sum (pu_e (fun h => ph_sum ws (max zr 0) h true wc) hs rd) i + pu_e (fun h => ph_sum ws (max zr 0) h true wc) hs rd i))), n - (i + 1), ?_, by omega, i + 1, _, rfl, by omega, (hq.wI rfl).wI rfl, rfl, fun j hj' => ?_, rfl⟩
    · simp (disch := omega) only [f_X0_findWheel_12, g0, gh, hh, r1, qI_div, ms, r3, Option.bind_some, qi, ql, qI_lt, qI_le, qI_eq, qI_L, qI_ix, qL_lt, qL_eq, q_nat, q_cs, ← Int32.ofInt_add, ← Int32.ofInt_sub, ← Int32.ofInt_mul, ← Int32.ofInt_neg, ← Int64.ofInt_add, ← Int64.ofInt_sub, ← Int64.ofInt_mul, ← Int64.ofInt_neg, pL_I, q_mx, q_mn, q_ab, q_abL, q_mnL, q_nn0, q_nn1, q_rr, q_b1, q_b0, q_T, q_F, q_iT, q_iF, q_d, q_in, q_wi, q_hC, q_hM, pT_i, pU_i, pS_i, pS_j, pS_0, Sum.elim_inl, Sum.elim_inr, if_pos, if_neg]
      try rfl
    · by_cases cj : j = i
      · subst cj
        simp [am_wI, am_u3]
      · have := hj j (by omega)
        simp [am_wI, am_u3, cj]
        exact this
  · left
    have : i = n := by omega
    subst this
    refine ⟨τ, ?_, hq, hl, hj⟩
    simp (disch := omega) only [f_X0_findWheel_12, g0, Option.bind_some, qi, ql, qI_lt, qI_le, qI_eq, qI_L, qI_ix, qL_lt, qL_eq, q_nat, q_cs, ← Int32.ofInt_add, ← Int32.ofInt_sub, ← Int32.ofInt_mul, ← Int32.ofInt_neg, ← Int64.ofInt_add, ← Int64.ofInt_sub, ← Int64.ofInt_mul, ← Int64.ofInt_neg, pL_I, q_mx, q_mn, q_ab, q_abL, q_mnL, q_nn0, q_nn1, q_rr, q_b1, q_b0, q_T, q_F, q_iT, q_iF, q_d, q_in, q_wi, q_hC, q_hM, pT_i, pU_i, pS_i, pS_j, pS_0, Sum.elim_inl, Sum.elim_inr, if_pos, if_neg]
theorem po_27 : am_op_27 pr_Rel := by
  intro σ1 σ2 h v1 v2 v3 v4
  obtain ⟨x, x1, x2, rfl⟩ := q_ex v1
  obtain ⟨t, t1, t2, rfl⟩ := q_ex v2
  obtain ⟨u, u1, u2, rfl⟩ := q_ex v3
  obtain ⟨k, k1, k2, rfl⟩ := q_ex v4
  obtain ⟨c, τ, ⟨c0, c5⟩, e1, e2, hq, hc⟩ := pg_ask h.2.U x1 x2 t1 t2 u1 u2 k1 k2 true
  by_cases cc : c = 0
  · subst cc
    obtain ⟨wl, m, a, th, tr, n, hs, rd, ⟨hm, ha, hth, htr⟩, hn, rfl, rfl, rfl, rfl, hr, MM, G, GM⟩ := hc rfl
    obtain ⟨wc, ws, zr, sl, kc, kw, kt, C, M, htr5, -⟩ := MM
    have hb : ∀ j, j < n → (0 ≤ hs j ∧ hs j ≤ 99999) ∧ (-999 ≤ rd j ∧ rd j ≤ 1000) := fun j hj => (GM j hj).2.2
    have M' : ph_M (pS σ2 0) m wc ws (max zr 0) := M
    have GM' : pg_M (pS σ2 0) th tr n hs rd := GM
    have hH : ∀ h, -12000 ≤ ph_sum ws (max zr 0) h true wc ∧ ph_sum ws (max zr 0) h true wc ≤ 12000 := fun h => by
      have c4 := C.2.2.2.1
      have := ph_b (ws := ws) (z := max zr 0) (h := h) (b := true) (n := wc) (by omega) (fun i hi => (C.2.2.2.2 i hi).1)
      have := C.1
      omega
    have df := pu_ref (m := m) (Hf := fun h => ph_sum ws (max zr 0) h true wc) hth htr hn.2 GM' (fun j hj => ⟨ph_heightOf M' (by omega) (hb j hj).1.1 (by have := (hb j hj).1.2; omega), hH _⟩)
    have vb := ps_b (f := pu_e (fun h => ph_sum ws (max zr 0) h true wc) hs rd) (n := n) (B := 13000) (fun j hj => pu_eb (hH _) (hb j hj).2)
    have Q0 : qf [(0, 3), (0, 9)] τ (am_wI (am_wI τ 0 0 3 (Int32.ofInt 0)) 0 0 9 (Int32.ofInt (-1))) := (qf.rf.wI rfl).wI rfl
    obtain ⟨τ1, l1, q1, f3, f4⟩ := pu_first hn.2 (ph_Cq (Q0.a (by decide +kernel)) C) (pg_Cq (Q0.a (by decide +kernel)) G) hb rfl
    have Q1 : qf [(0, 3), (0, 9), (100, 999)] τ τ1 := (Q0.mo (by decide)).tr (q1.mo (by decide))
    have s9 : τ1.1 0 0 9 = Int32.ofInt (-1) := by
      rw [(q1 0 0 9 rfl).1]
      rfl
    have P0 : qf [(12, 42)] (pS σ2 0) (am_wI (pS σ2 0) 12 0 42 (Int32.ofInt (-1))) := qf.rf.wI rfl
    obtain ⟨ρ1, ρ2, l', g1, g2, u1', u2', s'⟩ := pu_all (τ1 := τ1) (τ2 := am_wI (pS σ2 0) 12 0 42 (Int32.ofInt (-1))) (m := m) (a := a) (th := th) (tr := tr) (l := ps_sum (pu_e (fun h => ph_sum ws (max zr 0) h true wc) hs rd) n) (by omega) ha hth htr hn.2 (ph_Cq (Q1.a (by decide +kernel)) C) (ph_Mq (P0.a (by decide +kernel)) M') (pg_Cq (Q1.a (by decide +kernel)) G) (pg_Mq (P0.a (by decide +kernel)) GM') f4 htr5 ⟨f3, by omega, -1, s9, rfl, Or.inl rfl⟩
    obtain ⟨-, -, w, s9', s42, sw⟩ := s'
    have rr : am_rr 3 (τ.2.2 1205 0 m) = some a := by rw [hr]; exact q_rr ha
    have e42 : (am_wI ρ2 12 0 40 (Int32.ofInt 1)).1 12 0 42 = Int32.ofInt w := s42
    refine ⟨Int32.ofInt w, pT ρ1 0, am_wI ρ2 12 0 40 (Int32.ofInt 1), ?_, ?_, ?_, ?_⟩
    · simp (disch := omega) only [f_X11_led, f_X11_answer, f_X0_findWheel, e1, rr, l1, g1, s9', Option.bind_some, qi, ql, qI_lt, qI_le, qI_eq, qI_L, qI_ix, qL_lt, qL_eq, q_nat, q_cs, ← Int32.ofInt_add, ← Int32.ofInt_sub, ← Int32.ofInt_mul, ← Int32.ofInt_neg, ← Int64.ofInt_add, ← Int64.ofInt_sub, ← Int64.ofInt_mul, ← Int64.ofInt_neg, pL_I, q_mx, q_mn, q_ab, q_abL, q_mnL, q_nn0, q_nn1, q_rr, q_b1, q_b0, q_T, q_F, q_iT, q_iF, q_d, q_in, q_wi, q_hC, q_hM, pT_i, pU_i, pS_i, pS_j, pS_0, Sum.elim_inl, Sum.elim_inr, if_pos, if_neg]
    · simp (disch := omega) only [f_X12_led, e2, df, g2, e42, Option.bind_some, qi, ql, qI_lt, qI_le, qI_eq, qI_L, qI_ix, qL_lt, qL_eq, q_nat, q_cs, ← Int32.ofInt_add, ← Int32.ofInt_sub, ← Int32.ofInt_mul, ← Int32.ofInt_neg, ← Int64.ofInt_add, ← Int64.ofInt_sub, ← Int64.ofInt_mul, ← Int64.ofInt_neg, pL_I, q_mx, q_mn, q_ab, q_abL, q_mnL, q_nn0, q_nn1, q_rr, q_b1, q_b0, q_T, q_F, q_iT, q_iF, q_d, q_in, q_wi, q_hC, q_hM, pT_i, pU_i, pS_i, pS_j, pS_0, Sum.elim_inl, Sum.elim_inr, if_pos, if_neg]
    · show Int32.ofInt 0 = (am_wI ρ2 12 0 40 (Int32.ofInt 1)).1 12 0 0
      exact ((u2' 12 0 0 rfl).1).symm
    · refine (h.2.S 0).st [(11, 0), (1, 999), (201, 999), (202, 999), (0, 3), (0, 9), (0, 10), (0, 11), (100, 999)] [(12, 42), (12, 35), (12, 36), (12, 40)] [10] (by decide +kernel) ((((hq.mo (by decide)).tr (Q1.mo (by decide))).tr (u1'.mo (by decide))).wI rfl) (((P0.mo (by decide)).tr (u2'.mo (by decide))).wI rfl) ?_
      intro N hN
      rw [List.mem_singleton] at hN
      subst hN
      refine ⟨w, 1, s9', s42, rfl, ?_, by omega⟩
      rcases sw with sw | ⟨wb, s10, b, bb, b1, b2⟩
      · exact Or.inl sw
      · exact Or.inr ⟨wb, rfl, s10, b, bb, b1, b2⟩
  · refine ⟨Int32.ofInt (-1), pT τ c, pS σ2 c, ?_, ?_, (pg_core h.2 hq).TS c⟩
    · simp (disch := omega) only [f_X11_led, f_X11_none, e1, Option.bind_some, qi, ql, qI_lt, qI_le, qI_eq, qI_L, qI_ix, qL_lt, qL_eq, q_nat, q_cs, ← Int32.ofInt_add, ← Int32.ofInt_sub, ← Int32.ofInt_mul, ← Int32.ofInt_neg, ← Int64.ofInt_add, ← Int64.ofInt_sub, ← Int64.ofInt_mul, ← Int64.ofInt_neg, pL_I, q_mx, q_mn, q_ab, q_abL, q_mnL, q_nn0, q_nn1, q_rr, q_b1, q_b0, q_T, q_F, q_iT, q_iF, q_d, q_in, q_wi, q_hC, q_hM, pT_i, pU_i, pS_i, pS_j, pS_0, Sum.elim_inl, Sum.elim_inr, if_pos, if_neg]
    · simp (disch := omega) only [f_X12_led, e2, Option.bind_some, qi, ql, qI_lt, qI_le, qI_eq, qI_L, qI_ix, qL_lt, qL_eq, q_nat, q_cs, ← Int32.ofInt_add, ← Int32.ofInt_sub, ← Int32.ofInt_mul, ← Int32.ofInt_neg, ← Int64.ofInt_add, ← Int64.ofInt_sub, ← Int64.ofInt_mul, ← Int64.ofInt_neg, pL_I, q_mx, q_mn, q_ab, q_abL, q_mnL, q_nn0, q_nn1, q_rr, q_b1, q_b0, q_T, q_F, q_iT, q_iF, q_d, q_in, q_wi, q_hC, q_hM, pT_i, pU_i, pS_i, pS_j, pS_0, Sum.elim_inl, Sum.elim_inr, if_pos, if_neg]
