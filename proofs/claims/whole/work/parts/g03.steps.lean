/-! ===== ORDERS: the rest of a STEP, by its deed ===== -/
noncomputable def gRest (kd s : Nat) (σ : am_H) : Option am_H :=
  if kd = 0 then (f_X12_count (Int32.ofInt 0) (Int32.ofInt 9999) σ).bind fun p7 => some (am_wI p7.2 1373 0 s p7.1)
  else if kd = 4 then (f_X12_count (Int32.ofInt 1) (Int32.ofInt 9) σ).bind fun p7 => some (am_wI p7.2 1373 0 s p7.1)
  else if kd = 1 then f_X12_readWhat (Int32.ofInt (s : Int)) false σ
  else if kd = 5 then f_X12_readWhat (Int32.ofInt (s : Int)) true σ
  else some σ
/-- what is kept of it -/
def gq (τ1 τ2 : am_H) (r R s kd : Nat) : Prop :=
  (kd = 0 → ∃ n : Int, (0 ≤ n ∧ n ≤ 9999) ∧ τ1.1 502 r R = Int32.ofInt n ∧ τ2.1 1373 0 s = Int32.ofInt n) ∧
  (kd = 4 → ∃ n : Int, (1 ≤ n ∧ n ≤ 9) ∧ τ1.1 502 r R = Int32.ofInt n ∧ τ2.1 1373 0 s = Int32.ofInt n) ∧
  (kd = 1 ∨ kd = 5 → ∃ t n : Int, (0 ≤ t ∧ t ≤ 3) ∧ (kd = 5 → 2 ≤ t) ∧ (-9999 ≤ n ∧ n ≤ 9999) ∧ τ1.1 501 r R = Int32.ofInt (t + 1) ∧ τ1.1 502 r R = Int32.ofInt n ∧ τ2.1 1373 0 s = Int32.ofInt t ∧ (2 ≤ t → τ2.1 1374 0 s = Int32.ofInt n))
set_option maxHeartbeats 1000000 in
theorem gr_rest {σ1 σ2 : am_H} {n : Nat} {b : Nat → Int} {sT p e r R dp s kd : Nat} (hk : kd < 6) (h : tk σ1 σ2 n b sT p e) (g : gd σ2) (c4 : σ1.1 4 r 4 = Int32.ofInt (R : Int)) (hR : R < 80) (hs : s < 40) (u0 : σ1.1 502 r R = Int32.ofInt 0) : (∃ (τ1 τ2 : am_H) (s' p' e' : Nat), f_X4_readsRest r (Int32.ofInt (kd : Int)) σ1 = some (true, τ1) ∧ gRest kd s σ2 = some τ2 ∧ tk τ1 τ2 n b s' p' e' ∧ gd τ2 ∧ p ≤ p' ∧ gq τ1 τ2 r R s kd ∧ qf glC σ1 τ1 ∧ qz (zR r R dp) σ1 τ1 ∧ qf glM σ2 τ2 ∧ qz (zS s) σ2 τ2) ∨ (∃ τ1 τ2 : am_H, f_X4_readsRest r (Int32.ofInt (kd : Int)) σ1 = some (false, τ1) ∧ gRest kd s σ2 = some τ2 ∧ oN (zR r R dp) (zS s) σ1 σ2 τ1 τ2) := by
  have g' : σ2.1 12 0 12 = Int32.ofInt 0 := g
  have nums : ∀ lo hi : Int, (0 ≤ lo ∧ lo ≤ 9999) → (0 ≤ hi ∧ hi ≤ 9999) → (∃ (v : Int) (τ1 τ2 : am_H) (s' p' e' : Nat), (lo ≤ v ∧ v ≤ hi) ∧ f_X4_readsNumber r (Int32.ofInt lo) (Int32.ofInt hi) σ1 = some (true, τ1) ∧ ((f_X12_count (Int32.ofInt lo) (Int32.ofInt hi) σ2).bind fun p7 => some (am_wI p7.2 1373 0 s p7.1)) = some τ2 ∧ tk τ1 τ2 n b s' p' e' ∧ gd τ2 ∧ p ≤ p' ∧ τ1.1 502 r R = Int32.ofInt v ∧ τ2.1 1373 0 s = Int32.ofInt v ∧ qf glC σ1 τ1 ∧ qz (zR r R dp) σ1 τ1 ∧ qf glM σ2 τ2 ∧ qz (zS s) σ2 τ2) ∨ (∃ τ1 τ2 : am_H, f_X4_readsNumber r (Int32.ofInt lo) (Int32.ofInt hi) σ1 = some (false, τ1) ∧ ((f_X12_count (Int32.ofInt lo) (Int32.ofInt hi) σ2).bind fun p7 => some (am_wI p7.2 1373 0 s p7.1)) = some τ2 ∧ oN (zR r R dp) (zS s) σ1 σ2 τ1 τ2) := by
    intro lo hi l0 h0
    rcases gn_num (dp := dp) h g l0 h0 c4 hR with ⟨v, τ1, τ2, s', p', e', vb, m1, m2, m3, m4, m5, m6, m7, m8, m9, m10⟩ | ⟨q, qb, m1, m2⟩
    · left
      have QM : qf [(1373, 999)] τ2 (am_wI τ2 1373 0 s (Int32.ofInt v)) := qf.rf.wI rfl
      exact ⟨v, τ1, am_wI τ2 1373 0 s (Int32.ofInt v), s', p', e', vb, m1, by rw [m2]; rfl, m3.q (qf.rf (l := [])) (by decide +kernel) QM (by decide +kernel), m4, by omega, m6, by rw [am_wI_r, if_pos ⟨rfl, rfl, rfl⟩], m8, m9, (m10.mo (by decide)).tr (QM.mo (by decide)), (m10.z (fun _ _ _ => zS_t)).wI (zS_r (Nat.le_refl s)).2.1⟩
    · right
      exact ⟨FC σ1 q p, am_wI (FM σ2 q p) 1373 0 s (Int32.ofInt 0), m1, by rw [m2]; rfl, ⟨q, p, FC_f, ⟨qb, rfl, rfl⟩⟩, FC_q.z (fun _ _ _ => zR_t), (FM_q.z (fun _ _ _ => zS_t)).wI (zS_r (Nat.le_refl s)).2.1⟩
  rcases (by omega : kd = 0 ∨ kd = 4 ∨ kd = 2 ∨ kd = 3 ∨ kd = 1 ∨ kd = 5) with z | z | z | z | z | z
  · subst z
    rcases nums 0 9999 (by omega) (by omega) with ⟨v, τ1, τ2, s', p', e', vb, m1, m2, m3, m4, m5, m6, m7, m8, m9, m10, m11⟩ | ⟨τ1, τ2, m1, m2, m3⟩
    · refine Or.inl ⟨τ1, τ2, s', p', e', ?_, m2, m3, m4, m5, ⟨fun _ => ⟨v, vb, m6, m7⟩, fun z => by omega, fun z => by omega⟩, m8, m9, m10, m11⟩
      show f_X4_readsRest r (Int32.ofInt 0) σ1 = _
      simp (disch := omega) only [f_X4_readsRest, m1, Option.bind_some, qi, ql, qI_lt, qI_le, qI_eq, qI_L, qI_ix, qL_lt, qL_eq, q_nat, q_cs, ← Int32.ofInt_add, ← Int32.ofInt_sub, ← Int32.ofInt_mul, ← Int32.ofInt_neg, ← Int64.ofInt_add, ← Int64.ofInt_sub, ← Int64.ofInt_mul, ← Int64.ofInt_neg, pL_I, q_mx, q_mn, q_ab, q_abL, q_mnL, q_nn0, q_nn1, q_rr, q_b1, q_b0, q_T, q_F, q_iT, q_iF, q_d, q_in, q_wi, q_hC, q_hM, pT_i, pU_i, pS_i, pS_j, pS_0, Sum.elim_inl, Sum.elim_inr, if_pos, if_neg]
    · refine Or.inr ⟨τ1, τ2, ?_, m2, m3⟩
      show f_X4_readsRest r (Int32.ofInt 0) σ1 = _
      simp (disch := omega) only [f_X4_readsRest, m1, Option.bind_some, qi, ql, qI_lt, qI_le, qI_eq, qI_L, qI_ix, qL_lt, qL_eq, q_nat, q_cs, ← Int32.ofInt_add, ← Int32.ofInt_sub, ← Int32.ofInt_mul, ← Int32.ofInt_neg, ← Int64.ofInt_add, ← Int64.ofInt_sub, ← Int64.ofInt_mul, ← Int64.ofInt_neg, pL_I, q_mx, q_mn, q_ab, q_abL, q_mnL, q_nn0, q_nn1, q_rr, q_b1, q_b0, q_T, q_F, q_iT, q_iF, q_d, q_in, q_wi, q_hC, q_hM, pT_i, pU_i, pS_i, pS_j, pS_0, Sum.elim_inl, Sum.elim_inr, if_pos, if_neg]
  · subst z
    rcases nums 1 9 (by omega) (by omega) with ⟨v, τ1, τ2, s', p', e', vb, m1, m2, m3, m4, m5, m6, m7, m8, m9, m10, m11⟩ | ⟨τ1, τ2, m1, m2, m3⟩
    · refine Or.inl ⟨τ1, τ2, s', p', e', ?_, m2, m3, m4, m5, ⟨fun z => by omega, fun _ => ⟨v, vb, m6, m7⟩, fun z => by omega⟩, m8, m9, m10, m11⟩
      show f_X4_readsRest r (Int32.ofInt 4) σ1 = _
      simp (disch := omega) only [f_X4_readsRest, m1, Option.bind_some, qi, ql, qI_lt, qI_le, qI_eq, qI_L, qI_ix, qL_lt, qL_eq, q_nat, q_cs, ← Int32.ofInt_add, ← Int32.ofInt_sub, ← Int32.ofInt_mul, ← Int32.ofInt_neg, ← Int64.ofInt_add, ← Int64.ofInt_sub, ← Int64.ofInt_mul, ← Int64.ofInt_neg, pL_I, q_mx, q_mn, q_ab, q_abL, q_mnL, q_nn0, q_nn1, q_rr, q_b1, q_b0, q_T, q_F, q_iT, q_iF, q_d, q_in, q_wi, q_hC, q_hM, pT_i, pU_i, pS_i, pS_j, pS_0, Sum.elim_inl, Sum.elim_inr, if_pos, if_neg]
    · refine Or.inr ⟨τ1, τ2, ?_, m2, m3⟩
      show f_X4_readsRest r (Int32.ofInt 4) σ1 = _
      simp (disch := omega) only [f_X4_readsRest, m1, Option.bind_some, qi, ql, qI_lt, qI_le, qI_eq, qI_L, qI_ix, qL_lt, qL_eq, q_nat, q_cs, ← Int32.ofInt_add, ← Int32.ofInt_sub, ← Int32.ofInt_mul, ← Int32.ofInt_neg, ← Int64.ofInt_add, ← Int64.ofInt_sub, ← Int64.ofInt_mul, ← Int64.ofInt_neg, pL_I, q_mx, q_mn, q_ab, q_abL, q_mnL, q_nn0, q_nn1, q_rr, q_b1, q_b0, q_T, q_F, q_iT, q_iF, q_d, q_in, q_wi, q_hC, q_hM, pT_i, pU_i, pS_i, pS_j, pS_0, Sum.elim_inl, Sum.elim_inr, if_pos, if_neg]
  · subst z
    refine Or.inl ⟨σ1, σ2, sT, p, e, ?_, rfl, h, g, by omega, ⟨fun z => by omega, fun z => by omega, fun z => by omega⟩, qf.rf, qz.rf, qf.rf, qz.rf⟩
    show f_X4_readsRest r (Int32.ofInt 2) σ1 = _
    simp (disch := omega) only [f_X4_readsRest, Option.bind_some, qi, ql, qI_lt, qI_le, qI_eq, qI_L, qI_ix, qL_lt, qL_eq, q_nat, q_cs, ← Int32.ofInt_add, ← Int32.ofInt_sub, ← Int32.ofInt_mul, ← Int32.ofInt_neg, ← Int64.ofInt_add, ← Int64.ofInt_sub, ← Int64.ofInt_mul, ← Int64.ofInt_neg, pL_I, q_mx, q_mn, q_ab, q_abL, q_mnL, q_nn0, q_nn1, q_rr, q_b1, q_b0, q_T, q_F, q_iT, q_iF, q_d, q_in, q_wi, q_hC, q_hM, pT_i, pU_i, pS_i, pS_j, pS_0, Sum.elim_inl, Sum.elim_inr, if_pos, if_neg]
  · subst z
    refine Or.inl ⟨σ1, σ2, sT, p, e, ?_, rfl, h, g, by omega, ⟨fun z => by omega, fun z => by omega, fun z => by omega⟩, qf.rf, qz.rf, qf.rf, qz.rf⟩
    show f_X4_readsRest r (Int32.ofInt 3) σ1 = _
    simp (disch := omega) only [f_X4_readsRest, Option.bind_some, qi, ql, qI_lt, qI_le, qI_eq, qI_L, qI_ix, qL_lt, qL_eq, q_nat, q_cs, ← Int32.ofInt_add, ← Int32.ofInt_sub, ← Int32.ofInt_mul, ← Int32.ofInt_neg, ← Int64.ofInt_add, ← Int64.ofInt_sub, ← Int64.ofInt_mul, ← Int64.ofInt_neg, pL_I, q_mx, q_mn, q_ab, q_abL, q_mnL, q_nn0, q_nn1, q_rr, q_b1, q_b0, q_T, q_F, q_iT, q_iF, q_d, q_in, q_wi, q_hC, q_hM, pT_i, pU_i, pS_i, pS_j, pS_0, Sum.elim_inl, Sum.elim_inr, if_pos, if_neg]
  · -- UNTIL
    subst z
    obtain ⟨t, w0, w17, w18, w19, w20, tb, t1⟩ := tk_what h
    by_cases c2 : 2 ≤ t
    · have d0 : decide (t = 0) = false := decide_eq_false (by omega)
      have d1 : decide (t = 1) = false := decide_eq_false (by omega)
      rw [d0] at w17
      rw [d1] at w18
      have nw : f_X4_readsWater r σ1 = some (false, σ1) := by simp (disch := omega) only [f_X4_readsWater, w17, w18, Option.bind_some, qi, ql, qI_lt, qI_le, qI_eq, qI_L, qI_ix, qL_lt, qL_eq, q_nat, q_cs, ← Int32.ofInt_add, ← Int32.ofInt_sub, ← Int32.ofInt_mul, ← Int32.ofInt_neg, ← Int64.ofInt_add, ← Int64.ofInt_sub, ← Int64.ofInt_mul, ← Int64.ofInt_neg, pL_I, q_mx, q_mn, q_ab, q_abL, q_mnL, q_nn0, q_nn1, q_rr, q_b1, q_b0, q_T, q_F, q_iT, q_iF, q_d, q_in, q_wi, q_hC, q_hM, pT_i, pU_i, pS_i, pS_j, pS_0, Sum.elim_inl, Sum.elim_inr, if_pos, if_neg]
      have lv : f_X4_readsLevel r σ1 = f_X4_readsLevel_43 r r (Int32.ofInt (R : Int)) (Int32.ofInt (t + 1)) σ1 := by
        by_cases e2 : t = 2
        · rw [decide_eq_true e2] at w19
          have e3 : t + 1 = 3 := by omega
          rw [e3]
          simp (disch := omega) only [f_X4_readsLevel, f_X4_readsLevel_26, w19, c4, Option.bind_some, qi, ql, qI_lt, qI_le, qI_eq, qI_L, qI_ix, qL_lt, qL_eq, q_nat, q_cs, ← Int32.ofInt_add, ← Int32.ofInt_sub, ← Int32.ofInt_mul, ← Int32.ofInt_neg, ← Int64.ofInt_add, ← Int64.ofInt_sub, ← Int64.ofInt_mul, ← Int64.ofInt_neg, pL_I, q_mx, q_mn, q_ab, q_abL, q_mnL, q_nn0, q_nn1, q_rr, q_b1, q_b0, q_T, q_F, q_iT, q_iF, q_d, q_in, q_wi, q_hC, q_hM, pT_i, pU_i, pS_i, pS_j, pS_0, Sum.elim_inl, Sum.elim_inr, if_pos, if_neg]
        · rw [decide_eq_false e2] at w19
          rw [decide_eq_true (by omega : t = 3)] at w20
          have e3 : t + 1 = 4 := by omega
          rw [e3]
          simp (disch := omega) only [f_X4_readsLevel, f_X4_readsLevel_26, w19, w20, c4, Option.bind_some, qi, ql, qI_lt, qI_le, qI_eq, qI_L, qI_ix, qL_lt, qL_eq, q_nat, q_cs, ← Int32.ofInt_add, ← Int32.ofInt_sub, ← Int32.ofInt_mul, ← Int32.ofInt_neg, ← Int64.ofInt_add, ← Int64.ofInt_sub, ← Int64.ofInt_mul, ← Int64.ofInt_neg, pL_I, q_mx, q_mn, q_ab, q_abL, q_mnL, q_nn0, q_nn1, q_rr, q_b1, q_b0, q_T, q_F, q_iT, q_iF, q_d, q_in, q_wi, q_hC, q_hM, pT_i, pU_i, pS_i, pS_j, pS_0, Sum.elim_inl, Sum.elim_inr, if_pos, if_neg]
      have rw' : f_X12_readWhat (Int32.ofInt (s : Int)) false σ2 = f_X12_readWhat_29 (Int32.ofInt (s : Int)) (Int32.ofInt t) σ2 := by
        simp (disch := omega) only [f_X12_readWhat, w0, g', Option.bind_some, qi, ql, qI_lt, qI_le, qI_eq, qI_L, qI_ix, qL_lt, qL_eq, q_nat, q_cs, ← Int32.ofInt_add, ← Int32.ofInt_sub, ← Int32.ofInt_mul, ← Int32.ofInt_neg, ← Int64.ofInt_add, ← Int64.ofInt_sub, ← Int64.ofInt_mul, ← Int64.ofInt_neg, pL_I, q_mx, q_mn, q_ab, q_abL, q_mnL, q_nn0, q_nn1, q_rr, q_b1, q_b0, q_T, q_F, q_iT, q_iF, q_d, q_in, q_wi, q_hC, q_hM, pT_i, pU_i, pS_i, pS_j, pS_0, Sum.elim_inl, Sum.elim_inr, if_pos, if_neg]
      rcases gl_level (dp := dp) (s := s) h (t1 (by omega)) g (by omega : t = 2 ∨ t = 3) c4 hR hs with ⟨v, τ1, τ2, s', p', e', vb, m1, m2, m3, m4, m5, m6, m7, m8, m9, m10, m11, m12, m13⟩ | ⟨τ1, τ2, m1, m2, m3⟩
      · refine Or.inl ⟨τ1, τ2, s', p', e', ?_, rw'.trans m2, m3, m4, by omega, ⟨fun z => by omega, fun z => by omega, fun _ => ⟨t, v, by omega, fun z => by omega, vb, m6, m7, m8, fun _ => m9⟩⟩, m10, m11, m12, m13⟩
        rw [m1] at lv
        show f_X4_readsRest r (Int32.ofInt 1) σ1 = _
        simp (disch := omega) only [f_X4_readsRest, nw, lv, Option.bind_some, qi, ql, qI_lt, qI_le, qI_eq, qI_L, qI_ix, qL_lt, qL_eq, q_nat, q_cs, ← Int32.ofInt_add, ← Int32.ofInt_sub, ← Int32.ofInt_mul, ← Int32.ofInt_neg, ← Int64.ofInt_add, ← Int64.ofInt_sub, ← Int64.ofInt_mul, ← Int64.ofInt_neg, pL_I, q_mx, q_mn, q_ab, q_abL, q_mnL, q_nn0, q_nn1, q_rr, q_b1, q_b0, q_T, q_F, q_iT, q_iF, q_d, q_in, q_wi, q_hC, q_hM, pT_i, pU_i, pS_i, pS_j, pS_0, Sum.elim_inl, Sum.elim_inr, if_pos, if_neg]
      · refine Or.inr ⟨τ1, τ2, ?_, rw'.trans m2, m3⟩
        rw [m1] at lv
        show f_X4_readsRest r (Int32.ofInt 1) σ1 = _
        simp (disch := omega) only [f_X4_readsRest, nw, lv, Option.bind_some, qi, ql, qI_lt, qI_le, qI_eq, qI_L, qI_ix, qL_lt, qL_eq, q_nat, q_cs, ← Int32.ofInt_add, ← Int32.ofInt_sub, ← Int32.ofInt_mul, ← Int32.ofInt_neg, ← Int64.ofInt_add, ← Int64.ofInt_sub, ← Int64.ofInt_mul, ← Int64.ofInt_neg, pL_I, q_mx, q_mn, q_ab, q_abL, q_mnL, q_nn0, q_nn1, q_rr, q_b1, q_b0, q_T, q_F, q_iT, q_iF, q_d, q_in, q_wi, q_hC, q_hM, pT_i, pU_i, pS_i, pS_j, pS_0, Sum.elim_inl, Sum.elim_inr, if_pos, if_neg]
    · by_cases c0 : 0 ≤ t
      · left
        have Q1 : qf [(501, 999)] σ1 (am_wI σ1 501 r R (Int32.ofInt (t + 1))) := qf.rf.wI rfl
        have Q2 : qf [(1373, 999)] σ2 (am_wI σ2 1373 0 s (Int32.ofInt t)) := qf.rf.wI rfl
        obtain ⟨τ1, τ2, s', p', e', b1, b2, b3, b4, b5, b6⟩ := tk_next (h.q Q1 (by decide +kernel) Q2 (by decide +kernel)) (Or.inl (t1 c0))
        have pe := (h.2.2.2.2.2.2.1 (Or.inl (t1 c0))).1
        have wt : f_X4_readsWater r σ1 = some (true, τ1) := by
          by_cases e2 : t = 0
          · rw [decide_eq_true e2] at w17
            have e3 : t + 1 = 1 := by omega
            rw [e3] at b1
            simp (disch := omega) only [f_X4_readsWater, f_X4_readsWater_22, f_X4_readsWater_39, w17, c4, b1, Option.bind_some, qi, ql, qI_lt, qI_le, qI_eq, qI_L, qI_ix, qL_lt, qL_eq, q_nat, q_cs, ← Int32.ofInt_add, ← Int32.ofInt_sub, ← Int32.ofInt_mul, ← Int32.ofInt_neg, ← Int64.ofInt_add, ← Int64.ofInt_sub, ← Int64.ofInt_mul, ← Int64.ofInt_neg, pL_I, q_mx, q_mn, q_ab, q_abL, q_mnL, q_nn0, q_nn1, q_rr, q_b1, q_b0, q_T, q_F, q_iT, q_iF, q_d, q_in, q_wi, q_hC, q_hM, pT_i, pU_i, pS_i, pS_j, pS_0, Sum.elim_inl, Sum.elim_inr, if_pos, if_neg]
          · rw [decide_eq_false e2] at w17
            rw [decide_eq_true (by omega : t = 1)] at w18
            have e3 : t + 1 = 2 := by omega
            rw [e3] at b1
            simp (disch := omega) only [f_X4_readsWater, f_X4_readsWater_22, f_X4_readsWater_39, w17, w18, c4, b1, Option.bind_some, qi, ql, qI_lt, qI_le, qI_eq, qI_L, qI_ix, qL_lt, qL_eq, q_nat, q_cs, ← Int32.ofInt_add, ← Int32.ofInt_sub, ← Int32.ofInt_mul, ← Int32.ofInt_neg, ← Int64.ofInt_add, ← Int64.ofInt_sub, ← Int64.ofInt_mul, ← Int64.ofInt_neg, pL_I, q_mx, q_mn, q_ab, q_abL, q_mnL, q_nn0, q_nn1, q_rr, q_b1, q_b0, q_T, q_F, q_iT, q_iF, q_d, q_in, q_wi, q_hC, q_hM, pT_i, pU_i, pS_i, pS_j, pS_0, Sum.elim_inl, Sum.elim_inr, if_pos, if_neg]
        refine ⟨τ1, τ2, s', p', e', ?_, ?_, b3, ((b6 12 0 12 rfl).1).trans g, by omega, ⟨fun z => by omega, fun z => by omega, fun _ => ⟨t, 0, by omega, fun z => by omega, by omega, ?_, ?_, ?_, fun z => by omega⟩⟩, (Q1.mo (by decide)).tr (b5.mo (by decide)), (qz.rf.wI (zR_r (Nat.le_refl R)).2.1).tr ((b5.mo (by decide)).z (l := tlC) (fun _ _ _ => zR_t)), (Q2.mo (by decide)).tr (b6.mo (by decide)), (qz.rf.wI (zS_r (Nat.le_refl s)).2.1).tr ((b6.mo (by decide)).z (l := tlM) (fun _ _ _ => zS_t))⟩
        · show f_X4_readsRest r (Int32.ofInt 1) σ1 = _
          simp (disch := omega) only [f_X4_readsRest, wt, Option.bind_some, qi, ql, qI_lt, qI_le, qI_eq, qI_L, qI_ix, qL_lt, qL_eq, q_nat, q_cs, ← Int32.ofInt_add, ← Int32.ofInt_sub, ← Int32.ofInt_mul, ← Int32.ofInt_neg, ← Int64.ofInt_add, ← Int64.ofInt_sub, ← Int64.ofInt_mul, ← Int64.ofInt_neg, pL_I, q_mx, q_mn, q_ab, q_abL, q_mnL, q_nn0, q_nn1, q_rr, q_b1, q_b0, q_T, q_F, q_iT, q_iF, q_d, q_in, q_wi, q_hC, q_hM, pT_i, pU_i, pS_i, pS_j, pS_0, Sum.elim_inl, Sum.elim_inr, if_pos, if_neg]
        · show f_X12_readWhat (Int32.ofInt (s : Int)) false σ2 = _
          simp (disch := omega) only [f_X12_readWhat, f_X12_readWhat_29, w0, g', b2, Option.bind_some, qi, ql, qI_lt, qI_le, qI_eq, qI_L, qI_ix, qL_lt, qL_eq, q_nat, q_cs, ← Int32.ofInt_add, ← Int32.ofInt_sub, ← Int32.ofInt_mul, ← Int32.ofInt_neg, ← Int64.ofInt_add, ← Int64.ofInt_sub, ← Int64.ofInt_mul, ← Int64.ofInt_neg, pL_I, q_mx, q_mn, q_ab, q_abL, q_mnL, q_nn0, q_nn1, q_rr, q_b1, q_b0, q_T, q_F, q_iT, q_iF, q_d, q_in, q_wi, q_hC, q_hM, pT_i, pU_i, pS_i, pS_j, pS_0, Sum.elim_inl, Sum.elim_inr, if_pos, if_neg]
        · rw [(b5 501 r R rfl).1, am_wI_r, if_pos ⟨rfl, rfl, rfl⟩]
        · rw [(b5 502 r R rfl).1]
          exact u0
        · rw [(b6 1373 0 s rfl).1, am_wI_r, if_pos ⟨rfl, rfl, rfl⟩]
      · right
        have d0 : decide (t = 0) = false := decide_eq_false (by omega)
        have d1 : decide (t = 1) = false := decide_eq_false (by omega)
        have d2 : decide (t = 2) = false := decide_eq_false (by omega)
        have d3 : decide (t = 3) = false := decide_eq_false (by omega)
        rw [d0] at w17
        rw [d1] at w18
        rw [d2] at w19
        rw [d3] at w20
        have r1 := tk_refuse h 2
        have r2 := tk_wrong h g
        have kb : 1 ≤ (if sT = 4 then 1 else 2 : Int) ∧ (if sT = 4 then 1 else 2 : Int) ≤ 6 := by split <;> omega
        generalize (if sT = 4 then 1 else 2 : Int) = k at r1 r2 kb
        have B : bd (FM σ2 k p) k p := FM_b kb
        have b29 := fun v w => bd_29 B v w
        refine ⟨FC σ1 k p, FM σ2 k p, ?_, ?_, ⟨k, p, FC_f, B⟩, FC_q.z (fun _ _ _ => zR_t), FM_q.z (fun _ _ _ => zS_t)⟩
        · show f_X4_readsRest r (Int32.ofInt 1) σ1 = _
          simp (disch := omega) only [f_X4_readsRest, f_X4_readsWater, f_X4_readsLevel, w17, w18, w19, w20, r1, Option.bind_some, qi, ql, qI_lt, qI_le, qI_eq, qI_L, qI_ix, qL_lt, qL_eq, q_nat, q_cs, ← Int32.ofInt_add, ← Int32.ofInt_sub, ← Int32.ofInt_mul, ← Int32.ofInt_neg, ← Int64.ofInt_add, ← Int64.ofInt_sub, ← Int64.ofInt_mul, ← Int64.ofInt_neg, pL_I, q_mx, q_mn, q_ab, q_abL, q_mnL, q_nn0, q_nn1, q_rr, q_b1, q_b0, q_T, q_F, q_iT, q_iF, q_d, q_in, q_wi, q_hC, q_hM, pT_i, pU_i, pS_i, pS_j, pS_0, Sum.elim_inl, Sum.elim_inr, if_pos, if_neg]
        · show f_X12_readWhat (Int32.ofInt (s : Int)) false σ2 = _
          simp (disch := omega) only [f_X12_readWhat, f_X12_readWhat_25, w0, g', r2, b29, Option.bind_some, qi, ql, qI_lt, qI_le, qI_eq, qI_L, qI_ix, qL_lt, qL_eq, q_nat, q_cs, ← Int32.ofInt_add, ← Int32.ofInt_sub, ← Int32.ofInt_mul, ← Int32.ofInt_neg, ← Int64.ofInt_add, ← Int64.ofInt_sub, ← Int64.ofInt_mul, ← Int64.ofInt_neg, pL_I, q_mx, q_mn, q_ab, q_abL, q_mnL, q_nn0, q_nn1, q_rr, q_b1, q_b0, q_T, q_F, q_iT, q_iF, q_d, q_in, q_wi, q_hC, q_hM, pT_i, pU_i, pS_i, pS_j, pS_0, Sum.elim_inl, Sum.elim_inr, if_pos, if_neg]
  · -- WHEN
    subst z
    obtain ⟨t, w0, w17, w18, w19, w20, tb, t1⟩ := tk_what h
    by_cases c2 : 2 ≤ t
    · have lv : f_X4_readsLevel r σ1 = f_X4_readsLevel_43 r r (Int32.ofInt (R : Int)) (Int32.ofInt (t + 1)) σ1 := by
        by_cases e2 : t = 2
        · rw [decide_eq_true e2] at w19
          have e3 : t + 1 = 3 := by omega
          rw [e3]
          simp (disch := omega) only [f_X4_readsLevel, f_X4_readsLevel_26, w19, c4, Option.bind_some, qi, ql, qI_lt, qI_le, qI_eq, qI_L, qI_ix, qL_lt, qL_eq, q_nat, q_cs, ← Int32.ofInt_add, ← Int32.ofInt_sub, ← Int32.ofInt_mul, ← Int32.ofInt_neg, ← Int64.ofInt_add, ← Int64.ofInt_sub, ← Int64.ofInt_mul, ← Int64.ofInt_neg, pL_I, q_mx, q_mn, q_ab, q_abL, q_mnL, q_nn0, q_nn1, q_rr, q_b1, q_b0, q_T, q_F, q_iT, q_iF, q_d, q_in, q_wi, q_hC, q_hM, pT_i, pU_i, pS_i, pS_j, pS_0, Sum.elim_inl, Sum.elim_inr, if_pos, if_neg]
        · rw [decide_eq_false e2] at w19
          rw [decide_eq_true (by omega : t = 3)] at w20
          have e3 : t + 1 = 4 := by omega
          rw [e3]
          simp (disch := omega) only [f_X4_readsLevel, f_X4_readsLevel_26, w19, w20, c4, Option.bind_some, qi, ql, qI_lt, qI_le, qI_eq, qI_L, qI_ix, qL_lt, qL_eq, q_nat, q_cs, ← Int32.ofInt_add, ← Int32.ofInt_sub, ← Int32.ofInt_mul, ← Int32.ofInt_neg, ← Int64.ofInt_add, ← Int64.ofInt_sub, ← Int64.ofInt_mul, ← Int64.ofInt_neg, pL_I, q_mx, q_mn, q_ab, q_abL, q_mnL, q_nn0, q_nn1, q_rr, q_b1, q_b0, q_T, q_F, q_iT, q_iF, q_d, q_in, q_wi, q_hC, q_hM, pT_i, pU_i, pS_i, pS_j, pS_0, Sum.elim_inl, Sum.elim_inr, if_pos, if_neg]
      have rw' : f_X12_readWhat (Int32.ofInt (s : Int)) true σ2 = f_X12_readWhat_29 (Int32.ofInt (s : Int)) (Int32.ofInt t) σ2 := by
        simp (disch := omega) only [f_X12_readWhat, w0, g', Option.bind_some, qi, ql, qI_lt, qI_le, qI_eq, qI_L, qI_ix, qL_lt, qL_eq, q_nat, q_cs, ← Int32.ofInt_add, ← Int32.ofInt_sub, ← Int32.ofInt_mul, ← Int32.ofInt_neg, ← Int64.ofInt_add, ← Int64.ofInt_sub, ← Int64.ofInt_mul, ← Int64.ofInt_neg, pL_I, q_mx, q_mn, q_ab, q_abL, q_mnL, q_nn0, q_nn1, q_rr, q_b1, q_b0, q_T, q_F, q_iT, q_iF, q_d, q_in, q_wi, q_hC, q_hM, pT_i, pU_i, pS_i, pS_j, pS_0, Sum.elim_inl, Sum.elim_inr, if_pos, if_neg]
      rcases gl_level (dp := dp) (s := s) h (t1 (by omega)) g (by omega : t = 2 ∨ t = 3) c4 hR hs with ⟨v, τ1, τ2, s', p', e', vb, m1, m2, m3, m4, m5, m6, m7, m8, m9, m10, m11, m12, m13⟩ | ⟨τ1, τ2, m1, m2, m3⟩
      · refine Or.inl ⟨τ1, τ2, s', p', e', ?_, rw'.trans m2, m3, m4, by omega, ⟨fun z => by omega, fun z => by omega, fun _ => ⟨t, v, by omega, fun _ => c2, vb, m6, m7, m8, fun _ => m9⟩⟩, m10, m11, m12, m13⟩
        rw [m1] at lv
        show f_X4_readsRest r (Int32.ofInt 5) σ1 = _
        simp (disch := omega) only [f_X4_readsRest, lv, Option.bind_some, qi, ql, qI_lt, qI_le, qI_eq, qI_L, qI_ix, qL_lt, qL_eq, q_nat, q_cs, ← Int32.ofInt_add, ← Int32.ofInt_sub, ← Int32.ofInt_mul, ← Int32.ofInt_neg, ← Int64.ofInt_add, ← Int64.ofInt_sub, ← Int64.ofInt_mul, ← Int64.ofInt_neg, pL_I, q_mx, q_mn, q_ab, q_abL, q_mnL, q_nn0, q_nn1, q_rr, q_b1, q_b0, q_T, q_F, q_iT, q_iF, q_d, q_in, q_wi, q_hC, q_hM, pT_i, pU_i, pS_i, pS_j, pS_0, Sum.elim_inl, Sum.elim_inr, if_pos, if_neg]
      · refine Or.inr ⟨τ1, τ2, ?_, rw'.trans m2, m3⟩
        rw [m1] at lv
        show f_X4_readsRest r (Int32.ofInt 5) σ1 = _
        simp (disch := omega) only [f_X4_readsRest, lv, Option.bind_some, qi, ql, qI_lt, qI_le, qI_eq, qI_L, qI_ix, qL_lt, qL_eq, q_nat, q_cs, ← Int32.ofInt_add, ← Int32.ofInt_sub, ← Int32.ofInt_mul, ← Int32.ofInt_neg, ← Int64.ofInt_add, ← Int64.ofInt_sub, ← Int64.ofInt_mul, ← Int64.ofInt_neg, pL_I, q_mx, q_mn, q_ab, q_abL, q_mnL, q_nn0, q_nn1, q_rr, q_b1, q_b0, q_T, q_F, q_iT, q_iF, q_d, q_in, q_wi, q_hC, q_hM, pT_i, pU_i, pS_i, pS_j, pS_0, Sum.elim_inl, Sum.elim_inr, if_pos, if_neg]
    · right
      have d2 : decide (t = 2) = false := decide_eq_false (by omega)
      have d3 : decide (t = 3) = false := decide_eq_false (by omega)
      rw [d2] at w19
      rw [d3] at w20
      have r1 := tk_refuse h 2
      have r2 := tk_wrong h g
      have kb : 1 ≤ (if sT = 4 then 1 else 2 : Int) ∧ (if sT = 4 then 1 else 2 : Int) ≤ 6 := by split <;> omega
      generalize (if sT = 4 then 1 else 2 : Int) = k at r1 r2 kb
      have B : bd (FM σ2 k p) k p := FM_b kb
      have b29 := fun v w => bd_29 B v w
      refine ⟨FC σ1 k p, FM σ2 k p, ?_, ?_, ⟨k, p, FC_f, B⟩, FC_q.z (fun _ _ _ => zR_t), FM_q.z (fun _ _ _ => zS_t)⟩
      · show f_X4_readsRest r (Int32.ofInt 5) σ1 = _
        simp (disch := omega) only [f_X4_readsRest, f_X4_readsLevel, w19, w20, r1, Option.bind_some, qi, ql, qI_lt, qI_le, qI_eq, qI_L, qI_ix, qL_lt, qL_eq, q_nat, q_cs, ← Int32.ofInt_add, ← Int32.ofInt_sub, ← Int32.ofInt_mul, ← Int32.ofInt_neg, ← Int64.ofInt_add, ← Int64.ofInt_sub, ← Int64.ofInt_mul, ← Int64.ofInt_neg, pL_I, q_mx, q_mn, q_ab, q_abL, q_mnL, q_nn0, q_nn1, q_rr, q_b1, q_b0, q_T, q_F, q_iT, q_iF, q_d, q_in, q_wi, q_hC, q_hM, pT_i, pU_i, pS_i, pS_j, pS_0, Sum.elim_inl, Sum.elim_inr, if_pos, if_neg]
      · show f_X12_readWhat (Int32.ofInt (s : Int)) true σ2 = _
        by_cases c0 : t < 0
        · simp (disch := omega) only [f_X12_readWhat, f_X12_readWhat_25, w0, g', r2, b29, Option.bind_some, qi, ql, qI_lt, qI_le, qI_eq, qI_L, qI_ix, qL_lt, qL_eq, q_nat, q_cs, ← Int32.ofInt_add, ← Int32.ofInt_sub, ← Int32.ofInt_mul, ← Int32.ofInt_neg, ← Int64.ofInt_add, ← Int64.ofInt_sub, ← Int64.ofInt_mul, ← Int64.ofInt_neg, pL_I, q_mx, q_mn, q_ab, q_abL, q_mnL, q_nn0, q_nn1, q_rr, q_b1, q_b0, q_T, q_F, q_iT, q_iF, q_d, q_in, q_wi, q_hC, q_hM, pT_i, pU_i, pS_i, pS_j, pS_0, Sum.elim_inl, Sum.elim_inr, if_pos, if_neg]
        · simp (disch := omega) only [f_X12_readWhat, f_X12_readWhat_25, w0, g', r2, b29, Option.bind_some, qi, ql, qI_lt, qI_le, qI_eq, qI_L, qI_ix, qL_lt, qL_eq, q_nat, q_cs, ← Int32.ofInt_add, ← Int32.ofInt_sub, ← Int32.ofInt_mul, ← Int32.ofInt_neg, ← Int64.ofInt_add, ← Int64.ofInt_sub, ← Int64.ofInt_mul, ← Int64.ofInt_neg, pL_I, q_mx, q_mn, q_ab, q_abL, q_mnL, q_nn0, q_nn1, q_rr, q_b1, q_b0, q_T, q_F, q_iT, q_iF, q_d, q_in, q_wi, q_hC, q_hM, pT_i, pU_i, pS_i, pS_j, pS_0, Sum.elim_inl, Sum.elim_inr, if_pos, if_neg]
