/-! ===== ORDERS: what stands behind a STEP's WORD ===== -/
def glC : List (Nat × Nat) := [(5, 3), (5, 4), (5, 5), (5, 6), (5, 7), (5, 8), (501, 999), (502, 999)]
def glM : List (Nat × Nat) := [(12, 12), (12, 13), (12, 14), (12, 15), (12, 16), (12, 17), (12, 18), (12, 19), (1373, 999), (1374, 999)]
theorem gn_num {σ1 σ2 : am_H} {n : Nat} {b : Nat → Int} {sT p e r R dp : Nat} {lo hi : Int} (h : tk σ1 σ2 n b sT p e) (g : gd σ2) (l0 : 0 ≤ lo ∧ lo ≤ 9999) (h0 : 0 ≤ hi ∧ hi ≤ 9999) (c4 : σ1.1 4 r 4 = Int32.ofInt (R : Int)) (hR : R < 80) : (∃ (v : Int) (τ1 τ2 : am_H) (s' p' e' : Nat), (lo ≤ v ∧ v ≤ hi) ∧ f_X4_readsNumber r (Int32.ofInt lo) (Int32.ofInt hi) σ1 = some (true, τ1) ∧ f_X12_count (Int32.ofInt lo) (Int32.ofInt hi) σ2 = some (Int32.ofInt v, τ2) ∧ tk τ1 τ2 n b s' p' e' ∧ gd τ2 ∧ p < p' ∧ τ1.1 502 r R = Int32.ofInt v ∧ τ1.1 501 r R = σ1.1 501 r R ∧ qf glC σ1 τ1 ∧ qz (zR r R dp) σ1 τ1 ∧ qf tlM σ2 τ2) ∨ (∃ q : Int, (1 ≤ q ∧ q ≤ 6) ∧ f_X4_readsNumber r (Int32.ofInt lo) (Int32.ofInt hi) σ1 = some (false, FC σ1 q p) ∧ f_X12_count (Int32.ofInt lo) (Int32.ofInt hi) σ2 = some (Int32.ofInt 0, FM σ2 q p)) := by
  rcases tk_num2 h g l0 h0 with ⟨v, s2, vb, k6, a1, a2, a3⟩ | ⟨q, qb, a1, a2, a3⟩
  · left
    have Q1 : qf [(502, 999)] σ1 (am_wI σ1 502 r R (Int32.ofInt v)) := qf.rf.wI rfl
    obtain ⟨τ1, τ2, s', p', e', b1, b2, b3, b4, b5, b6, b7, b8⟩ := a3 _ (h.q Q1 (by decide +kernel) (qf.rf (l := [])) (by decide +kernel))
    refine ⟨v, τ1, τ2, s', p', e', vb, ?_, b2, b4, b5, b6, ?_, ?_, (Q1.mo (by decide)).tr (b7.mo (by decide)), (qz.rf.wI (zR_r (Nat.le_refl R)).2.2.1).tr (b7.z (fun _ _ _ => zR_t)), b8⟩
    · simp (disch := omega) only [f_X4_readsNumber, a1, c4, k6, b1, Option.bind_some, qi, ql, qI_lt, qI_le, qI_eq, qI_L, qI_ix, qL_lt, qL_eq, q_nat, q_cs, ← Int32.ofInt_add, ← Int32.ofInt_sub, ← Int32.ofInt_mul, ← Int32.ofInt_neg, ← Int64.ofInt_add, ← Int64.ofInt_sub, ← Int64.ofInt_mul, ← Int64.ofInt_neg, pL_I, q_mx, q_mn, q_ab, q_abL, q_mnL, q_nn0, q_nn1, q_rr, q_b1, q_b0, q_T, q_F, q_iT, q_iF, q_d, q_in, q_wi, q_hC, q_hM, pT_i, pU_i, pS_i, pS_j, pS_0, Sum.elim_inl, Sum.elim_inr, if_pos, if_neg]
    · rw [(b7 502 r R rfl).1, am_wI_r, if_pos ⟨rfl, rfl, rfl⟩]
    · rw [(b7 501 r R rfl).1]
      rfl
  · right
    refine ⟨q, qb, ?_, a3⟩
    simp (disch := omega) only [f_X4_readsNumber, a1, Option.bind_some, qi, ql, qI_lt, qI_le, qI_eq, qI_L, qI_ix, qL_lt, qL_eq, q_nat, q_cs, ← Int32.ofInt_add, ← Int32.ofInt_sub, ← Int32.ofInt_mul, ← Int32.ofInt_neg, ← Int64.ofInt_add, ← Int64.ofInt_sub, ← Int64.ofInt_mul, ← Int64.ofInt_neg, pL_I, q_mx, q_mn, q_ab, q_abL, q_mnL, q_nn0, q_nn1, q_rr, q_b1, q_b0, q_T, q_F, q_iT, q_iF, q_d, q_in, q_wi, q_hC, q_hM, pT_i, pU_i, pS_i, pS_j, pS_0, Sum.elim_inl, Sum.elim_inr, if_pos, if_neg]
theorem wq_x {b : Nat → Int} {s p e r r' : Nat} (h : wq b s p e r = true) (hn : wl r ≠ wl r') : wq b s p e r' = false := by
  have h1 := (of_decide_eq_true h).2
  unfold wq
  exact decide_eq_false (fun z => hn (h1.symm.trans z.2))
/-- the test of an UNTIL or WHEN -/
theorem tk_what {σ1 σ2 : am_H} {n : Nat} {b : Nat → Int} {s p e : Nat} (h : tk σ1 σ2 n b s p e) : ∃ t : Int, f_X12_whatWord σ2 = some (Int32.ofInt t) ∧ f_X5_isWord 17 σ1 = some (decide (t = 0)) ∧ f_X5_isWord 18 σ1 = some (decide (t = 1)) ∧ f_X5_isWord 19 σ1 = some (decide (t = 2)) ∧ f_X5_isWord 20 σ1 = some (decide (t = 3)) ∧ (-1 ≤ t ∧ t ≤ 3) ∧ (0 ≤ t → s = 1) := by
  have A := tk_word h (by omega : 17 < 22)
  have B := tk_word h (by omega : 18 < 22)
  have C := tk_word h (by omega : 19 < 22)
  have D := tk_word h (by omega : 20 < 22)
  have xa : wq b s p e 17 = true → ∀ q : Nat, wl 17 ≠ wl q → wq b s p e q = false := fun z q hq => wq_x z hq
  have xb : wq b s p e 18 = true → ∀ q : Nat, wl 18 ≠ wl q → wq b s p e q = false := fun z q hq => wq_x z hq
  have xc : wq b s p e 19 = true → ∀ q : Nat, wl 19 ≠ wl q → wq b s p e q = false := fun z q hq => wq_x z hq
  have oa := wq_1 (b := b) (s := s) (p := p) (e := e) (r := 17)
  have ob := wq_1 (b := b) (s := s) (p := p) (e := e) (r := 18)
  have oc := wq_1 (b := b) (s := s) (p := p) (e := e) (r := 19)
  have od := wq_1 (b := b) (s := s) (p := p) (e := e) (r := 20)
  rw [A.1, B.1, C.1, D.1]
  unfold f_X12_whatWord
  rw [sp_17, Option.bind_some, A.2, Option.bind_some]
  cases w1 : wq b s p e 17 with
  | true =>
    rw [xa w1 18 (by decide), xa w1 19 (by decide), xa w1 20 (by decide)]
    exact ⟨0, rfl, rfl, rfl, rfl, rfl, by omega, fun _ => oa w1⟩
  | false =>
  rw [if_neg Bool.false_ne_true, sp_18, Option.bind_some, B.2, Option.bind_some]
  cases w2 : wq b s p e 18 with
  | true =>
    rw [xb w2 19 (by decide), xb w2 20 (by decide)]
    exact ⟨1, rfl, rfl, rfl, rfl, rfl, by omega, fun _ => ob w2⟩
  | false =>
  rw [if_neg Bool.false_ne_true, sp_19, Option.bind_some, C.2, Option.bind_some]
  cases w3 : wq b s p e 19 with
  | true =>
    rw [xc w3 20 (by decide)]
    exact ⟨2, rfl, rfl, rfl, rfl, rfl, by omega, fun _ => oc w3⟩
  | false =>
  rw [if_neg Bool.false_ne_true, sp_20, Option.bind_some, D.2, Option.bind_some]
  cases w4 : wq b s p e 20 with
  | true => exact ⟨3, rfl, rfl, rfl, rfl, rfl, by omega, fun _ => od w4⟩
  | false => exact ⟨-1, rfl, rfl, rfl, rfl, rfl, by omega, fun z => by omega⟩
theorem bd_29 {σ : am_H} {k : Int} {p : Nat} (h : bd σ k p) (v w : Int32) : f_X12_readWhat_29 v w σ = some σ := by
  obtain ⟨h1, h2, h3⟩ := h
  simp (disch := omega) only [f_X12_readWhat_29, h2, Option.bind_some, qi, ql, qI_lt, qI_le, qI_eq, qI_L, qI_ix, qL_lt, qL_eq, q_nat, q_cs, ← Int32.ofInt_add, ← Int32.ofInt_sub, ← Int32.ofInt_mul, ← Int32.ofInt_neg, ← Int64.ofInt_add, ← Int64.ofInt_sub, ← Int64.ofInt_mul, ← Int64.ofInt_neg, pL_I, q_mx, q_mn, q_ab, q_abL, q_mnL, q_nn0, q_nn1, q_rr, q_b1, q_b0, q_T, q_F, q_iT, q_iF, q_d, q_in, q_wi, q_hC, q_hM, pT_i, pU_i, pS_i, pS_j, pS_0, Sum.elim_inl, Sum.elim_inr, if_pos, if_neg]
/-- a height above or below which -/
theorem gl_level {σ1 σ2 : am_H} {n : Nat} {b : Nat → Int} {sT p e r R dp s : Nat} {t : Int} (h : tk σ1 σ2 n b sT p e) (s1 : sT = 1) (g : gd σ2) (ht : t = 2 ∨ t = 3) (c4 : σ1.1 4 r 4 = Int32.ofInt (R : Int)) (hR : R < 80) (hs : s < 40) : (∃ (v : Int) (τ1 τ2 : am_H) (s' p' e' : Nat), (-9999 ≤ v ∧ v ≤ 9999) ∧ f_X4_readsLevel_43 r r (Int32.ofInt (R : Int)) (Int32.ofInt (t + 1)) σ1 = some (true, τ1) ∧ f_X12_readWhat_29 (Int32.ofInt (s : Int)) (Int32.ofInt t) σ2 = some τ2 ∧ tk τ1 τ2 n b s' p' e' ∧ gd τ2 ∧ p < p' ∧ τ1.1 501 r R = Int32.ofInt (t + 1) ∧ τ1.1 502 r R = Int32.ofInt v ∧ τ2.1 1373 0 s = Int32.ofInt t ∧ τ2.1 1374 0 s = Int32.ofInt v ∧ qf glC σ1 τ1 ∧ qz (zR r R dp) σ1 τ1 ∧ qf glM σ2 τ2 ∧ qz (zS s) σ2 τ2) ∨ (∃ τ1 τ2 : am_H, f_X4_readsLevel_43 r r (Int32.ofInt (R : Int)) (Int32.ofInt (t + 1)) σ1 = some (false, τ1) ∧ f_X12_readWhat_29 (Int32.ofInt (s : Int)) (Int32.ofInt t) σ2 = some τ2 ∧ oN (zR r R dp) (zS s) σ1 σ2 τ1 τ2) := by
  have g' : σ2.1 12 0 12 = Int32.ofInt 0 := g
  obtain ⟨β, hβ⟩ : ∃ β : am_H, β = am_wI σ1 501 r R (Int32.ofInt (t + 1)) := ⟨_, rfl⟩
  obtain ⟨γ, hγ⟩ : ∃ γ : am_H, γ = am_wI σ2 1373 0 s (Int32.ofInt t) := ⟨_, rfl⟩
  have Qβ : qf [(501, 999)] σ1 β := by rw [hβ]; exact qf.rf.wI rfl
  have Qγ : qf [(1373, 999)] σ2 γ := by rw [hγ]; exact qf.rf.wI rfl
  have Zβ : qz (zR r R dp) σ1 β := by rw [hβ]; exact qz.rf.wI (zR_r (Nat.le_refl R)).2.1
  have Zγ : qz (zS s) σ2 γ := by rw [hγ]; exact qz.rf.wI (zS_r (Nat.le_refl s)).2.1
  obtain ⟨ρ1, ρ2, s2, p1, e1, a1, a2, a3, a4, a5, a6⟩ := tk_next (h.q Qβ (by decide +kernel) Qγ (by decide +kernel)) (Or.inl s1)
  have pe := (h.2.2.2.2.2.2.1 (Or.inl s1)).1
  have gρ : gd ρ2 := ((a6 12 0 12 rfl).1).trans (((Qγ 12 0 12 rfl).1).trans g)
  have A := tk_word a3 (by omega : 21 < 22)
  have SP : f_X12_spelled 108 101 115 115 0 ρ2 = some (Int64.ofInt (ev 32 (wl 21))) := sp_21
  have o21 := wq_1 (b := b) (s := s2) (p := p1) (e := e1) (r := 21)
  -- the NUMBER behind it, with less ahead of it or without
  obtain ⟨ls, hls⟩ : ∃ ls : Bool, wq b s2 p1 e1 21 = ls := ⟨_, rfl⟩
  rw [hls] at A o21
  have nxt : ∃ (φ1 φ2 : am_H) (s3 p3 e3 : Nat), tk φ1 φ2 n b s3 p3 e3 ∧ gd φ2 ∧ p < p3 ∧ qf tlC ρ1 φ1 ∧ qf tlM ρ2 φ2 ∧ f_X4_readsLevel_43 r r (Int32.ofInt (R : Int)) (Int32.ofInt (t + 1)) σ1 = f_X4_readsLevel_63 r ls φ1 ∧ f_X12_readWhat_29 (Int32.ofInt (s : Int)) (Int32.ofInt t) σ2 = f_X12_readWhat_81 (Int32.ofInt (s : Int)) ls φ2 := by
    cases ls with
    | true =>
      obtain ⟨φ1, φ2, s3, p3, e3, b1, b2, b3, b4, b5, b6⟩ := tk_next a3 (Or.inl (o21 rfl))
      have pe1 := (a3.2.2.2.2.2.2.1 (Or.inl (o21 rfl))).1
      refine ⟨φ1, φ2, s3, p3, e3, b3, ((b6 12 0 12 rfl).1).trans gρ, by omega, b5.mo (by decide), b6.mo (by decide), ?_, ?_⟩
      · simp (disch := omega) only [f_X4_readsLevel_43, Option.bind_some, qi, ql, qI_lt, qI_le, qI_eq, qI_L, qI_ix, qL_lt, qL_eq, q_nat, q_cs, ← Int32.ofInt_add, ← Int32.ofInt_sub, ← Int32.ofInt_mul, ← Int32.ofInt_neg, ← Int64.ofInt_add, ← Int64.ofInt_sub, ← Int64.ofInt_mul, ← Int64.ofInt_neg, pL_I, q_mx, q_mn, q_ab, q_abL, q_mnL, q_nn0, q_nn1, q_rr, q_b1, q_b0, q_T, q_F, q_iT, q_iF, q_d, q_in, q_wi, q_hC, q_hM, pT_i, pU_i, pS_i, pS_j, pS_0, Sum.elim_inl, Sum.elim_inr, if_pos, if_neg]
        rw [← hβ, a1]
        simp (disch := omega) only [A, b1, Option.bind_some, qi, ql, qI_lt, qI_le, qI_eq, qI_L, qI_ix, qL_lt, qL_eq, q_nat, q_cs, ← Int32.ofInt_add, ← Int32.ofInt_sub, ← Int32.ofInt_mul, ← Int32.ofInt_neg, ← Int64.ofInt_add, ← Int64.ofInt_sub, ← Int64.ofInt_mul, ← Int64.ofInt_neg, pL_I, q_mx, q_mn, q_ab, q_abL, q_mnL, q_nn0, q_nn1, q_rr, q_b1, q_b0, q_T, q_F, q_iT, q_iF, q_d, q_in, q_wi, q_hC, q_hM, pT_i, pU_i, pS_i, pS_j, pS_0, Sum.elim_inl, Sum.elim_inr, if_pos, if_neg]
      · simp (disch := omega) only [f_X12_readWhat_29, g', Option.bind_some, qi, ql, qI_lt, qI_le, qI_eq, qI_L, qI_ix, qL_lt, qL_eq, q_nat, q_cs, ← Int32.ofInt_add, ← Int32.ofInt_sub, ← Int32.ofInt_mul, ← Int32.ofInt_neg, ← Int64.ofInt_add, ← Int64.ofInt_sub, ← Int64.ofInt_mul, ← Int64.ofInt_neg, pL_I, q_mx, q_mn, q_ab, q_abL, q_mnL, q_nn0, q_nn1, q_rr, q_b1, q_b0, q_T, q_F, q_iT, q_iF, q_d, q_in, q_wi, q_hC, q_hM, pT_i, pU_i, pS_i, pS_j, pS_0, Sum.elim_inl, Sum.elim_inr, if_pos, if_neg]
        rw [← hγ, a2]
        have A2 := A.2
        simp (disch := omega) only [sp_21, A2, b2, Option.bind_some, qi, ql, qI_lt, qI_le, qI_eq, qI_L, qI_ix, qL_lt, qL_eq, q_nat, q_cs, ← Int32.ofInt_add, ← Int32.ofInt_sub, ← Int32.ofInt_mul, ← Int32.ofInt_neg, ← Int64.ofInt_add, ← Int64.ofInt_sub, ← Int64.ofInt_mul, ← Int64.ofInt_neg, pL_I, q_mx, q_mn, q_ab, q_abL, q_mnL, q_nn0, q_nn1, q_rr, q_b1, q_b0, q_T, q_F, q_iT, q_iF, q_d, q_in, q_wi, q_hC, q_hM, pT_i, pU_i, pS_i, pS_j, pS_0, Sum.elim_inl, Sum.elim_inr, if_pos, if_neg]
        rw [show f_X12_spelled (Int32.ofInt 108) (Int32.ofInt 101) (Int32.ofInt 115) (Int32.ofInt 115) (Int32.ofInt 0) ρ2 = some (Int64.ofInt (ev 32 (wl 21))) from sp_21]
        simp (disch := omega) only [A2, b2, Option.bind_some, qi, ql, qI_lt, qI_le, qI_eq, qI_L, qI_ix, qL_lt, qL_eq, q_nat, q_cs, ← Int32.ofInt_add, ← Int32.ofInt_sub, ← Int32.ofInt_mul, ← Int32.ofInt_neg, ← Int64.ofInt_add, ← Int64.ofInt_sub, ← Int64.ofInt_mul, ← Int64.ofInt_neg, pL_I, q_mx, q_mn, q_ab, q_abL, q_mnL, q_nn0, q_nn1, q_rr, q_b1, q_b0, q_T, q_F, q_iT, q_iF, q_d, q_in, q_wi, q_hC, q_hM, pT_i, pU_i, pS_i, pS_j, pS_0, Sum.elim_inl, Sum.elim_inr, if_pos, if_neg]
    | false =>
      refine ⟨ρ1, ρ2, s2, p1, e1, a3, gρ, by omega, qf.rf, qf.rf, ?_, ?_⟩
      · simp (disch := omega) only [f_X4_readsLevel_43, Option.bind_some, qi, ql, qI_lt, qI_le, qI_eq, qI_L, qI_ix, qL_lt, qL_eq, q_nat, q_cs, ← Int32.ofInt_add, ← Int32.ofInt_sub, ← Int32.ofInt_mul, ← Int32.ofInt_neg, ← Int64.ofInt_add, ← Int64.ofInt_sub, ← Int64.ofInt_mul, ← Int64.ofInt_neg, pL_I, q_mx, q_mn, q_ab, q_abL, q_mnL, q_nn0, q_nn1, q_rr, q_b1, q_b0, q_T, q_F, q_iT, q_iF, q_d, q_in, q_wi, q_hC, q_hM, pT_i, pU_i, pS_i, pS_j, pS_0, Sum.elim_inl, Sum.elim_inr, if_pos, if_neg]
        rw [← hβ, a1]
        simp (disch := omega) only [A, Option.bind_some, qi, ql, qI_lt, qI_le, qI_eq, qI_L, qI_ix, qL_lt, qL_eq, q_nat, q_cs, ← Int32.ofInt_add, ← Int32.ofInt_sub, ← Int32.ofInt_mul, ← Int32.ofInt_neg, ← Int64.ofInt_add, ← Int64.ofInt_sub, ← Int64.ofInt_mul, ← Int64.ofInt_neg, pL_I, q_mx, q_mn, q_ab, q_abL, q_mnL, q_nn0, q_nn1, q_rr, q_b1, q_b0, q_T, q_F, q_iT, q_iF, q_d, q_in, q_wi, q_hC, q_hM, pT_i, pU_i, pS_i, pS_j, pS_0, Sum.elim_inl, Sum.elim_inr, if_pos, if_neg]
      · simp (disch := omega) only [f_X12_readWhat_29, g', Option.bind_some, qi, ql, qI_lt, qI_le, qI_eq, qI_L, qI_ix, qL_lt, qL_eq, q_nat, q_cs, ← Int32.ofInt_add, ← Int32.ofInt_sub, ← Int32.ofInt_mul, ← Int32.ofInt_neg, ← Int64.ofInt_add, ← Int64.ofInt_sub, ← Int64.ofInt_mul, ← Int64.ofInt_neg, pL_I, q_mx, q_mn, q_ab, q_abL, q_mnL, q_nn0, q_nn1, q_rr, q_b1, q_b0, q_T, q_F, q_iT, q_iF, q_d, q_in, q_wi, q_hC, q_hM, pT_i, pU_i, pS_i, pS_j, pS_0, Sum.elim_inl, Sum.elim_inr, if_pos, if_neg]
        rw [← hγ, a2]
        have A2 := A.2
        simp (disch := omega) only [Option.bind_some, qi, ql, qI_lt, qI_le, qI_eq, qI_L, qI_ix, qL_lt, qL_eq, q_nat, q_cs, ← Int32.ofInt_add, ← Int32.ofInt_sub, ← Int32.ofInt_mul, ← Int32.ofInt_neg, ← Int64.ofInt_add, ← Int64.ofInt_sub, ← Int64.ofInt_mul, ← Int64.ofInt_neg, pL_I, q_mx, q_mn, q_ab, q_abL, q_mnL, q_nn0, q_nn1, q_rr, q_b1, q_b0, q_T, q_F, q_iT, q_iF, q_d, q_in, q_wi, q_hC, q_hM, pT_i, pU_i, pS_i, pS_j, pS_0, Sum.elim_inl, Sum.elim_inr, if_pos, if_neg]
        rw [show f_X12_spelled (Int32.ofInt 108) (Int32.ofInt 101) (Int32.ofInt 115) (Int32.ofInt 115) (Int32.ofInt 0) ρ2 = some (Int64.ofInt (ev 32 (wl 21))) from sp_21]
        simp (disch := omega) only [A2, Option.bind_some, qi, ql, qI_lt, qI_le, qI_eq, qI_L, qI_ix, qL_lt, qL_eq, q_nat, q_cs, ← Int32.ofInt_add, ← Int32.ofInt_sub, ← Int32.ofInt_mul, ← Int32.ofInt_neg, ← Int64.ofInt_add, ← Int64.ofInt_sub, ← Int64.ofInt_mul, ← Int64.ofInt_neg, pL_I, q_mx, q_mn, q_ab, q_abL, q_mnL, q_nn0, q_nn1, q_rr, q_b1, q_b0, q_T, q_F, q_iT, q_iF, q_d, q_in, q_wi, q_hC, q_hM, pT_i, pU_i, pS_i, pS_j, pS_0, Sum.elim_inl, Sum.elim_inr, if_pos, if_neg]
  obtain ⟨φ1, φ2, s3, p3, e3, n1, n2, n3, n4, n5, n6, n7⟩ := nxt
  rw [n6, n7]
  have Z1 : qz (zR r R dp) σ1 φ1 := (Zβ.tr ((a5.mo (by decide)).z (l := tlC) (fun _ _ _ => zR_t))).tr (n4.z (fun _ _ _ => zR_t))
  have Y1 : qz (zS s) σ2 φ2 := (Zγ.tr ((a6.mo (by decide)).z (l := tlM) (fun _ _ _ => zS_t))).tr (n5.z (fun _ _ _ => zS_t))
  have Q1 : qf glC σ1 φ1 := ((Qβ.mo (by decide)).tr (a5.mo (by decide))).tr (n4.mo (by decide))
  have Q2 : qf glM σ2 φ2 := ((Qγ.mo (by decide)).tr (a6.mo (by decide))).tr (n5.mo (by decide))
  have f4 : φ1.1 4 r 4 = Int32.ofInt (R : Int) := ((Q1 4 r 4 rfl).1).trans c4
  have f1 : φ1.1 501 r R = Int32.ofInt (t + 1) := by
    rw [(n4 501 r R rfl).1, (a5 501 r R rfl).1, hβ, am_wI_r, if_pos ⟨rfl, rfl, rfl⟩]
  have f2 : φ2.1 1373 0 s = Int32.ofInt t := by
    rw [(n5 1373 0 s rfl).1, (a6 1373 0 s rfl).1, hγ, am_wI_r, if_pos ⟨rfl, rfl, rfl⟩]
  rcases gn_num (dp := dp) n1 n2 (lo := 0) (hi := 9999) (by omega) (by omega) f4 hR with ⟨v, τ1, τ2, s', p', e', vb, m1, m2, m3, m4, m5, m6, m7, m8, m9, m10⟩ | ⟨q, qb, m1, m2⟩
  · left
    have t4 : τ1.1 4 r 4 = Int32.ofInt (R : Int) := ((m8 4 r 4 rfl).1).trans f4
    obtain ⟨x, hx, hxx⟩ : ∃ x : Int, x = (if ls = true then -v else v) ∧ (-9999 ≤ x ∧ x ≤ 9999) := ⟨_, rfl, by split <;> omega⟩
    have QC : qf [(502, 999)] τ1 (am_wI τ1 502 r R (Int32.ofInt x)) := qf.rf.wI rfl
    have QM : qf [(1374, 999)] τ2 (am_wI τ2 1374 0 s (Int32.ofInt x)) := qf.rf.wI rfl
    refine ⟨x, am_wI τ1 502 r R (Int32.ofInt x), am_wI τ2 1374 0 s (Int32.ofInt x), s', p', e', hxx, ?_, ?_, m3.q QC (by decide +kernel) QM (by decide +kernel), m4, by omega, m7.trans f1, by rw [am_wI_r, if_pos ⟨rfl, rfl, rfl⟩], ((m10 1373 0 s rfl).1).trans f2, by rw [am_wI_r, if_pos ⟨rfl, rfl, rfl⟩], (Q1.tr m8).tr (QC.mo (by decide)), (Z1.tr m9).wI (zR_r (Nat.le_refl R)).2.2.1, (Q2.tr (m10.mo (by decide))).tr (QM.mo (by decide)), (Y1.tr (m10.z (fun _ _ _ => zS_t))).wI (zS_r (Nat.le_refl s)).2.2.1⟩
    · cases ls with
      | true =>
        rw [if_pos rfl] at hx
        rw [hx]
        simp (disch := omega) only [f_X4_readsLevel_63, f_X4_readsLevel_111, m1, t4, m6, Option.bind_some, qi, ql, qI_lt, qI_le, qI_eq, qI_L, qI_ix, qL_lt, qL_eq, q_nat, q_cs, ← Int32.ofInt_add, ← Int32.ofInt_sub, ← Int32.ofInt_mul, ← Int32.ofInt_neg, ← Int64.ofInt_add, ← Int64.ofInt_sub, ← Int64.ofInt_mul, ← Int64.ofInt_neg, pL_I, q_mx, q_mn, q_ab, q_abL, q_mnL, q_nn0, q_nn1, q_rr, q_b1, q_b0, q_T, q_F, q_iT, q_iF, q_d, q_in, q_wi, q_hC, q_hM, pT_i, pU_i, pS_i, pS_j, pS_0, Sum.elim_inl, Sum.elim_inr, if_pos, if_neg]
      | false =>
        rw [if_neg Bool.false_ne_true] at hx
        rw [hx]
        simp (disch := omega) only [f_X4_readsLevel_63, f_X4_readsLevel_111, m1, t4, m6, Option.bind_some, qi, ql, qI_lt, qI_le, qI_eq, qI_L, qI_ix, qL_lt, qL_eq, q_nat, q_cs, ← Int32.ofInt_add, ← Int32.ofInt_sub, ← Int32.ofInt_mul, ← Int32.ofInt_neg, ← Int64.ofInt_add, ← Int64.ofInt_sub, ← Int64.ofInt_mul, ← Int64.ofInt_neg, pL_I, q_mx, q_mn, q_ab, q_abL, q_mnL, q_nn0, q_nn1, q_rr, q_b1, q_b0, q_T, q_F, q_iT, q_iF, q_d, q_in, q_wi, q_hC, q_hM, pT_i, pU_i, pS_i, pS_j, pS_0, Sum.elim_inl, Sum.elim_inr, if_pos, if_neg]
    · cases ls with
      | true =>
        rw [if_pos rfl] at hx
        rw [hx]
        simp (disch := omega) only [f_X12_readWhat_81, f_X12_readWhat_109, m2, Option.bind_some, qi, ql, qI_lt, qI_le, qI_eq, qI_L, qI_ix, qL_lt, qL_eq, q_nat, q_cs, ← Int32.ofInt_add, ← Int32.ofInt_sub, ← Int32.ofInt_mul, ← Int32.ofInt_neg, ← Int64.ofInt_add, ← Int64.ofInt_sub, ← Int64.ofInt_mul, ← Int64.ofInt_neg, pL_I, q_mx, q_mn, q_ab, q_abL, q_mnL, q_nn0, q_nn1, q_rr, q_b1, q_b0, q_T, q_F, q_iT, q_iF, q_d, q_in, q_wi, q_hC, q_hM, pT_i, pU_i, pS_i, pS_j, pS_0, Sum.elim_inl, Sum.elim_inr, if_pos, if_neg]
      | false =>
        rw [if_neg Bool.false_ne_true] at hx
        rw [hx]
        simp (disch := omega) only [f_X12_readWhat_81, f_X12_readWhat_109, m2, Option.bind_some, qi, ql, qI_lt, qI_le, qI_eq, qI_L, qI_ix, qL_lt, qL_eq, q_nat, q_cs, ← Int32.ofInt_add, ← Int32.ofInt_sub, ← Int32.ofInt_mul, ← Int32.ofInt_neg, ← Int64.ofInt_add, ← Int64.ofInt_sub, ← Int64.ofInt_mul, ← Int64.ofInt_neg, pL_I, q_mx, q_mn, q_ab, q_abL, q_mnL, q_nn0, q_nn1, q_rr, q_b1, q_b0, q_T, q_F, q_iT, q_iF, q_d, q_in, q_wi, q_hC, q_hM, pT_i, pU_i, pS_i, pS_j, pS_0, Sum.elim_inl, Sum.elim_inr, if_pos, if_neg]
  · right
    refine ⟨FC φ1 q p3, am_wI (FM φ2 q p3) 1374 0 s (Int32.ofInt 0), ?_, ?_, ⟨q, p3, FC_f, ⟨qb, rfl, rfl⟩⟩, Z1.tr (FC_q.z (fun _ _ _ => zR_t)), (Y1.tr (FM_q.z (fun _ _ _ => zS_t))).wI (zS_r (Nat.le_refl s)).2.2.1⟩
    · simp (disch := omega) only [f_X4_readsLevel_63, m1, Option.bind_some, qi, ql, qI_lt, qI_le, qI_eq, qI_L, qI_ix, qL_lt, qL_eq, q_nat, q_cs, ← Int32.ofInt_add, ← Int32.ofInt_sub, ← Int32.ofInt_mul, ← Int32.ofInt_neg, ← Int64.ofInt_add, ← Int64.ofInt_sub, ← Int64.ofInt_mul, ← Int64.ofInt_neg, pL_I, q_mx, q_mn, q_ab, q_abL, q_mnL, q_nn0, q_nn1, q_rr, q_b1, q_b0, q_T, q_F, q_iT, q_iF, q_d, q_in, q_wi, q_hC, q_hM, pT_i, pU_i, pS_i, pS_j, pS_0, Sum.elim_inl, Sum.elim_inr, if_pos, if_neg]
    · cases ls with
      | true =>
        simp (disch := omega) only [f_X12_readWhat_81, f_X12_readWhat_109, m2, Option.bind_some, qi, ql, qI_lt, qI_le, qI_eq, qI_L, qI_ix, qL_lt, qL_eq, q_nat, q_cs, ← Int32.ofInt_add, ← Int32.ofInt_sub, ← Int32.ofInt_mul, ← Int32.ofInt_neg, ← Int64.ofInt_add, ← Int64.ofInt_sub, ← Int64.ofInt_mul, ← Int64.ofInt_neg, pL_I, q_mx, q_mn, q_ab, q_abL, q_mnL, q_nn0, q_nn1, q_rr, q_b1, q_b0, q_T, q_F, q_iT, q_iF, q_d, q_in, q_wi, q_hC, q_hM, pT_i, pU_i, pS_i, pS_j, pS_0, Sum.elim_inl, Sum.elim_inr, if_pos, if_neg]
        rfl
      | false =>
        simp (disch := omega) only [f_X12_readWhat_81, f_X12_readWhat_109, m2, Option.bind_some, qi, ql, qI_lt, qI_le, qI_eq, qI_L, qI_ix, qL_lt, qL_eq, q_nat, q_cs, ← Int32.ofInt_add, ← Int32.ofInt_sub, ← Int32.ofInt_mul, ← Int32.ofInt_neg, ← Int64.ofInt_add, ← Int64.ofInt_sub, ← Int64.ofInt_mul, ← Int64.ofInt_neg, pL_I, q_mx, q_mn, q_ab, q_abL, q_mnL, q_nn0, q_nn1, q_rr, q_b1, q_b0, q_T, q_F, q_iT, q_iF, q_d, q_in, q_wi, q_hC, q_hM, pT_i, pU_i, pS_i, pS_j, pS_0, Sum.elim_inl, Sum.elim_inr, if_pos, if_neg]
