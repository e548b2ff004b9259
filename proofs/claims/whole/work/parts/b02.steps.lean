/-! ===== OBEYED: one STEP ===== -/
def ob_lC : List (Nat × Nat) := [(9, 2), (9, 3), (9, 6), (9, 7), (9, 8), (9, 9), (1004, 999), (1010, 999)]
/-- how both stand: HOUR, STEPS done, REGISTER, marks, is it over -/
def ob_R (ρ1 ρ2 : am_H) (h n o : Int) : Prop := (ρ1.1 9 0 6 = Int32.ofInt h ∧ ρ2.1 12 0 57 = Int32.ofInt h ∧ 0 ≤ h ∧ h ≤ 99999) ∧ (ρ1.1 9 0 7 = Int32.ofInt n ∧ ρ2.1 12 0 56 = Int32.ofInt n ∧ 0 ≤ n ∧ n ≤ 200) ∧ ρ1.2.1 9 0 8 = ρ2.2.1 12 0 64 ∧ (∃ mk : Int, ρ1.1 9 0 9 = Int32.ofInt mk ∧ ρ2.1 12 0 59 = Int32.ofInt mk ∧ (0 ≤ mk ∧ mk ≤ 30) ∧ ∀ j : Nat, (j : Int) < mk → ρ1.1 1010 0 j = ρ2.1 1376 0 j) ∧ (ρ1.1 9 0 3 = Int32.ofInt o ∧ ρ2.1 12 0 65 = Int32.ofInt o ∧ 0 ≤ o ∧ o ≤ 1)
/-- the machine m (place a) and the program (place p) that are obeyed -/
def ob_E (τ1 τ2 : am_H) (m a p wc R : Nat) (ws : Nat → Nat → Int) (zr : Int) : Prop := (m < 2 ∧ a < 3 ∧ p < 2 ∧ R ≤ 80) ∧ ph_C τ1 a wc ws zr ∧ ph_M τ2 m wc ws (max zr 0) ∧ τ1.2.2 9 0 0 = some p ∧ τ1.2.2 9 0 1 = some a ∧ τ1.1 4 p 4 = Int32.ofInt R
theorem ob_Eq {τ1 τ2 ρ1 ρ2 : am_H} {m a p wc R : Nat} {ws : Nat → Nat → Int} {zr : Int} (E : ob_E τ1 τ2 m a p wc R ws zr) (q1 : qf ob_lC τ1 ρ1) (q2 : qf ob_lM τ2 ρ2) : ob_E ρ1 ρ2 m a p wc R ws zr := by
  obtain ⟨b, C, M, r0, r1, e4⟩ := E
  exact ⟨b, ph_Cq (q1.a (by decide +kernel)) C, ph_Mq (q2.a (by decide +kernel)) M, by rw [(q1 9 0 0 rfl).2.2]; exact r0, by rw [(q1 9 0 1 rfl).2.2]; exact r1, by rw [(q1 4 p 4 rfl).1]; exact e4⟩
set_option maxHeartbeats 4000000 in
/-- a STEP that is no block -/
theorem ob_one {ρ1 ρ2 : am_H} {m a p wc R s r kd : Nat} {ws : Nat → Nat → Int} {zr h n : Int} {rc : Int32 → Int32 → Int32 → am_H → Option am_H} (E : ob_E ρ1 ρ2 m a p wc R ws zr) (hs : s < 40) (hr : r < R) (hk : kd < 4) (P : pg_step (ρ1.1 500 p) (ρ1.1 501 p) (ρ1.1 502 p) (ρ2.1 1368 0) (ρ2.1 1369 0) (ρ2.1 1370 0) s r kd) (X : ob_R ρ1 ρ2 h n 0) (hn : n < 200) (e2 : ρ1.1 9 0 2 = Int32.ofInt r) : ∃ (ρ1' ρ2' : am_H) (h' o' : Int), f_X9_doStep (am_wI ρ1 9 0 7 (Int32.ofInt (n + 1))) = some ρ1' ∧ f_X12_obeyOne rc (Int32.ofInt m) (Int32.ofInt s) ρ2 = some ρ2' ∧ qf ob_lC ρ1 ρ1' ∧ qf ob_lM ρ2 ρ2' ∧ ρ2'.1 12 0 58 = ρ2.1 12 0 58 ∧ ρ1'.1 9 0 2 = Int32.ofInt ((r : Int) + 1) ∧ (∀ x, ρ1'.1 1004 0 x = ρ1.1 1004 0 x) ∧ ob_R ρ1' ρ2' h' (n + 1) o' := by
  obtain ⟨⟨hm, ha, hp, hR⟩, C, M, r0, r1, e4⟩ := E
  obtain ⟨⟨x6, x57, h0, h1⟩, ⟨x7, x56, n0, n1⟩, x8, ⟨mk, x9, x59, ⟨k0, k1⟩, xm⟩, ⟨x3, x65, -, -⟩⟩ := X
  obtain ⟨p1, p2, pgo, -, pun⟩ := P
  have rr0 : am_rr 2 (ρ1.2.2 9 0 0) = some p := by rw [r0]; exact q_rr hp
  have rr1 : am_rr 3 (ρ1.2.2 9 0 1) = some a := by rw [r1]; exact q_rr ha
  have a0 : am_rr 2 ((am_wI ρ1 9 0 7 (Int32.ofInt (n + 1))).2.2 9 0 0) = some p := rr0
  have a1 : am_rr 3 ((am_wI ρ1 9 0 7 (Int32.ofInt (n + 1))).2.2 9 0 1) = some a := rr1
  have a2 : (am_wI ρ1 9 0 7 (Int32.ofInt (n + 1))).1 9 0 2 = Int32.ofInt r := e2
  have a6 : (am_wI ρ1 9 0 7 (Int32.ofInt (n + 1))).1 9 0 6 = Int32.ofInt h := x6
  have a9 : (am_wI ρ1 9 0 7 (Int32.ofInt (n + 1))).1 9 0 9 = Int32.ofInt mk := x9
  have d5 : (am_wI ρ1 9 0 7 (Int32.ofInt (n + 1))).1 500 p r = Int32.ofInt kd := p1
  have b57 : (am_wI ρ2 12 0 56 (Int32.ofInt (n + 1))).1 12 0 57 = Int32.ofInt h := x57
  have b59 : (am_wI ρ2 12 0 56 (Int32.ofInt (n + 1))).1 12 0 59 = Int32.ofInt mk := x59
  have c68 : (am_wI ρ2 12 0 56 (Int32.ofInt (n + 1))).1 1368 0 s = Int32.ofInt kd := p2
  have M' : ph_M (am_wI ρ2 12 0 56 (Int32.ofInt (n + 1))) m wc ws (max zr 0) := ph_Mq ((qf.rf (l := ob_lM)).wI rfl |>.a (by decide +kernel)) M
  have C' : ph_C (am_wI ρ1 9 0 7 (Int32.ofInt (n + 1))) a wc ws zr := ph_Cq ((qf.rf (l := ob_lC)).wI rfl |>.a (by decide +kernel)) C
  have R0 : ∀ v : Int32, (am_wI ρ2 12 0 56 v).2.1 12 0 64 = ρ2.2.1 12 0 64 := fun v => rfl
  rcases (by omega : kd = 0 ∨ kd = 1 ∨ kd = 2 ∨ kd = 3) with rfl | rfl | rfl | rfl
  · -- go
    obtain ⟨g, gb, u1, u2⟩ := pgo rfl
    have d2 : (am_wI ρ1 9 0 7 (Int32.ofInt (n + 1))).1 502 p r = Int32.ofInt g := u1
    have c69 : (am_wI ρ2 12 0 56 (Int32.ofInt (n + 1))).1 1369 0 s = Int32.ofInt g := u2
    have c69' : ∀ v : Int32, (am_wI (am_wI ρ2 12 0 56 (Int32.ofInt (n + 1))) 12 0 65 v).1 1369 0 s = Int32.ofInt g := fun v => u2
    have b57' : ∀ v : Int32, (am_wI (am_wI ρ2 12 0 56 (Int32.ofInt (n + 1))) 12 0 65 v).1 12 0 57 = Int32.ofInt h := fun v => x57
    have r31 : ∀ v : Int32, (am_wI (am_wI ρ1 9 0 7 (Int32.ofInt (n + 1))) 9 0 3 v).1 9 0 3 = v := fun v => rfl
    have d5' : (am_wI ρ1 9 0 7 (Int32.ofInt (n + 1))).1 500 p r = Int32.ofInt 0 := d5
    have c68' : (am_wI ρ2 12 0 56 (Int32.ofInt (n + 1))).1 1368 0 s = Int32.ofInt 0 := c68
    by_cases c : 99999 < h + g
    · have em : min 99999 (h + g) = 99999 := by omega
      refine ⟨am_wI (am_wI (am_wI (am_wI ρ1 9 0 7 (Int32.ofInt (n + 1))) 9 0 3 (Int32.ofInt 1)) 9 0 6 (Int32.ofInt 99999)) 9 0 2 (Int32.ofInt ((r : Int) + 1)), am_wI (am_wI (am_wI ρ2 12 0 56 (Int32.ofInt (n + 1))) 12 0 65 (Int32.ofInt 1)) 12 0 57 (Int32.ofInt 99999), 99999, 1, ?_, ?_, (((qf.rf.wI rfl).wI rfl).wI rfl).wI rfl, ((qf.rf.wI rfl).wI rfl).wI rfl, rfl, rfl, fun x => rfl, ⟨rfl, rfl, by omega, by omega⟩, ⟨rfl, rfl, by omega, by omega⟩, x8, ⟨mk, x9, x59, ⟨k0, k1⟩, xm⟩, ⟨rfl, rfl, by omega, by omega⟩⟩
      · simp (disch := omega) only [f_X9_doStep, f_X9_doStep_196, f_X9_goTo, f_X9_goTo_12, f_X9_goTo_29, a0, a2, a6, d5', d2, r31, Option.bind_some, qi, ql, qI_lt, qI_le, qI_eq, qI_L, qI_ix, qL_lt, qL_eq, q_nat, q_cs, ← Int32.ofInt_add, ← Int32.ofInt_sub, ← Int32.ofInt_mul, ← Int32.ofInt_neg, ← Int64.ofInt_add, ← Int64.ofInt_sub, ← Int64.ofInt_mul, ← Int64.ofInt_neg, pL_I, q_mx, q_mn, q_ab, q_abL, q_mnL, q_nn0, q_nn1, q_rr, q_b1, q_b0, q_T, q_F, q_iT, q_iF, q_d, q_in, q_wi, q_hC, q_hM, pT_i, pU_i, pS_i, pS_j, pS_0, Sum.elim_inl, Sum.elim_inr, if_pos, if_neg]
      · simp (disch := omega) only [f_X12_obeyOne, f_X12_obeyOne_65, x65, x56, c68', c69, c69', b57, b57', em, Option.bind_some, qi, ql, qI_lt, qI_le, qI_eq, qI_L, qI_ix, qL_lt, qL_eq, q_nat, q_cs, ← Int32.ofInt_add, ← Int32.ofInt_sub, ← Int32.ofInt_mul, ← Int32.ofInt_neg, ← Int64.ofInt_add, ← Int64.ofInt_sub, ← Int64.ofInt_mul, ← Int64.ofInt_neg, pL_I, q_mx, q_mn, q_ab, q_abL, q_mnL, q_nn0, q_nn1, q_rr, q_b1, q_b0, q_T, q_F, q_iT, q_iF, q_d, q_in, q_wi, q_hC, q_hM, pT_i, pU_i, pS_i, pS_j, pS_0, Sum.elim_inl, Sum.elim_inr, if_pos, if_neg]
    · have em : min 99999 (h + g) = h + g := by omega
      refine ⟨am_wI (am_wI (am_wI (am_wI ρ1 9 0 7 (Int32.ofInt (n + 1))) 9 0 3 (Int32.ofInt 0)) 9 0 6 (Int32.ofInt (h + g))) 9 0 2 (Int32.ofInt ((r : Int) + 1)), am_wI (am_wI (am_wI ρ2 12 0 56 (Int32.ofInt (n + 1))) 12 0 65 (Int32.ofInt 0)) 12 0 57 (Int32.ofInt (h + g)), h + g, 0, ?_, ?_, (((qf.rf.wI rfl).wI rfl).wI rfl).wI rfl, ((qf.rf.wI rfl).wI rfl).wI rfl, rfl, rfl, fun x => rfl, ⟨rfl, rfl, by omega, by omega⟩, ⟨rfl, rfl, by omega, by omega⟩, x8, ⟨mk, x9, x59, ⟨k0, k1⟩, xm⟩, ⟨rfl, rfl, by omega, by omega⟩⟩
      · simp (disch := omega) only [f_X9_doStep, f_X9_doStep_196, f_X9_goTo, f_X9_goTo_12, f_X9_goTo_29, a0, a2, a6, d5', d2, r31, Option.bind_some, qi, ql, qI_lt, qI_le, qI_eq, qI_L, qI_ix, qL_lt, qL_eq, q_nat, q_cs, ← Int32.ofInt_add, ← Int32.ofInt_sub, ← Int32.ofInt_mul, ← Int32.ofInt_neg, ← Int64.ofInt_add, ← Int64.ofInt_sub, ← Int64.ofInt_mul, ← Int64.ofInt_neg, pL_I, q_mx, q_mn, q_ab, q_abL, q_mnL, q_nn0, q_nn1, q_rr, q_b1, q_b0, q_T, q_F, q_iT, q_iF, q_d, q_in, q_wi, q_hC, q_hM, pT_i, pU_i, pS_i, pS_j, pS_0, Sum.elim_inl, Sum.elim_inr, if_pos, if_neg]
      · simp (disch := omega) only [f_X12_obeyOne, f_X12_obeyOne_65, x65, x56, c68', c69, c69', b57, b57', em, Option.bind_some, qi, ql, qI_lt, qI_le, qI_eq, qI_L, qI_ix, qL_lt, qL_eq, q_nat, q_cs, ← Int32.ofInt_add, ← Int32.ofInt_sub, ← Int32.ofInt_mul, ← Int32.ofInt_neg, ← Int64.ofInt_add, ← Int64.ofInt_sub, ← Int64.ofInt_mul, ← Int64.ofInt_neg, pL_I, q_mx, q_mn, q_ab, q_abL, q_mnL, q_nn0, q_nn1, q_rr, q_b1, q_b0, q_T, q_F, q_iT, q_iF, q_d, q_in, q_wi, q_hC, q_hM, pT_i, pU_i, pS_i, pS_j, pS_0, Sum.elim_inl, Sum.elim_inr, if_pos, if_neg]
  · -- until
    obtain ⟨t, lv, tb, -, lb, u1, u2, u3, u4⟩ := pun (Or.inl rfl)
    have d5' : (am_wI ρ1 9 0 7 (Int32.ofInt (n + 1))).1 500 p r = Int32.ofInt 1 := d5
    have c68' : (am_wI ρ2 12 0 56 (Int32.ofInt (n + 1))).1 1368 0 s = Int32.ofInt 1 := c68
    have d1 : (am_wI ρ1 9 0 7 (Int32.ofInt (n + 1))).1 501 p r = Int32.ofInt (t + 1) := u1
    have d2 : (am_wI ρ1 9 0 7 (Int32.ofInt (n + 1))).1 502 p r = Int32.ofInt lv := u2
    obtain ⟨q, N1, f1⟩ := ob_clsU (σ1 := am_wI ρ1 9 0 7 (Int32.ofInt (n + 1))) (by omega : m < 3) ha C' M' tb lb r1 x6 h0 h1
    obtain ⟨q', N2, f2⟩ := ob_refU (σ2 := am_wI ρ2 12 0 56 (Int32.ofInt (n + 1))) (s := s) (by omega : m < 3) C' M' hs tb lb u3 u4 x57 h0 h1
    have eq := ob_N1 h0 N1 N2
    subst eq
    by_cases c : q = -1
    · rw [if_pos c] at f1 f2
      refine ⟨am_wI (am_wI (am_wI (am_wI ρ1 9 0 7 (Int32.ofInt (n + 1))) 9 0 3 (Int32.ofInt 1)) 9 0 6 (Int32.ofInt 99999)) 9 0 2 (Int32.ofInt ((r : Int) + 1)), am_wI (am_wI (am_wI ρ2 12 0 56 (Int32.ofInt (n + 1))) 12 0 57 (Int32.ofInt 99999)) 12 0 65 (Int32.ofInt 1), 99999, 1, ?_, ?_, (((qf.rf.wI rfl).wI rfl).wI rfl).wI rfl, ((qf.rf.wI rfl).wI rfl).wI rfl, rfl, rfl, fun x => rfl, ⟨rfl, rfl, by omega, by omega⟩, ⟨rfl, rfl, by omega, by omega⟩, x8, ⟨mk, x9, x59, ⟨k0, k1⟩, xm⟩, ⟨rfl, rfl, by omega, by omega⟩⟩
      · simp (disch := omega) only [f_X9_doStep, f_X9_doStep_196, a0, a2, d5', d1, d2, f1, Option.bind_some, qi, ql, qI_lt, qI_le, qI_eq, qI_L, qI_ix, qL_lt, qL_eq, q_nat, q_cs, ← Int32.ofInt_add, ← Int32.ofInt_sub, ← Int32.ofInt_mul, ← Int32.ofInt_neg, ← Int64.ofInt_add, ← Int64.ofInt_sub, ← Int64.ofInt_mul, ← Int64.ofInt_neg, pL_I, q_mx, q_mn, q_ab, q_abL, q_mnL, q_nn0, q_nn1, q_rr, q_b1, q_b0, q_T, q_F, q_iT, q_iF, q_d, q_in, q_wi, q_hC, q_hM, pT_i, pU_i, pS_i, pS_j, pS_0, Sum.elim_inl, Sum.elim_inr, if_pos, if_neg]
      · simp (disch := omega) only [f_X12_obeyOne, x65, x56, c68', f2, Option.bind_some, qi, ql, qI_lt, qI_le, qI_eq, qI_L, qI_ix, qL_lt, qL_eq, q_nat, q_cs, ← Int32.ofInt_add, ← Int32.ofInt_sub, ← Int32.ofInt_mul, ← Int32.ofInt_neg, ← Int64.ofInt_add, ← Int64.ofInt_sub, ← Int64.ofInt_mul, ← Int64.ofInt_neg, pL_I, q_mx, q_mn, q_ab, q_abL, q_mnL, q_nn0, q_nn1, q_rr, q_b1, q_b0, q_T, q_F, q_iT, q_iF, q_d, q_in, q_wi, q_hC, q_hM, pT_i, pU_i, pS_i, pS_j, pS_0, Sum.elim_inl, Sum.elim_inr, if_pos, if_neg]
    · rw [if_neg c] at f1 f2
      have qb : h < q ∧ q ≤ 99999 := by
        rcases N1 with ⟨e, -⟩ | ⟨b, -⟩
        · exact absurd e c
        · exact b
      refine ⟨am_wI (am_wI (am_wI (am_wI ρ1 9 0 7 (Int32.ofInt (n + 1))) 9 0 3 (Int32.ofInt 0)) 9 0 6 (Int32.ofInt q)) 9 0 2 (Int32.ofInt ((r : Int) + 1)), am_wI (am_wI ρ2 12 0 56 (Int32.ofInt (n + 1))) 12 0 57 (Int32.ofInt q), q, 0, ?_, ?_, (((qf.rf.wI rfl).wI rfl).wI rfl).wI rfl, (qf.rf.wI rfl).wI rfl, rfl, rfl, fun x => rfl, ⟨rfl, rfl, by omega, by omega⟩, ⟨rfl, rfl, by omega, by omega⟩, x8, ⟨mk, x9, x59, ⟨k0, k1⟩, xm⟩, ⟨rfl, x65, by omega, by omega⟩⟩
      · simp (disch := omega) only [f_X9_doStep, f_X9_doStep_196, a0, a2, d5', d1, d2, f1, Option.bind_some, qi, ql, qI_lt, qI_le, qI_eq, qI_L, qI_ix, qL_lt, qL_eq, q_nat, q_cs, ← Int32.ofInt_add, ← Int32.ofInt_sub, ← Int32.ofInt_mul, ← Int32.ofInt_neg, ← Int64.ofInt_add, ← Int64.ofInt_sub, ← Int64.ofInt_mul, ← Int64.ofInt_neg, pL_I, q_mx, q_mn, q_ab, q_abL, q_mnL, q_nn0, q_nn1, q_rr, q_b1, q_b0, q_T, q_F, q_iT, q_iF, q_d, q_in, q_wi, q_hC, q_hM, pT_i, pU_i, pS_i, pS_j, pS_0, Sum.elim_inl, Sum.elim_inr, if_pos, if_neg]
      · simp (disch := omega) only [f_X12_obeyOne, x65, x56, c68', f2, Option.bind_some, qi, ql, qI_lt, qI_le, qI_eq, qI_L, qI_ix, qL_lt, qL_eq, q_nat, q_cs, ← Int32.ofInt_add, ← Int32.ofInt_sub, ← Int32.ofInt_mul, ← Int32.ofInt_neg, ← Int64.ofInt_add, ← Int64.ofInt_sub, ← Int64.ofInt_mul, ← Int64.ofInt_neg, pL_I, q_mx, q_mn, q_ab, q_abL, q_mnL, q_nn0, q_nn1, q_rr, q_b1, q_b0, q_T, q_F, q_iT, q_iF, q_d, q_in, q_wi, q_hC, q_hM, pT_i, pU_i, pS_i, pS_j, pS_0, Sum.elim_inl, Sum.elim_inr, if_pos, if_neg]
  · -- mark
    have d5' : (am_wI ρ1 9 0 7 (Int32.ofInt (n + 1))).1 500 p r = Int32.ofInt 2 := d5
    have c68' : (am_wI ρ2 12 0 56 (Int32.ofInt (n + 1))).1 1368 0 s = Int32.ofInt 2 := c68
    by_cases c : mk < 30
    · have r9 : ∀ (j : Nat) (v : Int32), (am_wI (am_wI ρ1 9 0 7 (Int32.ofInt (n + 1))) 1010 0 j v).1 9 0 9 = Int32.ofInt mk := fun j v => x9
      have r59 : ∀ (j : Nat) (v : Int32), (am_wI (am_wI ρ2 12 0 56 (Int32.ofInt (n + 1))) 1376 0 j v).1 12 0 59 = Int32.ofInt mk := fun j v => x59
      have r2 : ∀ (j : Nat) (v u : Int32), (am_wI (am_wI (am_wI ρ1 9 0 7 (Int32.ofInt (n + 1))) 1010 0 j v) 9 0 9 u).1 9 0 2 = Int32.ofInt r := fun j v u => e2
      refine ⟨am_wI (am_wI (am_wI (am_wI ρ1 9 0 7 (Int32.ofInt (n + 1))) 1010 0 mk.toNat (Int32.ofInt h)) 9 0 9 (Int32.ofInt (mk + 1))) 9 0 2 (Int32.ofInt ((r : Int) + 1)), am_wI (am_wI (am_wI ρ2 12 0 56 (Int32.ofInt (n + 1))) 1376 0 mk.toNat (Int32.ofInt h)) 12 0 59 (Int32.ofInt (mk + 1)), h, 0, ?_, ?_, (((qf.rf.wI rfl).wI rfl).wI rfl).wI rfl, ((qf.rf.wI rfl).wI rfl).wI rfl, rfl, rfl, fun x => rfl, ⟨x6, x57, by omega, by omega⟩, ⟨rfl, rfl, by omega, by omega⟩, x8, ⟨mk + 1, rfl, rfl, by omega, fun j hj => ?_⟩, ⟨x3, x65, by omega, by omega⟩⟩
      · simp (disch := omega) only [f_X9_doStep, f_X9_doStep_196, f_X9_markHour, a0, a2, a6, a9, d5', r9, r2, Option.bind_some, qi, ql, qI_lt, qI_le, qI_eq, qI_L, qI_ix, qL_lt, qL_eq, q_nat, q_cs, ← Int32.ofInt_add, ← Int32.ofInt_sub, ← Int32.ofInt_mul, ← Int32.ofInt_neg, ← Int64.ofInt_add, ← Int64.ofInt_sub, ← Int64.ofInt_mul, ← Int64.ofInt_neg, pL_I, q_mx, q_mn, q_ab, q_abL, q_mnL, q_nn0, q_nn1, q_rr, q_b1, q_b0, q_T, q_F, q_iT, q_iF, q_d, q_in, q_wi, q_hC, q_hM, pT_i, pU_i, pS_i, pS_j, pS_0, Sum.elim_inl, Sum.elim_inr, if_pos, if_neg]
      · simp (disch := omega) only [f_X12_obeyOne, x65, x56, c68', b57, b59, r59, Option.bind_some, qi, ql, qI_lt, qI_le, qI_eq, qI_L, qI_ix, qL_lt, qL_eq, q_nat, q_cs, ← Int32.ofInt_add, ← Int32.ofInt_sub, ← Int32.ofInt_mul, ← Int32.ofInt_neg, ← Int64.ofInt_add, ← Int64.ofInt_sub, ← Int64.ofInt_mul, ← Int64.ofInt_neg, pL_I, q_mx, q_mn, q_ab, q_abL, q_mnL, q_nn0, q_nn1, q_rr, q_b1, q_b0, q_T, q_F, q_iT, q_iF, q_d, q_in, q_wi, q_hC, q_hM, pT_i, pU_i, pS_i, pS_j, pS_0, Sum.elim_inl, Sum.elim_inr, if_pos, if_neg]
      · show (if 1010 = 1010 ∧ 0 = 0 ∧ j = mk.toNat then Int32.ofInt h else ρ1.1 1010 0 j) = (if 1376 = 1376 ∧ 0 = 0 ∧ j = mk.toNat then Int32.ofInt h else ρ2.1 1376 0 j)
        by_cases cj : j = mk.toNat
        · rw [if_pos ⟨rfl, rfl, cj⟩, if_pos ⟨rfl, rfl, cj⟩]
        · rw [if_neg (fun z => cj z.2.2), if_neg (fun z => cj z.2.2)]
          exact xm j (by omega)
    · refine ⟨am_wI (am_wI ρ1 9 0 7 (Int32.ofInt (n + 1))) 9 0 2 (Int32.ofInt ((r : Int) + 1)), am_wI ρ2 12 0 56 (Int32.ofInt (n + 1)), h, 0, ?_, ?_, (qf.rf.wI rfl).wI rfl, qf.rf.wI rfl, rfl, rfl, fun x => rfl, ⟨x6, x57, by omega, by omega⟩, ⟨rfl, rfl, by omega, by omega⟩, x8, ⟨mk, x9, x59, ⟨k0, k1⟩, xm⟩, ⟨x3, x65, by omega, by omega⟩⟩
      · simp (disch := omega) only [f_X9_doStep, f_X9_doStep_196, f_X9_markHour, a0, a2, a6, a9, d5', Option.bind_some, qi, ql, qI_lt, qI_le, qI_eq, qI_L, qI_ix, qL_lt, qL_eq, q_nat, q_cs, ← Int32.ofInt_add, ← Int32.ofInt_sub, ← Int32.ofInt_mul, ← Int32.ofInt_neg, ← Int64.ofInt_add, ← Int64.ofInt_sub, ← Int64.ofInt_mul, ← Int64.ofInt_neg, pL_I, q_mx, q_mn, q_ab, q_abL, q_mnL, q_nn0, q_nn1, q_rr, q_b1, q_b0, q_T, q_F, q_iT, q_iF, q_d, q_in, q_wi, q_hC, q_hM, pT_i, pU_i, pS_i, pS_j, pS_0, Sum.elim_inl, Sum.elim_inr, if_pos, if_neg]
      · simp (disch := omega) only [f_X12_obeyOne, x65, x56, c68', b57, b59, Option.bind_some, qi, ql, qI_lt, qI_le, qI_eq, qI_L, qI_ix, qL_lt, qL_eq, q_nat, q_cs, ← Int32.ofInt_add, ← Int32.ofInt_sub, ← Int32.ofInt_mul, ← Int32.ofInt_neg, ← Int64.ofInt_add, ← Int64.ofInt_sub, ← Int64.ofInt_mul, ← Int64.ofInt_neg, pL_I, q_mx, q_mn, q_ab, q_abL, q_mnL, q_nn0, q_nn1, q_rr, q_b1, q_b0, q_T, q_F, q_iT, q_iF, q_d, q_in, q_wi, q_hC, q_hM, pT_i, pU_i, pS_i, pS_j, pS_0, Sum.elim_inl, Sum.elim_inr, if_pos, if_neg]
  · -- read
    have d5' : (am_wI ρ1 9 0 7 (Int32.ofInt (n + 1))).1 500 p r = Int32.ofInt 3 := d5
    have c68' : (am_wI ρ2 12 0 56 (Int32.ofInt (n + 1))).1 1368 0 s = Int32.ofInt 3 := c68
    have f1 := ph_heightAt (b := true) C' h0 (by omega : h ≤ 200000)
    have f2 := ph_heightOf (b := true) M' (by omega : m < 3) h0 (by omega : h ≤ 200000)
    have hb : -9000 ≤ ph_sum ws (max zr 0) h true wc ∧ ph_sum ws (max zr 0) h true wc ≤ 9000 := ((pr_HHx (by omega : m < 3) C M).1 true h h0 (by omega)).2.2
    have r8 : (am_wI ρ1 9 0 7 (Int32.ofInt (n + 1))).2.1 9 0 8 = ρ2.2.1 12 0 64 := x8
    refine ⟨am_wI (am_wL (am_wI ρ1 9 0 7 (Int32.ofInt (n + 1))) 9 0 8 (ρ2.2.1 12 0 64 + Int64.ofInt (ph_sum ws (max zr 0) h true wc))) 9 0 2 (Int32.ofInt ((r : Int) + 1)), am_wL (am_wI ρ2 12 0 56 (Int32.ofInt (n + 1))) 12 0 64 (ρ2.2.1 12 0 64 + Int64.ofInt (ph_sum ws (max zr 0) h true wc)), h, 0, ?_, ?_, ((qf.rf.wI rfl).wL rfl).wI rfl, (qf.rf.wI rfl).wL rfl, rfl, rfl, fun x => rfl, ⟨x6, x57, by omega, by omega⟩, ⟨rfl, rfl, by omega, by omega⟩, rfl, ⟨mk, x9, x59, ⟨k0, k1⟩, xm⟩, ⟨x3, x65, by omega, by omega⟩⟩
    · simp (disch := omega) only [f_X9_doStep, f_X9_doStep_196, a0, a1, a2, a6, d5', f1, r8, Option.bind_some, qi, ql, qI_lt, qI_le, qI_eq, qI_L, qI_ix, qL_lt, qL_eq, q_nat, q_cs, ← Int32.ofInt_add, ← Int32.ofInt_sub, ← Int32.ofInt_mul, ← Int32.ofInt_neg, ← Int64.ofInt_add, ← Int64.ofInt_sub, ← Int64.ofInt_mul, ← Int64.ofInt_neg, pL_I, q_mx, q_mn, q_ab, q_abL, q_mnL, q_nn0, q_nn1, q_rr, q_b1, q_b0, q_T, q_F, q_iT, q_iF, q_d, q_in, q_wi, q_hC, q_hM, pT_i, pU_i, pS_i, pS_j, pS_0, Sum.elim_inl, Sum.elim_inr, if_pos, if_neg]
    · simp (disch := omega) only [f_X12_obeyOne, x65, x56, c68', b57, f2, R0, Option.bind_some, qi, ql, qI_lt, qI_le, qI_eq, qI_L, qI_ix, qL_lt, qL_eq, q_nat, q_cs, ← Int32.ofInt_add, ← Int32.ofInt_sub, ← Int32.ofInt_mul, ← Int32.ofInt_neg, ← Int64.ofInt_add, ← Int64.ofInt_sub, ← Int64.ofInt_mul, ← Int64.ofInt_neg, pL_I, q_mx, q_mn, q_ab, q_abL, q_mnL, q_nn0, q_nn1, q_rr, q_b1, q_b0, q_T, q_F, q_iT, q_iF, q_d, q_in, q_wi, q_hC, q_hM, pT_i, pU_i, pS_i, pS_j, pS_0, Sum.elim_inl, Sum.elim_inr, if_pos, if_neg]
