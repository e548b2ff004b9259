/-! ===== TOKENS: numbers once more, names, settings ===== -/
theorem tk_num2 {σ1 σ2 : am_H} {n : Nat} {b : Nat → Int} {s p e : Nat} (h : tk σ1 σ2 n b s p e) (g : gd σ2) {lo hi : Int} (l0 : 0 ≤ lo ∧ lo ≤ 9999) (h0 : 0 ≤ hi ∧ hi ≤ 9999) : (∃ v : Int, s = 2 ∧ (lo ≤ v ∧ v ≤ hi) ∧ σ1.1 5 0 6 = Int32.ofInt v ∧ f_X5_standsNumber (Int32.ofInt lo) (Int32.ofInt hi) σ1 = some (true, σ1) ∧ f_X12_seen (Int32.ofInt lo) (Int32.ofInt hi) σ2 = some (Int32.ofInt v, σ2) ∧ ∀ σ1' : am_H, tk σ1' σ2 n b s p e → ∃ (τ1 τ2 : am_H) (s' p' e' : Nat), f_X5_advance σ1' = some τ1 ∧ f_X12_count (Int32.ofInt lo) (Int32.ofInt hi) σ2 = some (Int32.ofInt v, τ2) ∧ f_X12_next σ2 = some τ2 ∧ tk τ1 τ2 n b s' p' e' ∧ gd τ2 ∧ p < p' ∧ qf tlC σ1' τ1 ∧ qf tlM σ2 τ2) ∨ (∃ k : Int, (1 ≤ k ∧ k ≤ 6) ∧ f_X5_standsNumber (Int32.ofInt lo) (Int32.ofInt hi) σ1 = some (false, FC σ1 k p) ∧ f_X12_seen (Int32.ofInt lo) (Int32.ofInt hi) σ2 = some (Int32.ofInt 0, FM σ2 k p) ∧ f_X12_count (Int32.ofInt lo) (Int32.ofInt hi) σ2 = some (Int32.ofInt 0, FM σ2 k p)) := by
  rcases tk_num h g l0 h0 with ⟨v, τ1, τ2, s', p', e', c, cv, k6, a1, a2, a3, a4, a5, a6, a7, a8, a9, a10⟩ | r
  · refine Or.inl ⟨v, c, cv, k6, a1, a2, fun σ1' h' => ?_⟩
    obtain ⟨ρ1, ρ2, t, q, d, b1, b2, b3, b4, b5, b6⟩ := tk_next h' (Or.inr (Or.inl c))
    have e2 : ρ2 = τ2 := Option.some.inj (b2.symm.trans a5)
    rw [e2] at b3
    have pe := (h.2.2.2.2.2.2.1 (Or.inr (Or.inl c))).1
    exact ⟨ρ1, τ2, t, q, d, b1, a3, a5, b3, a7, by omega, b5.mo (by decide), a10⟩
  · exact Or.inr r
theorem tk_ref {σ1 σ2 : am_H} {n : Nat} {b : Nat → Int} {s p e : Nat} (h : tk σ1 σ2 n b s p e) : f_X12_isWave σ2 = some (wq b s p e 0) ∧ f_X12_isTurns σ2 = some (wq b s p e 1) ∧ f_X12_isInWord σ2 = some (wq b s p e 2) ∧ f_X12_isBox σ2 = some (wq b s p e 6) ∧ f_X12_isOf σ2 = some (wq b s p e 7) ∧ f_X12_isSlack σ2 = some (wq b s p e 8) ∧ f_X12_isZero σ2 = some (wq b s p e 9) ∧ f_X12_isEnd σ2 = some (wq b s p e 10) := by
  refine ⟨?_, ?_, ?_, ?_, ?_, ?_, ?_, ?_⟩
  · unfold f_X12_isWave
    rw [sp_0, Option.bind_some, (tk_word h (by omega)).2, Option.bind_some]
  · unfold f_X12_isTurns
    rw [sp_1, Option.bind_some, (tk_word h (by omega)).2, Option.bind_some]
  · unfold f_X12_isInWord
    rw [sp_2, Option.bind_some, (tk_word h (by omega)).2, Option.bind_some]
  · unfold f_X12_isBox
    rw [sp_6, Option.bind_some, (tk_word h (by omega)).2, Option.bind_some]
  · unfold f_X12_isOf
    rw [sp_7, Option.bind_some, (tk_word h (by omega)).2, Option.bind_some]
  · unfold f_X12_isSlack
    rw [sp_8, Option.bind_some, (tk_word h (by omega)).2, Option.bind_some]
  · unfold f_X12_isZero
    rw [sp_9, Option.bind_some, (tk_word h (by omega)).2, Option.bind_some]
  · unfold f_X12_isEnd
    rw [sp_10, Option.bind_some, (tk_word h (by omega)).2, Option.bind_some]
theorem wq_1 {b : Nat → Int} {s p e r : Nat} (h : wq b s p e r = true) : s = 1 := (of_decide_eq_true h).1
theorem tk_set {σ1 σ2 : am_H} {n : Nat} {b : Nat → Int} {s p e : Nat} (h : tk σ1 σ2 n b s p e) : ∃ (c : Nat) (i : Int), (c = 0 ∧ i = -1 ∧ wq b s p e 3 = false ∧ wq b s p e 4 = false ∧ wq b s p e 5 = false ∨ c = 1 ∧ i = 0 ∧ s = 1 ∧ (wq b s p e 3 || (wq b s p e 4 || wq b s p e 5)) = true ∨ c = 2 ∧ i = 1 ∧ s = 1 ∧ (wq b s p e 3 || (wq b s p e 4 || wq b s p e 5)) = true ∨ c = 4 ∧ i = 2 ∧ s = 1 ∧ (wq b s p e 3 || (wq b s p e 4 || wq b s p e 5)) = true) ∧ f_X3_settingOf σ1 = some (Int32.ofInt (c : Int)) ∧ f_X12_setting σ2 = some (Int32.ofInt i) := by
  have A3 := tk_word h (by omega : 3 < 22)
  have A4 := tk_word h (by omega : 4 < 22)
  have A5 := tk_word h (by omega : 5 < 22)
  have o3 := wq_1 (b := b) (s := s) (p := p) (e := e) (r := 3)
  have o4 := wq_1 (b := b) (s := s) (p := p) (e := e) (r := 4)
  have o5 := wq_1 (b := b) (s := s) (p := p) (e := e) (r := 5)
  unfold f_X3_settingOf f_X12_setting
  rw [A3.1, sp_3, Option.bind_some, Option.bind_some, A3.2, Option.bind_some]
  generalize wq b s p e 3 = w3 at o3 ⊢
  cases w3 with
  | true => exact ⟨1, 0, Or.inr (Or.inl ⟨rfl, rfl, o3 rfl, rfl⟩), rfl, rfl⟩
  | false =>
    rw [if_neg Bool.false_ne_true, if_neg Bool.false_ne_true, A4.1, sp_4, Option.bind_some, Option.bind_some, A4.2, Option.bind_some]
    generalize wq b s p e 4 = w4 at o4 ⊢
    cases w4 with
    | true => exact ⟨2, 1, Or.inr (Or.inr (Or.inl ⟨rfl, rfl, o4 rfl, rfl⟩)), rfl, rfl⟩
    | false =>
      rw [if_neg Bool.false_ne_true, if_neg Bool.false_ne_true, A5.1, sp_5, Option.bind_some, Option.bind_some, A5.2, Option.bind_some]
      generalize wq b s p e 5 = w5 at o5 ⊢
      cases w5 with
      | true => exact ⟨4, 2, Or.inr (Or.inr (Or.inr ⟨rfl, rfl, o5 rfl, rfl⟩)), rfl, rfl⟩
      | false => exact ⟨0, -1, Or.inl ⟨rfl, rfl, rfl, rfl, rfl⟩, rfl, rfl⟩
theorem or_st {a x : Bool} {X : Option Bool} (h : X = some x) : (if a = true then some true else X) = some (a || x) := by
  cases a with
  | true => rfl
  | false => rw [if_neg Bool.false_ne_true, h]; rfl
theorem an_st {a x : Bool} {X : Option Bool} (h : X = some x) : (if a = true then some false else X) = some (!a && x) := by
  cases a with
  | true => rfl
  | false => rw [if_neg Bool.false_ne_true, h]; rfl
theorem tk_kept {σ1 σ2 : am_H} {n : Nat} {b : Nat → Int} {s p e : Nat} (h : tk σ1 σ2 n b s p e) : f_X5_isKept σ1 = some (wq b s p e 0 || (wq b s p e 1 || (wq b s p e 2 || (wq b s p e 3 || (wq b s p e 4 || (wq b s p e 5 || (wq b s p e 6 || (wq b s p e 7 || (wq b s p e 8 || (wq b s p e 9 || false)))))))))) := by
  unfold f_X5_isKept
  rw [(tk_word h (by omega : 0 < 22)).1, Option.bind_some]
  refine or_st ?_
  rw [(tk_word h (by omega : 1 < 22)).1, Option.bind_some]
  refine or_st ?_
  rw [(tk_word h (by omega : 2 < 22)).1, Option.bind_some]
  refine or_st ?_
  rw [(tk_word h (by omega : 3 < 22)).1, Option.bind_some]
  refine or_st ?_
  rw [(tk_word h (by omega : 4 < 22)).1, Option.bind_some]
  refine or_st ?_
  rw [(tk_word h (by omega : 5 < 22)).1, Option.bind_some]
  refine or_st ?_
  rw [(tk_word h (by omega : 6 < 22)).1, Option.bind_some]
  refine or_st ?_
  rw [(tk_word h (by omega : 7 < 22)).1, Option.bind_some]
  refine or_st ?_
  rw [(tk_word h (by omega : 8 < 22)).1, Option.bind_some]
  refine or_st ?_
  rw [(tk_word h (by omega : 9 < 22)).1, Option.bind_some]
  refine or_st ?_
  rfl
theorem tk_name {σ1 σ2 : am_H} {n : Nat} {b : Nat → Int} {s p e : Nat} (h : tk σ1 σ2 n b s p e) : ∃ x : Bool, f_X5_isName σ1 = some x ∧ f_X12_isName σ2 = some x ∧ (x = true → s = 1 ∧ e - p ≤ 8) := by
  obtain ⟨C, M, ⟨k3, k4, k5, k6⟩, ⟨m14, m15, m16, m17, m18⟩, h1, s4, h3, h4, h5, -⟩ := id h
  have c1 := C.1
  by_cases c : s = 1
  rotate_left
  · refine ⟨false, ?_, ?_, fun z => by cases z⟩
    · simp (disch := omega) only [f_X5_isName, k3, Option.bind_some, qi, ql, qI_lt, qI_le, qI_eq, qI_L, qI_ix, qL_lt, qL_eq, q_nat, q_cs, ← Int32.ofInt_add, ← Int32.ofInt_sub, ← Int32.ofInt_mul, ← Int32.ofInt_neg, ← Int64.ofInt_add, ← Int64.ofInt_sub, ← Int64.ofInt_mul, ← Int64.ofInt_neg, pL_I, q_mx, q_mn, q_ab, q_abL, q_mnL, q_nn0, q_nn1, q_rr, q_b1, q_b0, q_T, q_F, q_iT, q_iF, q_d, q_in, q_wi, q_hC, q_hM, pT_i, pU_i, pS_i, pS_j, pS_0, Sum.elim_inl, Sum.elim_inr, if_pos, if_neg]
    · simp (disch := omega) only [f_X12_isName, m14, Option.bind_some, qi, ql, qI_lt, qI_le, qI_eq, qI_L, qI_ix, qL_lt, qL_eq, q_nat, q_cs, ← Int32.ofInt_add, ← Int32.ofInt_sub, ← Int32.ofInt_mul, ← Int32.ofInt_neg, ← Int64.ofInt_add, ← Int64.ofInt_sub, ← Int64.ofInt_mul, ← Int64.ofInt_neg, pL_I, q_mx, q_mn, q_ab, q_abL, q_mnL, q_nn0, q_nn1, q_rr, q_b1, q_b0, q_T, q_F, q_iT, q_iF, q_d, q_in, q_wi, q_hC, q_hM, pT_i, pU_i, pS_i, pS_j, pS_0, Sum.elim_inl, Sum.elim_inr, if_pos, if_neg]
  have k5 := k5 (Or.inl c)
  have m18 := (m18 c).1
  have pe := h3 (Or.inl c)
  by_cases c8 : 8 < e - p
  · refine ⟨false, ?_, ?_, fun z => by cases z⟩
    · simp (disch := omega) only [f_X5_isName, k3, k4, k5, Option.bind_some, qi, ql, qI_lt, qI_le, qI_eq, qI_L, qI_ix, qL_lt, qL_eq, q_nat, q_cs, ← Int32.ofInt_add, ← Int32.ofInt_sub, ← Int32.ofInt_mul, ← Int32.ofInt_neg, ← Int64.ofInt_add, ← Int64.ofInt_sub, ← Int64.ofInt_mul, ← Int64.ofInt_neg, pL_I, q_mx, q_mn, q_ab, q_abL, q_mnL, q_nn0, q_nn1, q_rr, q_b1, q_b0, q_T, q_F, q_iT, q_iF, q_d, q_in, q_wi, q_hC, q_hM, pT_i, pU_i, pS_i, pS_j, pS_0, Sum.elim_inl, Sum.elim_inr, if_pos, if_neg]
    · simp (disch := omega) only [f_X12_isName, m14, m18, Option.bind_some, qi, ql, qI_lt, qI_le, qI_eq, qI_L, qI_ix, qL_lt, qL_eq, q_nat, q_cs, ← Int32.ofInt_add, ← Int32.ofInt_sub, ← Int32.ofInt_mul, ← Int32.ofInt_neg, ← Int64.ofInt_add, ← Int64.ofInt_sub, ← Int64.ofInt_mul, ← Int64.ofInt_neg, pL_I, q_mx, q_mn, q_ab, q_abL, q_mnL, q_nn0, q_nn1, q_rr, q_b1, q_b0, q_T, q_F, q_iT, q_iF, q_d, q_in, q_wi, q_hC, q_hM, pT_i, pU_i, pS_i, pS_j, pS_0, Sum.elim_inl, Sum.elim_inr, if_pos, if_neg]
  have K := tk_kept h
  obtain ⟨r0, r1, r2, r6, r7, r8, r9, -⟩ := tk_ref h
  obtain ⟨t, i, ti, -, ts⟩ := tk_set h
  refine ⟨!(wq b s p e 0 || (wq b s p e 1 || (wq b s p e 2 || (wq b s p e 3 || (wq b s p e 4 || (wq b s p e 5 || (wq b s p e 6 || (wq b s p e 7 || (wq b s p e 8 || (wq b s p e 9 || false)))))))))), ?_, ?_, fun _ => ⟨c, by omega⟩⟩
  · have fin : f_X5_isName σ1 = (f_X5_isKept σ1).bind fun p3 => if p3 = true then some false else some true := by
      have e1 : σ1.1 5 0 3 = 1 := by rw [k3, c]; rfl
      have e2 : ¬ 8 < (σ1.1 5 0 5) - (σ1.1 5 0 4) := by
        rw [k4, k5, qi, ← Int32.ofInt_sub, qI_lt (by omega) (by omega) (by omega) (by omega)]
        omega
      unfold f_X5_isName
      rw [if_pos e1, if_neg e2]
    rw [fin, K, Option.bind_some]
    generalize (wq b s p e 0 || (wq b s p e 1 || (wq b s p e 2 || (wq b s p e 3 || (wq b s p e 4 || (wq b s p e 5 || (wq b s p e 6 || (wq b s p e 7 || (wq b s p e 8 || (wq b s p e 9 || false)))))))))) = k
    cases k <;> rfl
  · have e1 : σ2.1 12 0 14 = 1 := by rw [m14, c]; rfl
    have e2 : ¬ 8 < σ2.1 12 0 18 := by
      rw [m18, qi, qI_lt (by omega) (by omega) (by omega) (by omega)]
      omega
    unfold f_X12_isName
    rw [if_pos e1, if_neg e2, ts, Option.bind_some]
    by_cases ci : i = -1
    · have w3 : wq b s p e 3 = false ∧ wq b s p e 4 = false ∧ wq b s p e 5 = false := by
        rcases ti with ⟨-, -, z⟩ | ⟨-, z, -⟩ | ⟨-, z, -⟩ | ⟨-, z, -⟩
        · exact z
        · omega
        · omega
        · omega
      have e3 : Int32.ofInt i < 0 := by
        rw [qi, qI_lt (by omega) (by omega) (by omega) (by omega)]
        omega
      rw [if_pos e3, w3.1, w3.2.1, w3.2.2, r0, Option.bind_some]
      have J : ∀ w0 w1 w2 w6 w7 w8 w9 : Bool, (!(w0 || (w1 || (w2 || (false || (false || (false || (w6 || (w7 || (w8 || (w9 || false))))))))))) = (!w0 && (!w1 && (!w2 && (!w6 && (!w7 && (!w8 && (!w9 && true))))))) := by decide
      rw [J]
      refine an_st ?_
      rw [r1, Option.bind_some]
      refine an_st ?_
      rw [r2, Option.bind_some]
      refine an_st ?_
      rw [r6, Option.bind_some]
      refine an_st ?_
      rw [r7, Option.bind_some]
      refine an_st ?_
      rw [r8, Option.bind_some]
      refine an_st ?_
      rw [r9, Option.bind_some]
      refine an_st ?_
      rfl
    · have e3 : ¬ Int32.ofInt i < 0 := by
        rw [qi, qI_lt (by omega) (by omega) (by omega) (by omega)]
        omega
      have w3 : (wq b s p e 3 || (wq b s p e 4 || wq b s p e 5)) = true := by
        rcases ti with ⟨-, z, -⟩ | ⟨-, -, -, z⟩ | ⟨-, -, -, z⟩ | ⟨-, -, -, z⟩
        · exact absurd z ci
        · exact z
        · exact z
        · exact z
      rw [if_neg e3]
      have J : ∀ w0 w1 w2 w3 w4 w5 w6 : Bool, (w3 || (w4 || w5)) = true → (!(w0 || (w1 || (w2 || (w3 || (w4 || (w5 || w6))))))) = false := by decide
      rw [J _ _ _ _ _ _ _ w3]
theorem ev_s {B : Int} {b : Nat → Int} {p i : Nat} (h : p ≤ i) : ev B (lr b p (i + 1 - p)) = ev B (lr b p (i - p)) * B + (b i - 96) := by
  rw [show i + 1 - p = (i - p) + 1 by omega]
  show ev B (lr b p (i - p)) * B + (b (p + (i - p)) - 96) = _
  rw [show p + (i - p) = i by omega]
theorem tk_code {σ1 σ2 : am_H} {n : Nat} {b : Nat → Int} {s p e : Nat} (h : tk σ1 σ2 n b s p e) (c : s = 1) (c8 : e - p ≤ 8) : f_X5_nameCode σ1 = some (Int64.ofInt (ev 27 (lr b p (e - p)))) := by
  obtain ⟨C, M, ⟨k3, k4, k5, k6⟩, -, h1, s4, h3, h4, -⟩ := h
  have c1 := C.1
  have k5 := k5 (Or.inl c)
  have pe := h3 (Or.inl c)
  have hl := h4 c
  have lp : ∀ f i : Nat, i + f = e → p ≤ i → am_loop (fun t : Int64 × Int32 => f_X5_nameCode_7 t.1 t.2 σ1) (Int64.ofInt (ev 27 (lr b p (i - p))), Int32.ofInt (i : Int)) = some (Int64.ofInt (ev 27 (lr b p (e - p)))) := by
    intro f
    induction f with
    | zero =>
      intro i hi hp
      have ie : i = e := by omega
      rw [ie]
      refine am_loop_out ?_
      simp (disch := omega) only [f_X5_nameCode_7, k5, Option.bind_some, qi, ql, qI_lt, qI_le, qI_eq, qI_L, qI_ix, qL_lt, qL_eq, q_nat, q_cs, ← Int32.ofInt_add, ← Int32.ofInt_sub, ← Int32.ofInt_mul, ← Int32.ofInt_neg, ← Int64.ofInt_add, ← Int64.ofInt_sub, ← Int64.ofInt_mul, ← Int64.ofInt_neg, pL_I, q_mx, q_mn, q_ab, q_abL, q_mnL, q_nn0, q_nn1, q_rr, q_b1, q_b0, q_T, q_F, q_iT, q_iF, q_d, q_in, q_wi, q_hC, q_hM, pT_i, pU_i, pS_i, pS_j, pS_0, Sum.elim_inl, Sum.elim_inr, if_pos, if_neg]
    | succ f ih =>
      intro i hi hp
      have by' := t_by C (by omega : i < n) (hl i hp (by omega))
      have d := of_decide_eq_true (hl i hp (by omega))
      refine (am_loop_in (s' := (Int64.ofInt (ev 27 (lr b p (i + 1 - p))), Int32.ofInt ((i : Int) + 1))) ?_).trans (ih (i + 1) (by omega) (by omega))
      rw [ev_s hp]
      have ea : ev 27 (lr b p (i - p)) * 27 + b i - 97 + 1 = ev 27 (lr b p (i - p)) * 27 + (b i - 96) := by omega
      simp (disch := omega) only [f_X5_nameCode_7, k5, k4, by', ea, Option.bind_some, qi, ql, qI_lt, qI_le, qI_eq, qI_L, qI_ix, qL_lt, qL_eq, q_nat, q_cs, ← Int32.ofInt_add, ← Int32.ofInt_sub, ← Int32.ofInt_mul, ← Int32.ofInt_neg, ← Int64.ofInt_add, ← Int64.ofInt_sub, ← Int64.ofInt_mul, ← Int64.ofInt_neg, pL_I, q_mx, q_mn, q_ab, q_abL, q_mnL, q_nn0, q_nn1, q_rr, q_b1, q_b0, q_T, q_F, q_iT, q_iF, q_d, q_in, q_wi, q_hC, q_hM, pT_i, pU_i, pS_i, pS_j, pS_0, Sum.elim_inl, Sum.elim_inr, if_pos, if_neg]
  have l0 := lp (e - p) p (by omega) (by omega)
  rw [Nat.sub_self] at l0
  have l1 : am_loop (fun t : Int64 × Int32 => f_X5_nameCode_7 t.1 t.2 σ1) (Int64.ofInt 0, Int32.ofInt (p : Int)) = some (Int64.ofInt (ev 27 (lr b p (e - p)))) := l0
  simp (disch := omega) only [f_X5_nameCode, k4, l1, Option.bind_some, qi, ql, qI_lt, qI_le, qI_eq, qI_L, qI_ix, qL_lt, qL_eq, q_nat, q_cs, ← Int32.ofInt_add, ← Int32.ofInt_sub, ← Int32.ofInt_mul, ← Int32.ofInt_neg, ← Int64.ofInt_add, ← Int64.ofInt_sub, ← Int64.ofInt_mul, ← Int64.ofInt_neg, pL_I, q_mx, q_mn, q_ab, q_abL, q_mnL, q_nn0, q_nn1, q_rr, q_b1, q_b0, q_T, q_F, q_iT, q_iF, q_d, q_in, q_wi, q_hC, q_hM, pT_i, pU_i, pS_i, pS_j, pS_0, Sum.elim_inl, Sum.elim_inr, if_pos, if_neg]
theorem nm_b {l : List Int} (h : ∀ d ∈ l, 1 ≤ d ∧ d ≤ 26) (h8 : l.length ≤ 8) : (0 ≤ ev 27 l ∧ ev 27 l < 9223372036854775808) ∧ (0 ≤ ev 32 l ∧ ev 32 l < 9223372036854775808) := by
  have a := ev_u (B := 27) (by omega) l (fun d hd => by have := h d hd; omega)
  have c := ev_u (B := 32) (by omega) l (fun d hd => by have := h d hd; omega)
  have v2 : (27 : Int) ^ l.length ≤ 27 ^ 8 ∧ (32 : Int) ^ l.length ≤ 32 ^ 8 := by
    rcases (by omega : l.length = 0 ∨ l.length = 1 ∨ l.length = 2 ∨ l.length = 3 ∨ l.length = 4 ∨ l.length = 5 ∨ l.length = 6 ∨ l.length = 7 ∨ l.length = 8) with z | z | z | z | z | z | z | z | z <;> rw [z] <;> decide
  have v3 : (32 : Int) ^ 8 = 1099511627776 := rfl
  have v4 : (27 : Int) ^ 8 = 282429536481 := rfl
  exact ⟨⟨ev_p (by omega) l (fun d hd => by have := h d hd; omega), by omega⟩, ⟨ev_p (by omega) l (fun d hd => by have := h d hd; omega), by omega⟩⟩
/-- a name that is there already: both say so -/
theorem tk_named {σ1 σ2 : am_H} {a wc : Nat} {nm : Nat → List Int} {l : List Int} (hw : wc ≤ 6) (w1 : σ1.1 3 a 1 = Int32.ofInt (wc : Int)) (w2 : σ2.1 1320 0 2 = Int32.ofInt (wc : Int)) (hn : ∀ i, i < wc → (∀ d ∈ nm i, 1 ≤ d ∧ d ≤ 26) ∧ (nm i).length ≤ 8 ∧ σ1.2.1 10 (6 * a + i) 0 = Int64.ofInt (ev 27 (nm i)) ∧ σ2.2.1 1326 0 i = Int64.ofInt (ev 32 (nm i))) (hl : ∀ d ∈ l, 1 ≤ d ∧ d ≤ 26) (h8 : l.length ≤ 8) (h19 : σ2.2.1 12 0 19 = Int64.ofInt (ev 32 l)) : ∃ x : Bool, f_X3_hasName a (Int64.ofInt (ev 27 l)) σ1 = some x ∧ f_X12_isNamed σ2 = some x := by
  have z2 : (2 : Int).toNat = 2 := rfl
  have nl := nm_b hl h8
  obtain ⟨r1, r2, k1, k2, hr⟩ := am_loop_2 (B1 := fun s : Int32 => f_X3_hasName_2 a (Int64.ofInt (ev 27 l)) s σ1) (B2 := fun s : Int32 => f_X12_isNamed_2 s σ2) (fun k s1 s2 => ∃ i : Nat, i ≤ wc ∧ s1 = Int32.ofInt (i : Int) ∧ s2 = Int32.ofInt (i : Int) ∧ k = wc - i) (fun r1 r2 => (r1 = .inl () ∧ r2 = .inl ()) ∨ (r1 = .inr () ∧ r2 = .inr ())) (by
    rintro k s1 s2 ⟨i, hi, rfl, rfl, rfl⟩
    by_cases c : i < wc
    · obtain ⟨n1, n2, n3, n4⟩ := hn i c
      have nb := nm_b n1 n2
      by_cases ce : nm i = l
      · left
        refine ⟨.inl (), .inl (), ?_, ?_, Or.inl ⟨rfl, rfl⟩⟩
        · rw [ce] at n3
          simp (disch := omega) only [f_X3_hasName_2, w1, n3, Option.bind_some, qi, ql, qI_lt, qI_le, qI_eq, qI_L, qI_ix, qL_lt, qL_eq, q_nat, q_cs, ← Int32.ofInt_add, ← Int32.ofInt_sub, ← Int32.ofInt_mul, ← Int32.ofInt_neg, ← Int64.ofInt_add, ← Int64.ofInt_sub, ← Int64.ofInt_mul, ← Int64.ofInt_neg, pL_I, q_mx, q_mn, q_ab, q_abL, q_mnL, q_nn0, q_nn1, q_rr, q_b1, q_b0, q_T, q_F, q_iT, q_iF, q_d, q_in, q_wi, q_hC, q_hM, pT_i, pU_i, pS_i, pS_j, pS_0, Sum.elim_inl, Sum.elim_inr, if_pos, if_neg]
        · rw [ce] at n4
          simp (disch := omega) only [f_X12_isNamed_2, z2, w2, n4, h19, Option.bind_some, qi, ql, qI_lt, qI_le, qI_eq, qI_L, qI_ix, qL_lt, qL_eq, q_nat, q_cs, ← Int32.ofInt_add, ← Int32.ofInt_sub, ← Int32.ofInt_mul, ← Int32.ofInt_neg, ← Int64.ofInt_add, ← Int64.ofInt_sub, ← Int64.ofInt_mul, ← Int64.ofInt_neg, pL_I, q_mx, q_mn, q_ab, q_abL, q_mnL, q_nn0, q_nn1, q_rr, q_b1, q_b0, q_T, q_F, q_iT, q_iF, q_d, q_in, q_wi, q_hC, q_hM, pT_i, pU_i, pS_i, pS_j, pS_0, Sum.elim_inl, Sum.elim_inr, if_pos, if_neg]
      · right
        have d1 : ev 27 (nm i) ≠ ev 27 l := fun z => ce (ev_i (B := 27) (by omega) _ _ (fun d hd => by have := n1 d hd; omega) (fun d hd => by have := hl d hd; omega) z)
        have d2 : ev 32 (nm i) ≠ ev 32 l := fun z => ce (ev_i (B := 32) (by omega) _ _ (fun d hd => by have := n1 d hd; omega) (fun d hd => by have := hl d hd; omega) z)
        refine ⟨Int32.ofInt ((i : Int) + 1), Int32.ofInt ((i : Int) + 1), wc - (i + 1), ?_, ?_, by omega, i + 1, by omega, rfl, rfl, rfl⟩
        · simp (disch := omega) only [f_X3_hasName_2, w1, n3, Option.bind_some, qi, ql, qI_lt, qI_le, qI_eq, qI_L, qI_ix, qL_lt, qL_eq, q_nat, q_cs, ← Int32.ofInt_add, ← Int32.ofInt_sub, ← Int32.ofInt_mul, ← Int32.ofInt_neg, ← Int64.ofInt_add, ← Int64.ofInt_sub, ← Int64.ofInt_mul, ← Int64.ofInt_neg, pL_I, q_mx, q_mn, q_ab, q_abL, q_mnL, q_nn0, q_nn1, q_rr, q_b1, q_b0, q_T, q_F, q_iT, q_iF, q_d, q_in, q_wi, q_hC, q_hM, pT_i, pU_i, pS_i, pS_j, pS_0, Sum.elim_inl, Sum.elim_inr, if_pos, if_neg]
        · simp (disch := omega) only [f_X12_isNamed_2, z2, w2, n4, h19, Option.bind_some, qi, ql, qI_lt, qI_le, qI_eq, qI_L, qI_ix, qL_lt, qL_eq, q_nat, q_cs, ← Int32.ofInt_add, ← Int32.ofInt_sub, ← Int32.ofInt_mul, ← Int32.ofInt_neg, ← Int64.ofInt_add, ← Int64.ofInt_sub, ← Int64.ofInt_mul, ← Int64.ofInt_neg, pL_I, q_mx, q_mn, q_ab, q_abL, q_mnL, q_nn0, q_nn1, q_rr, q_b1, q_b0, q_T, q_F, q_iT, q_iF, q_d, q_in, q_wi, q_hC, q_hM, pT_i, pU_i, pS_i, pS_j, pS_0, Sum.elim_inl, Sum.elim_inr, if_pos, if_neg]
    · left
      refine ⟨.inr (), .inr (), ?_, ?_, Or.inr ⟨rfl, rfl⟩⟩
      · simp (disch := omega) only [f_X3_hasName_2, w1, Option.bind_some, qi, ql, qI_lt, qI_le, qI_eq, qI_L, qI_ix, qL_lt, qL_eq, q_nat, q_cs, ← Int32.ofInt_add, ← Int32.ofInt_sub, ← Int32.ofInt_mul, ← Int32.ofInt_neg, ← Int64.ofInt_add, ← Int64.ofInt_sub, ← Int64.ofInt_mul, ← Int64.ofInt_neg, pL_I, q_mx, q_mn, q_ab, q_abL, q_mnL, q_nn0, q_nn1, q_rr, q_b1, q_b0, q_T, q_F, q_iT, q_iF, q_d, q_in, q_wi, q_hC, q_hM, pT_i, pU_i, pS_i, pS_j, pS_0, Sum.elim_inl, Sum.elim_inr, if_pos, if_neg]
      · simp (disch := omega) only [f_X12_isNamed_2, z2, w2, Option.bind_some, qi, ql, qI_lt, qI_le, qI_eq, qI_L, qI_ix, qL_lt, qL_eq, q_nat, q_cs, ← Int32.ofInt_add, ← Int32.ofInt_sub, ← Int32.ofInt_mul, ← Int32.ofInt_neg, ← Int64.ofInt_add, ← Int64.ofInt_sub, ← Int64.ofInt_mul, ← Int64.ofInt_neg, pL_I, q_mx, q_mn, q_ab, q_abL, q_mnL, q_nn0, q_nn1, q_rr, q_b1, q_b0, q_T, q_F, q_iT, q_iF, q_d, q_in, q_wi, q_hC, q_hM, pT_i, pU_i, pS_i, pS_j, pS_0, Sum.elim_inl, Sum.elim_inr, if_pos, if_neg]) wc (Int32.ofInt 0) (Int32.ofInt 0) ⟨0, by omega, rfl, rfl, rfl⟩
  rcases hr with ⟨rfl, rfl⟩ | ⟨rfl, rfl⟩
  · refine ⟨true, ?_, ?_⟩
    · simp (disch := omega) only [f_X3_hasName, k1, Option.bind_some, qi, ql, qI_lt, qI_le, qI_eq, qI_L, qI_ix, qL_lt, qL_eq, q_nat, q_cs, ← Int32.ofInt_add, ← Int32.ofInt_sub, ← Int32.ofInt_mul, ← Int32.ofInt_neg, ← Int64.ofInt_add, ← Int64.ofInt_sub, ← Int64.ofInt_mul, ← Int64.ofInt_neg, pL_I, q_mx, q_mn, q_ab, q_abL, q_mnL, q_nn0, q_nn1, q_rr, q_b1, q_b0, q_T, q_F, q_iT, q_iF, q_d, q_in, q_wi, q_hC, q_hM, pT_i, pU_i, pS_i, pS_j, pS_0, Sum.elim_inl, Sum.elim_inr, if_pos, if_neg]
    · simp (disch := omega) only [f_X12_isNamed, k2, Option.bind_some, qi, ql, qI_lt, qI_le, qI_eq, qI_L, qI_ix, qL_lt, qL_eq, q_nat, q_cs, ← Int32.ofInt_add, ← Int32.ofInt_sub, ← Int32.ofInt_mul, ← Int32.ofInt_neg, ← Int64.ofInt_add, ← Int64.ofInt_sub, ← Int64.ofInt_mul, ← Int64.ofInt_neg, pL_I, q_mx, q_mn, q_ab, q_abL, q_mnL, q_nn0, q_nn1, q_rr, q_b1, q_b0, q_T, q_F, q_iT, q_iF, q_d, q_in, q_wi, q_hC, q_hM, pT_i, pU_i, pS_i, pS_j, pS_0, Sum.elim_inl, Sum.elim_inr, if_pos, if_neg]
  · refine ⟨false, ?_, ?_⟩
    · simp (disch := omega) only [f_X3_hasName, k1, Option.bind_some, qi, ql, qI_lt, qI_le, qI_eq, qI_L, qI_ix, qL_lt, qL_eq, q_nat, q_cs, ← Int32.ofInt_add, ← Int32.ofInt_sub, ← Int32.ofInt_mul, ← Int32.ofInt_neg, ← Int64.ofInt_add, ← Int64.ofInt_sub, ← Int64.ofInt_mul, ← Int64.ofInt_neg, pL_I, q_mx, q_mn, q_ab, q_abL, q_mnL, q_nn0, q_nn1, q_rr, q_b1, q_b0, q_T, q_F, q_iT, q_iF, q_d, q_in, q_wi, q_hC, q_hM, pT_i, pU_i, pS_i, pS_j, pS_0, Sum.elim_inl, Sum.elim_inr, if_pos, if_neg]
    · simp (disch := omega) only [f_X12_isNamed, k2, Option.bind_some, qi, ql, qI_lt, qI_le, qI_eq, qI_L, qI_ix, qL_lt, qL_eq, q_nat, q_cs, ← Int32.ofInt_add, ← Int32.ofInt_sub, ← Int32.ofInt_mul, ← Int32.ofInt_neg, ← Int64.ofInt_add, ← Int64.ofInt_sub, ← Int64.ofInt_mul, ← Int64.ofInt_neg, pL_I, q_mx, q_mn, q_ab, q_abL, q_mnL, q_nn0, q_nn1, q_rr, q_b1, q_b0, q_T, q_F, q_iT, q_iF, q_d, q_in, q_wi, q_hC, q_hM, pT_i, pU_i, pS_i, pS_j, pS_0, Sum.elim_inl, Sum.elim_inr, if_pos, if_neg]
