theorem sh_st {α : Type} {f : Nat → α → α} {n : Nat} {s : α} (h : ∀ S, f n S = S) : en_fo f (n + 1) s = en_fo f n s := h _
/-- the class's search -/
theorem sc_try {a kc cnt : Nat} {kw kt LB : Nat → Int} {fit : Nat → Nat → Nat → Prop} (ha : a < 3) (hc : cnt ≤ 3) (K : tn_K kc kw kt) (hLB : ∀ s, s ≤ cnt → 0 ≤ LB s ∧ LB s ≤ 1000000) : ∀ l s d : Nat, s + l = cnt → l < d → sc_I a kc cnt kw kt LB fit l s d := by
  intro l
  induction l with
  | zero =>
    intro s d hs hd
    obtain ⟨d, rfl⟩ : ∃ d', d = d' + 1 := ⟨d - 1, by omega⟩
    have e : s = cnt := by omega
    subst e
    exact sc_leaf hc K
  | succ l ih =>
    intro s d hs hd
    obtain ⟨d, rfl⟩ : ∃ d', d = d' + 1 := ⟨d - 1, by omega⟩
    have I := ih (s + 1) d (by omega) (by omega)
    intro σ p S B X Y Z
    have K' := K
    obtain ⟨k10, kk⟩ := K'
    have hp : ∀ j, j < 2 * s → p j < kc := fun j hj => (Y j hj).2
    have tb := sc_Tb (k := 2 * s) K hp
    have key : ∃ τ : am_H, am_loop (fun z : Int32 × am_H => f_X7_tryCouple_27 (f_X7_tryCouple d) (Int32.ofInt (s : Int)) (Int32.ofInt (ps_sum (fun j => kt (p j)) (2 * s))) z.1 z.2) (Int32.ofInt 0, σ) = some τ ∧ sc_O σ τ kc (2 * s) cnt (sh_G fit kw kt LB kc (l + 1) s p S) := by
      refine am_loop_1 (B := fun z : Int32 × am_H => f_X7_tryCouple_27 (f_X7_tryCouple d) (Int32.ofInt (s : Int)) (Int32.ofInt (ps_sum (fun j => kt (p j)) (2 * s))) z.1 z.2) (fun N z => ∃ (x : Nat) (ρ : am_H), z = (Int32.ofInt (x : Int), ρ) ∧ x ≤ kc ∧ sc_O σ ρ kc (2 * s) cnt (en_fo (fun a S => en_fo (fun b S => @ite _ (sh_d fit kw p s a b ∧ ps_sum (fun j => kt (p j)) (2 * s) + kt a + kt b + LB (s + 1) < S.1) (Classical.propDecidable _) (sh_G fit kw kt LB kc l (s + 1) (sh_p p (2 * s) a b) S) S) kc S) x S) ∧ N = kc - x) _ ?_ kc (Int32.ofInt 0, σ) ⟨0, σ, rfl, by omega, ⟨qf.rf, fun x _ => rfl, fun j _ => rfl, Z⟩, rfl⟩
      rintro N z ⟨x, ρ, rfl, hx, ⟨q, h3, h4, Z'⟩, rfl⟩
      have B' := sc_Bq q B
      have B'' := B'
      obtain ⟨b1, b2, b3, b4, b5, b6⟩ := B''
      have rr : am_rr 3 (ρ.2.2 7 0 0) = some a := by rw [b1]; exact q_rr ha
      by_cases ce : x < kc
      · right
        have X' : sc_X ρ kc (2 * s) kw p := fun v hv => ⟨by rw [h3 v hv]; exact (X v hv).1, (X v hv).2⟩
        have Y' : sc_Y ρ kc (2 * s) kt p := fun j hj => ⟨by rw [h4 j hj]; exact (Y j hj).1, (Y j hj).2⟩
        have l1 := (X' x ce).1
        have l2 := (X' x ce).2
        have kx := kk x ce
        by_cases bx : 0 < kw x - en_n p (2 * s) x
        · obtain ⟨X2, Y2⟩ := sc_take X' Y' ce bx
          have Q1 : qf sc_l ρ (am_wI (am_wI ρ 803 0 x (Int32.ofInt (kw x - en_n p (2 * s) x - 1))) 804 0 (2 * s) (Int32.ofInt (kt x))) := (qf.rf.wI rfl).wI rfl
          obtain ⟨π, f, O⟩ := sc_driven ha hc (by omega : s < cnt) K hLB ce I (by omega) hp (sc_Bq Q1 B') X2 Y2 (S := en_fo (fun a S => en_fo (fun b S => @ite _ (sh_d fit kw p s a b ∧ ps_sum (fun j => kt (p j)) (2 * s) + kt a + kt b + LB (s + 1) < S.1) (Classical.propDecidable _) (sh_G fit kw kt LB kc l (s + 1) (sh_p p (2 * s) a b) S) S) kc S) x S) ⟨Z'.1, Z'.2.1, Z'.2.2⟩
          obtain ⟨p803, O'⟩ := sc_back (kt := kt) X' ce O
          obtain ⟨q2, g3, g4, g5⟩ := O'
          have c1 : (am_wI ρ 803 0 x (Int32.ofInt (kw x - en_n p (2 * s) x - 1))).1 403 a x = Int32.ofInt (kt x) := b3 x ce
          have r1 : am_rr 3 ((am_wI ρ 803 0 x (Int32.ofInt (kw x - en_n p (2 * s) x - 1))).2.2 7 0 0) = some a := rr
          have c2 : (am_wI (am_wI ρ 803 0 x (Int32.ofInt (kw x - en_n p (2 * s) x - 1))) 804 0 (2 * s) (Int32.ofInt (kt x))).1 403 a x = Int32.ofInt (kt x) := b3 x ce
          have r2 : am_rr 3 ((am_wI (am_wI ρ 803 0 x (Int32.ofInt (kw x - en_n p (2 * s) x - 1))) 804 0 (2 * s) (Int32.ofInt (kt x))).2.2 7 0 0) = some a := rr
          have i804 : (2 * (s : Int)).toNat = 2 * s := by omega
          refine ⟨(Int32.ofInt ((x : Int) + 1), am_wI π 803 0 x (Int32.ofInt (kw x - en_n p (2 * s) x - 1 + 1))), kc - (x + 1), ?_, by omega, x + 1, _, rfl, by omega, ⟨q.tr q2, fun v hv => (g3 v hv).trans (h3 v hv), fun j hj => (g4 j hj).trans (h4 j hj), g5⟩, rfl⟩
          simp (disch := omega) only [f_X7_tryCouple_27, rr, b2, l1, r1, c1, i804, r2, c2, f, p803, Option.bind_some, qi, ql, qI_lt, qI_le, qI_eq, qI_L, qI_ix, qL_lt, qL_eq, q_nat, q_cs, ← Int32.ofInt_add, ← Int32.ofInt_sub, ← Int32.ofInt_mul, ← Int32.ofInt_neg, ← Int64.ofInt_add, ← Int64.ofInt_sub, ← Int64.ofInt_mul, ← Int64.ofInt_neg, pL_I, q_mx, q_mn, q_ab, q_abL, q_mnL, q_nn0, q_nn1, q_rr, q_b1, q_b0, q_T, q_F, q_iT, q_iF, q_d, q_in, q_wi, q_hC, q_hM, pT_i, pU_i, pS_i, pS_j, pS_0, Sum.elim_inl, Sum.elim_inr, if_pos, if_neg]
        · refine ⟨(Int32.ofInt ((x : Int) + 1), ρ), kc - (x + 1), ?_, by omega, x + 1, ρ, rfl, by omega, ⟨q, h3, h4, ?_⟩, rfl⟩
          · simp (disch := omega) only [f_X7_tryCouple_27, rr, b2, l1, Option.bind_some, qi, ql, qI_lt, qI_le, qI_eq, qI_L, qI_ix, qL_lt, qL_eq, q_nat, q_cs, ← Int32.ofInt_add, ← Int32.ofInt_sub, ← Int32.ofInt_mul, ← Int32.ofInt_neg, ← Int64.ofInt_add, ← Int64.ofInt_sub, ← Int64.ofInt_mul, ← Int64.ofInt_neg, pL_I, q_mx, q_mn, q_ab, q_abL, q_mnL, q_nn0, q_nn1, q_rr, q_b1, q_b0, q_T, q_F, q_iT, q_iF, q_d, q_in, q_wi, q_hC, q_hM, pT_i, pU_i, pS_i, pS_j, pS_0, Sum.elim_inl, Sum.elim_inr, if_pos, if_neg]
          · have e : en_fo (fun a S => en_fo (fun b S => @ite _ (sh_d fit kw p s a b ∧ ps_sum (fun j => kt (p j)) (2 * s) + kt a + kt b + LB (s + 1) < S.1) (Classical.propDecidable _) (sh_G fit kw kt LB kc l (s + 1) (sh_p p (2 * s) a b) S) S) kc S) (x + 1) S = en_fo (fun a S => en_fo (fun b S => @ite _ (sh_d fit kw p s a b ∧ ps_sum (fun j => kt (p j)) (2 * s) + kt a + kt b + LB (s + 1) < S.1) (Classical.propDecidable _) (sh_G fit kw kt LB kc l (s + 1) (sh_p p (2 * s) a b) S) S) kc S) x S := by
              refine sh_st (fun S1 => ?_)
              show en_fo (fun b S => @ite _ (sh_d fit kw p s x b ∧ ps_sum (fun j => kt (p j)) (2 * s) + kt x + kt b + LB (s + 1) < S.1) (Classical.propDecidable _) (sh_G fit kw kt LB kc l (s + 1) (sh_p p (2 * s) x b) S) S) kc S1 = S1
              refine sh_fix (fun b hb => ?_)
              have no : ¬ (sh_d fit kw p s x b ∧ ps_sum (fun j => kt (p j)) (2 * s) + kt x + kt b + LB (s + 1) < S1.1) := fun z => by
                have := z.1.2.1
                omega
              exact if_neg no
            rw [e]
            exact Z'
      · left
        have : x = kc := by omega
        subst this
        refine ⟨ρ, ?_, q, h3, h4, Z'⟩
        simp (disch := omega) only [f_X7_tryCouple_27, rr, b2, Option.bind_some, qi, ql, qI_lt, qI_le, qI_eq, qI_L, qI_ix, qL_lt, qL_eq, q_nat, q_cs, ← Int32.ofInt_add, ← Int32.ofInt_sub, ← Int32.ofInt_mul, ← Int32.ofInt_neg, ← Int64.ofInt_add, ← Int64.ofInt_sub, ← Int64.ofInt_mul, ← Int64.ofInt_neg, pL_I, q_mx, q_mn, q_ab, q_abL, q_mnL, q_nn0, q_nn1, q_rr, q_b1, q_b0, q_T, q_F, q_iT, q_iF, q_d, q_in, q_wi, q_hC, q_hM, pT_i, pU_i, pS_i, pS_j, pS_0, Sum.elim_inl, Sum.elim_inr, if_pos, if_neg]
    obtain ⟨τ, lp, O⟩ := key
    refine ⟨τ, ?_, O⟩
    have b4 := B.2.2.2.1
    show f_X7_tryCouple_0 (f_X7_tryCouple d) (Int32.ofInt (s : Int)) (Int32.ofInt (ps_sum (fun j => kt (p j)) (2 * s))) σ = some τ
    simp (disch := omega) only [f_X7_tryCouple_0, b4, lp, Option.bind_some, qi, ql, qI_lt, qI_le, qI_eq, qI_L, qI_ix, qL_lt, qL_eq, q_nat, q_cs, ← Int32.ofInt_add, ← Int32.ofInt_sub, ← Int32.ofInt_mul, ← Int32.ofInt_neg, ← Int64.ofInt_add, ← Int64.ofInt_sub, ← Int64.ofInt_mul, ← Int64.ofInt_neg, pL_I, q_mx, q_mn, q_ab, q_abL, q_mnL, q_nn0, q_nn1, q_rr, q_b1, q_b0, q_T, q_F, q_iT, q_iF, q_d, q_in, q_wi, q_hC, q_hM, pT_i, pU_i, pS_i, pS_j, pS_0, Sum.elim_inl, Sum.elim_inr, if_pos, if_neg]
