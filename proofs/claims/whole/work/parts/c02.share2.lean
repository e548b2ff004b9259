/-! ===== SHARED: the class searches ===== -/
def sc_l : List (Nat × Nat) := [(803, 999), (804, 999), (805, 999), (7, 8)]
def sc_B (σ : am_H) (a kc cnt : Nat) (kt : Nat → Int) (fit : Nat → Nat → Nat → Prop) (LB : Nat → Int) : Prop := σ.2.2 7 0 0 = some a ∧ σ.1 3 a 4 = Int32.ofInt kc ∧ (∀ x, x < kc → σ.1 403 a x = Int32.ofInt (kt x)) ∧ σ.1 7 0 2 = Int32.ofInt (2 * (cnt : Int)) ∧ (∀ s x y, s < cnt → x < kc → y < kc → (σ.1 806 0 (100 * s + 10 * x + y) = Int32.ofInt 1 ∧ fit s x y) ∨ (σ.1 806 0 (100 * s + 10 * x + y) = Int32.ofInt 0 ∧ ¬ fit s x y)) ∧ (∀ s, s ≤ cnt → σ.1 807 0 s = Int32.ofInt (LB s))
theorem sc_Bq {σ τ : am_H} {a kc cnt : Nat} {kt : Nat → Int} {fit : Nat → Nat → Nat → Prop} {LB : Nat → Int} (q : qf sc_l σ τ) (B : sc_B σ a kc cnt kt fit LB) : sc_B τ a kc cnt kt fit LB := by
  obtain ⟨b1, b2, b3, b4, b5, b6⟩ := B
  refine ⟨?_, ?_, fun x hx => ?_, ?_, fun s x y h1 h2 h3 => ?_, fun s hs => ?_⟩
  · rw [(q 7 0 0 rfl).2.2]; exact b1
  · rw [(q 3 a 4 rfl).1]; exact b2
  · rw [(q 403 a x rfl).1]; exact b3 x hx
  · rw [(q 7 0 2 rfl).1]; exact b4
  · rw [(q 806 0 (100 * s + 10 * x + y) rfl).1]; exact b5 s x y h1 h2 h3
  · rw [(q 807 0 s rfl).1]; exact b6 s hs
def sc_S (σ : am_H) (cnt : Nat) (S : Int × (Nat → Int)) : Prop := σ.1 7 0 8 = Int32.ofInt S.1 ∧ (0 ≤ S.1 ∧ S.1 ≤ 1000000) ∧ (S.1 ≠ 1000000 → ∀ j, j < 2 * cnt → σ.1 805 0 j = Int32.ofInt (S.2 j))
/-- what is still in the box, what is tried -/
def sc_X (σ : am_H) (kc k : Nat) (kw : Nat → Int) (p : Nat → Nat) : Prop := ∀ x, x < kc → σ.1 803 0 x = Int32.ofInt (kw x - en_n p k x) ∧ (en_n p k x : Int) ≤ kw x
def sc_Y (σ : am_H) (kc k : Nat) (kt : Nat → Int) (p : Nat → Nat) : Prop := ∀ j, j < k → σ.1 804 0 j = Int32.ofInt (kt (p j)) ∧ p j < kc
def sc_O (σ τ : am_H) (kc k cnt : Nat) (S : Int × (Nat → Int)) : Prop := qf sc_l σ τ ∧ (∀ x, x < kc → τ.1 803 0 x = σ.1 803 0 x) ∧ (∀ j, j < k → τ.1 804 0 j = σ.1 804 0 j) ∧ sc_S τ cnt S
theorem sc_Tb {kc k : Nat} {kw kt : Nat → Int} {p : Nat → Nat} (K : tn_K kc kw kt) (hp : ∀ j, j < k → p j < kc) : 0 ≤ ps_sum (fun j => kt (p j)) k ∧ ps_sum (fun j => kt (p j)) k ≤ 200 * k := by
  induction k with
  | zero => exact ⟨Int.le_refl 0, Int.le_refl 0⟩
  | succ k ih =>
    have h := ih (fun j hj => hp j (by omega))
    have h2 := (K.2 (p k) (hp k (by omega))).2
    show 0 ≤ ps_sum (fun j => kt (p j)) k + kt (p k) ∧ ps_sum (fun j => kt (p j)) k + kt (p k) ≤ 200 * ((k + 1 : Nat) : Int)
    omega
def sc_I (a kc cnt : Nat) (kw kt LB : Nat → Int) (fit : Nat → Nat → Nat → Prop) (l s d : Nat) : Prop := ∀ (σ : am_H) (p : Nat → Nat) (S : Int × (Nat → Int)), sc_B σ a kc cnt kt fit LB → sc_X σ kc (2 * s) kw p → sc_Y σ kc (2 * s) kt p → sc_S σ cnt S → ∃ τ : am_H, f_X7_tryCouple d (Int32.ofInt (s : Int)) (Int32.ofInt (ps_sum (fun j => kt (p j)) (2 * s))) σ = some τ ∧ sc_O σ τ kc (2 * s) cnt (sh_G fit kw kt LB kc l s p S)
/-- the end of a row -/
theorem sc_leaf {a kc cnt d : Nat} {kw kt LB : Nat → Int} {fit : Nat → Nat → Nat → Prop} (hc : cnt ≤ 3) (K : tn_K kc kw kt) : sc_I a kc cnt kw kt LB fit 0 cnt (d + 1) := by
  intro σ p S B X Y Z
  obtain ⟨b1, b2, b3, b4, b5, b6⟩ := B
  have tb := sc_Tb (k := 2 * cnt) K (fun j hj => (Y j hj).2)
  have e2 : (am_wI σ 7 0 8 (Int32.ofInt (ps_sum (fun j => kt (p j)) (2 * cnt)))).1 7 0 2 = Int32.ofInt ((2 * cnt : Nat) : Int) := b4
  obtain ⟨τ, f, q, h5⟩ := tn_keep (M := 2 * cnt) (by omega) e2
  have Q : qf sc_l σ τ := (qf.wI (l := sc_l) (i := 0) (v := Int32.ofInt (ps_sum (fun j => kt (p j)) (2 * cnt))) (k := 7) (j := 8) (qf.rf (σ := σ)) rfl).tr (q.mo (by decide +kernel))
  refine ⟨τ, ?_, Q, fun x hx => ?_, fun j hj => ?_, ?_, ?_, fun _ j hj => ?_⟩
  · show f_X7_tryCouple_0 (f_X7_tryCouple d) (Int32.ofInt (cnt : Int)) (Int32.ofInt (ps_sum (fun j => kt (p j)) (2 * cnt))) σ = some τ
    by_cases c3 : cnt < 3
    · simp (disch := omega) only [f_X7_tryCouple_0, f_X7_tryCouple_15, b4, f, Option.bind_some, qi, ql, qI_lt, qI_le, qI_eq, qI_L, qI_ix, qL_lt, qL_eq, q_nat, q_cs, ← Int32.ofInt_add, ← Int32.ofInt_sub, ← Int32.ofInt_mul, ← Int32.ofInt_neg, ← Int64.ofInt_add, ← Int64.ofInt_sub, ← Int64.ofInt_mul, ← Int64.ofInt_neg, pL_I, q_mx, q_mn, q_ab, q_abL, q_mnL, q_nn0, q_nn1, q_rr, q_b1, q_b0, q_T, q_F, q_iT, q_iF, q_d, q_in, q_wi, q_hC, q_hM, pT_i, pU_i, pS_i, pS_j, pS_0, Sum.elim_inl, Sum.elim_inr, if_pos, if_neg]
    · simp (disch := omega) only [f_X7_tryCouple_0, f_X7_tryCouple_15, b4, f, Option.bind_some, qi, ql, qI_lt, qI_le, qI_eq, qI_L, qI_ix, qL_lt, qL_eq, q_nat, q_cs, ← Int32.ofInt_add, ← Int32.ofInt_sub, ← Int32.ofInt_mul, ← Int32.ofInt_neg, ← Int64.ofInt_add, ← Int64.ofInt_sub, ← Int64.ofInt_mul, ← Int64.ofInt_neg, pL_I, q_mx, q_mn, q_ab, q_abL, q_mnL, q_nn0, q_nn1, q_rr, q_b1, q_b0, q_T, q_F, q_iT, q_iF, q_d, q_in, q_wi, q_hC, q_hM, pT_i, pU_i, pS_i, pS_j, pS_0, Sum.elim_inl, Sum.elim_inr, if_pos, if_neg]
  · rw [(q 803 0 x rfl).1]
    rfl
  · rw [(q 804 0 j rfl).1]
    rfl
  · rw [(q 7 0 8 rfl).1]
    rfl
  · show 0 ≤ ps_sum (fun j => kt (p j)) (2 * cnt) ∧ ps_sum (fun j => kt (p j)) (2 * cnt) ≤ 1000000
    omega
  · rw [h5 j hj]
    exact (Y j hj).1
/-- a KIND is taken out and written down: what stands then -/
theorem sc_take {σ : am_H} {kc k x : Nat} {kw kt : Nat → Int} {p : Nat → Nat} (X : sc_X σ kc k kw p) (Y : sc_Y σ kc k kt p) (hx : x < kc) (h : 0 < kw x - en_n p k x) : sc_X (am_wI (am_wI σ 803 0 x (Int32.ofInt (kw x - en_n p k x - 1))) 804 0 k (Int32.ofInt (kt x))) kc (k + 1) kw (en_u p k x) ∧ sc_Y (am_wI (am_wI σ 803 0 x (Int32.ofInt (kw x - en_n p k x - 1))) 804 0 k (Int32.ofInt (kt x))) kc (k + 1) kt (en_u p k x) := by
  refine ⟨fun y hy => ?_, fun j hj => ?_⟩
  · obtain ⟨m1, m2⟩ := X y hy
    rw [sh_n1]
    by_cases cy : y = x
    · subst cy
      rw [if_pos rfl]
      refine ⟨?_, by omega⟩
      rw [am_wI_r, if_neg (by omega), am_wI_r, if_pos ⟨rfl, rfl, rfl⟩]
      rw [show kw y - ((en_n p k y + 1 : Nat) : Int) = kw y - en_n p k y - 1 by omega]
    · rw [if_neg (fun e => cy e.symm), Nat.add_zero]
      refine ⟨?_, m2⟩
      rw [am_wI_r, if_neg (by omega), am_wI_r, if_neg (by omega)]
      exact m1
  · by_cases cj : j = k
    · subst cj
      refine ⟨?_, by rw [en_uk]; exact hx⟩
      rw [am_wI_r, if_pos ⟨rfl, rfl, rfl⟩, en_uk]
    · rw [en_un cj]
      refine ⟨?_, (Y j (by omega)).2⟩
      rw [am_wI_r, if_neg (by omega), am_wI_r, if_neg (by omega)]
      exact (Y j (by omega)).1
/-- and put back -/
theorem sc_back {σ π : am_H} {kc k x cnt : Nat} {kw kt : Nat → Int} {p : Nat → Nat} {S : Int × (Nat → Int)} (X : sc_X σ kc k kw p) (hx : x < kc) (O : sc_O (am_wI (am_wI σ 803 0 x (Int32.ofInt (kw x - en_n p k x - 1))) 804 0 k (Int32.ofInt (kt x))) π kc (k + 1) cnt S) : π.1 803 0 x = Int32.ofInt (kw x - en_n p k x - 1) ∧ sc_O σ (am_wI π 803 0 x (Int32.ofInt (kw x - en_n p k x - 1 + 1))) kc k cnt S := by
  obtain ⟨q, g3, g4, g5⟩ := O
  refine ⟨?_, ((qf.rf.wI rfl).wI rfl |>.tr q).wI rfl, fun y hy => ?_, fun j hj => ?_, ⟨g5.1, g5.2.1, g5.2.2⟩⟩
  · rw [g3 x hx, am_wI_r, if_neg (by omega), am_wI_r, if_pos ⟨rfl, rfl, rfl⟩]
  · rw [am_wI_r]
    by_cases cy : y = x
    · subst cy
      rw [if_pos ⟨rfl, rfl, rfl⟩, (X y hy).1, show kw y - (en_n p k y : Int) - 1 + 1 = kw y - en_n p k y by omega]
    · rw [if_neg (by omega), g3 y hy, am_wI_r, if_neg (by omega), am_wI_r, if_neg (by omega)]
  · rw [am_wI_r, if_neg (by omega), g4 j (by omega), am_wI_r, if_neg (by omega), am_wI_r, if_neg (by omega)]
/-- all that it may drive -/
theorem sc_driven {a kc cnt l s d x : Nat} {kw kt LB : Nat → Int} {fit : Nat → Nat → Nat → Prop} (ha : a < 3) (hc : cnt ≤ 3) (hs : s < cnt) (K : tn_K kc kw kt) (hLB : ∀ s, s ≤ cnt → 0 ≤ LB s ∧ LB s ≤ 1000000) (hx : x < kc) (I : sc_I a kc cnt kw kt LB fit l (s + 1) d) {σ : am_H} {p : Nat → Nat} {S : Int × (Nat → Int)} (hpx : (en_n p (2 * s) x : Int) < kw x) (hp : ∀ j, j < 2 * s → p j < kc) (B : sc_B σ a kc cnt kt fit LB) (X : sc_X σ kc (2 * s + 1) kw (en_u p (2 * s) x)) (Y : sc_Y σ kc (2 * s + 1) kt (en_u p (2 * s) x)) (Z : sc_S σ cnt S) : ∃ τ : am_H, f_X7_tryDriven (f_X7_tryCouple d) (Int32.ofInt (s : Int)) (Int32.ofInt (x : Int)) (Int32.ofInt (ps_sum (fun j => kt (p j)) (2 * s) + kt x)) σ = some τ ∧ sc_O σ τ kc (2 * s + 1) cnt (en_fo (fun b S => @ite _ (sh_d fit kw p s x b ∧ ps_sum (fun j => kt (p j)) (2 * s) + kt x + kt b + LB (s + 1) < S.1) (Classical.propDecidable _) (sh_G fit kw kt LB kc l (s + 1) (sh_p p (2 * s) x b) S) S) kc S) := by
  obtain ⟨k10, kk⟩ := K
  have tb := sc_Tb (k := 2 * s) (kw := kw) ⟨k10, kk⟩ hp
  have kx := kk x hx
  have lb := hLB (s + 1) (by omega)
  have key : ∃ τ : am_H, am_loop (fun z : Int32 × am_H => f_X7_tryDriven_3 (f_X7_tryCouple d) (Int32.ofInt (s : Int)) (Int32.ofInt (x : Int)) (Int32.ofInt (ps_sum (fun j => kt (p j)) (2 * s) + kt x)) z.1 z.2) (Int32.ofInt 0, σ) = some τ ∧ sc_O σ τ kc (2 * s + 1) cnt (en_fo (fun b S => @ite _ (sh_d fit kw p s x b ∧ ps_sum (fun j => kt (p j)) (2 * s) + kt x + kt b + LB (s + 1) < S.1) (Classical.propDecidable _) (sh_G fit kw kt LB kc l (s + 1) (sh_p p (2 * s) x b) S) S) kc S) := by
    refine am_loop_1 (B := fun z : Int32 × am_H => f_X7_tryDriven_3 (f_X7_tryCouple d) (Int32.ofInt (s : Int)) (Int32.ofInt (x : Int)) (Int32.ofInt (ps_sum (fun j => kt (p j)) (2 * s) + kt x)) z.1 z.2) (fun N z => ∃ (y : Nat) (ρ : am_H), z = (Int32.ofInt (y : Int), ρ) ∧ y ≤ kc ∧ sc_O σ ρ kc (2 * s + 1) cnt (en_fo (fun b S => @ite _ (sh_d fit kw p s x b ∧ ps_sum (fun j => kt (p j)) (2 * s) + kt x + kt b + LB (s + 1) < S.1) (Classical.propDecidable _) (sh_G fit kw kt LB kc l (s + 1) (sh_p p (2 * s) x b) S) S) y S) ∧ N = kc - y) _ ?_ kc (Int32.ofInt 0, σ) ⟨0, σ, rfl, by omega, ⟨qf.rf, fun x _ => rfl, fun j _ => rfl, Z⟩, rfl⟩
    rintro N z ⟨y, ρ, rfl, hy, ⟨q, h3, h4, Z'⟩, rfl⟩
    have B' := sc_Bq q B
    obtain ⟨b1, b2, b3, b4, b5, b6⟩ := B'
    have rr : am_rr 3 (ρ.2.2 7 0 0) = some a := by rw [b1]; exact q_rr ha
    by_cases ce : y < kc
    · right
      generalize hS : en_fo (fun b S => @ite _ (sh_d fit kw p s x b ∧ ps_sum (fun j => kt (p j)) (2 * s) + kt x + kt b + LB (s + 1) < S.1) (Classical.propDecidable _) (sh_G fit kw kt LB kc l (s + 1) (sh_p p (2 * s) x b) S) S) y S = S1 at Z'
      have eS : en_fo (fun b S => @ite _ (sh_d fit kw p s x b ∧ ps_sum (fun j => kt (p j)) (2 * s) + kt x + kt b + LB (s + 1) < S.1) (Classical.propDecidable _) (sh_G fit kw kt LB kc l (s + 1) (sh_p p (2 * s) x b) S) S) (y + 1) S = (@ite _ (sh_d fit kw p s x y ∧ ps_sum (fun j => kt (p j)) (2 * s) + kt x + kt y + LB (s + 1) < S1.1) (Classical.propDecidable _) (sh_G fit kw kt LB kc l (s + 1) (sh_p p (2 * s) x y) S1) S1) := by
        rw [← hS]
        rfl
      have ky := kk y ce
      have c403 := b3 y ce
      have c807 : ρ.1 807 0 (s + 1) = Int32.ofInt (LB (s + 1)) := b6 (s + 1) (by omega)
      have i807 : ((s : Int) + 1).toNat = s + 1 := by omega
      obtain ⟨z8, zb, z5⟩ := Z'
      have X' : sc_X ρ kc (2 * s + 1) kw (en_u p (2 * s) x) := fun v hv => ⟨by rw [h3 v hv]; exact (X v hv).1, (X v hv).2⟩
      have Y' : sc_Y ρ kc (2 * s + 1) kt (en_u p (2 * s) x) := fun j hj => ⟨by rw [h4 j hj]; exact (Y j hj).1, (Y j hj).2⟩
      have l1 := (X' y ce).1
      have nb := en_nb (p := en_u p (2 * s) x) (m := 2 * s + 1) (x := y)
      have l2 := (X' y ce).2
      have skip : (¬ (sh_d fit kw p s x y ∧ ps_sum (fun j => kt (p j)) (2 * s) + kt x + kt y + LB (s + 1) < S1.1)) → f_X7_tryDriven_3 (f_X7_tryCouple d) (Int32.ofInt (s : Int)) (Int32.ofInt (x : Int)) (Int32.ofInt (ps_sum (fun j => kt (p j)) (2 * s) + kt x)) (Int32.ofInt (y : Int)) ρ = some (.inl (Int32.ofInt ((y : Int) + 1), ρ)) → ∃ (s' : Int32 × am_H) (n' : Nat), f_X7_tryDriven_3 (f_X7_tryCouple d) (Int32.ofInt (s : Int)) (Int32.ofInt (x : Int)) (Int32.ofInt (ps_sum (fun j => kt (p j)) (2 * s) + kt x)) (Int32.ofInt (y : Int)) ρ = some (.inl s') ∧ n' < kc - y ∧ ∃ (y : Nat) (ρ : am_H), s' = (Int32.ofInt (y : Int), ρ) ∧ y ≤ kc ∧ sc_O σ ρ kc (2 * s + 1) cnt (en_fo (fun b S => @ite _ (sh_d fit kw p s x b ∧ ps_sum (fun j => kt (p j)) (2 * s) + kt x + kt b + LB (s + 1) < S.1) (Classical.propDecidable _) (sh_G fit kw kt LB kc l (s + 1) (sh_p p (2 * s) x b) S) S) y S) ∧ n' = kc - y := by
        intro no f
        refine ⟨_, kc - (y + 1), f, by omega, y + 1, ρ, rfl, by omega, ⟨q, h3, h4, ?_⟩, rfl⟩
        rw [eS, if_neg no]
        exact ⟨z8, zb, z5⟩
      by_cases pr : ps_sum (fun j => kt (p j)) (2 * s) + kt x + kt y + LB (s + 1) < S1.1
      · by_cases bx : 0 < kw y - en_n (en_u p (2 * s) x) (2 * s + 1) y
        · have ix6 : (((s : Int) * 100 + (x : Int) * 10) + (y : Int)).toNat = 100 * s + 10 * x + y := by omega
          rcases b5 s x y hs hx ce with ⟨f6, fi⟩ | ⟨f6, fi⟩
          · have sd : sh_d fit kw p s x y := ⟨fi, hpx, by omega⟩
            obtain ⟨X2, Y2⟩ := sc_take X' Y' ce bx
            have Q1 : qf sc_l σ (am_wI (am_wI ρ 803 0 y (Int32.ofInt (kw y - en_n (en_u p (2 * s) x) (2 * s + 1) y - 1))) 804 0 (2 * s + 1) (Int32.ofInt (kt y))) := (q.wI rfl).wI rfl
            obtain ⟨π, f, O⟩ := I (am_wI (am_wI ρ 803 0 y (Int32.ofInt (kw y - en_n (en_u p (2 * s) x) (2 * s + 1) y - 1))) 804 0 (2 * s + 1) (Int32.ofInt (kt y))) (sh_p p (2 * s) x y) S1 (sc_Bq Q1 B) X2 Y2 ⟨z8, zb, z5⟩
            rw [sh_T] at f
            have f' : f_X7_tryCouple d (Int32.ofInt ((s : Int) + 1)) (Int32.ofInt (ps_sum (fun j => kt (p j)) (2 * s) + kt x + kt y)) (am_wI (am_wI ρ 803 0 y (Int32.ofInt (kw y - en_n (en_u p (2 * s) x) (2 * s + 1) y - 1))) 804 0 (2 * s + 1) (Int32.ofInt (kt y))) = some π := f
            obtain ⟨p803, O'⟩ := sc_back (kt := kt) X' ce O
            obtain ⟨q2, g3, g4, g5⟩ := O'
            have c403' : (am_wI ρ 803 0 y (Int32.ofInt (kw y - en_n (en_u p (2 * s) x) (2 * s + 1) y - 1))).1 403 a y = Int32.ofInt (kt y) := b3 y ce
            have rr2 : am_rr 3 ((am_wI ρ 803 0 y (Int32.ofInt (kw y - en_n (en_u p (2 * s) x) (2 * s + 1) y - 1))).2.2 7 0 0) = some a := rr
            have i804 : (2 * (s : Int) + 1).toNat = 2 * s + 1 := by omega
            refine ⟨(Int32.ofInt ((y : Int) + 1), am_wI π 803 0 y (Int32.ofInt (kw y - en_n (en_u p (2 * s) x) (2 * s + 1) y - 1 + 1))), kc - (y + 1), ?_, by omega, y + 1, _, rfl, by omega, ⟨q.tr q2, fun v hv => (g3 v hv).trans (h3 v hv), fun j hj => (g4 j hj).trans (h4 j hj), ?_⟩, rfl⟩
            · simp (disch := omega) only [f_X7_tryDriven_3, f_X7_tryDriven_52, rr, b2, c403, i807, c807, z8, l1, ix6, f6, rr2, c403', i804, f', p803, Option.bind_some, qi, ql, qI_lt, qI_le, qI_eq, qI_L, qI_ix, qL_lt, qL_eq, q_nat, q_cs, ← Int32.ofInt_add, ← Int32.ofInt_sub, ← Int32.ofInt_mul, ← Int32.ofInt_neg, ← Int64.ofInt_add, ← Int64.ofInt_sub, ← Int64.ofInt_mul, ← Int64.ofInt_neg, pL_I, q_mx, q_mn, q_ab, q_abL, q_mnL, q_nn0, q_nn1, q_rr, q_b1, q_b0, q_T, q_F, q_iT, q_iF, q_d, q_in, q_wi, q_hC, q_hM, pT_i, pU_i, pS_i, pS_j, pS_0, Sum.elim_inl, Sum.elim_inr, if_pos, if_neg]
            · rw [eS, if_pos ⟨sd, pr⟩]
              exact g5
          · refine skip (fun z => fi z.1.1) ?_
            simp (disch := omega) only [f_X7_tryDriven_3, f_X7_tryDriven_52, rr, b2, c403, i807, c807, z8, l1, ix6, f6, Option.bind_some, qi, ql, qI_lt, qI_le, qI_eq, qI_L, qI_ix, qL_lt, qL_eq, q_nat, q_cs, ← Int32.ofInt_add, ← Int32.ofInt_sub, ← Int32.ofInt_mul, ← Int32.ofInt_neg, ← Int64.ofInt_add, ← Int64.ofInt_sub, ← Int64.ofInt_mul, ← Int64.ofInt_neg, pL_I, q_mx, q_mn, q_ab, q_abL, q_mnL, q_nn0, q_nn1, q_rr, q_b1, q_b0, q_T, q_F, q_iT, q_iF, q_d, q_in, q_wi, q_hC, q_hM, pT_i, pU_i, pS_i, pS_j, pS_0, Sum.elim_inl, Sum.elim_inr, if_pos, if_neg]
        · refine skip (fun z => ?_) ?_
          · have := z.1.2.2
            omega
          · simp (disch := omega) only [f_X7_tryDriven_3, f_X7_tryDriven_52, rr, b2, c403, i807, c807, z8, l1, Option.bind_some, qi, ql, qI_lt, qI_le, qI_eq, qI_L, qI_ix, qL_lt, qL_eq, q_nat, q_cs, ← Int32.ofInt_add, ← Int32.ofInt_sub, ← Int32.ofInt_mul, ← Int32.ofInt_neg, ← Int64.ofInt_add, ← Int64.ofInt_sub, ← Int64.ofInt_mul, ← Int64.ofInt_neg, pL_I, q_mx, q_mn, q_ab, q_abL, q_mnL, q_nn0, q_nn1, q_rr, q_b1, q_b0, q_T, q_F, q_iT, q_iF, q_d, q_in, q_wi, q_hC, q_hM, pT_i, pU_i, pS_i, pS_j, pS_0, Sum.elim_inl, Sum.elim_inr, if_pos, if_neg]
      · refine skip (fun z => pr z.2) ?_
        simp (disch := omega) only [f_X7_tryDriven_3, f_X7_tryDriven_52, rr, b2, c403, i807, c807, z8, Option.bind_some, qi, ql, qI_lt, qI_le, qI_eq, qI_L, qI_ix, qL_lt, qL_eq, q_nat, q_cs, ← Int32.ofInt_add, ← Int32.ofInt_sub, ← Int32.ofInt_mul, ← Int32.ofInt_neg, ← Int64.ofInt_add, ← Int64.ofInt_sub, ← Int64.ofInt_mul, ← Int64.ofInt_neg, pL_I, q_mx, q_mn, q_ab, q_abL, q_mnL, q_nn0, q_nn1, q_rr, q_b1, q_b0, q_T, q_F, q_iT, q_iF, q_d, q_in, q_wi, q_hC, q_hM, pT_i, pU_i, pS_i, pS_j, pS_0, Sum.elim_inl, Sum.elim_inr, if_pos, if_neg]
    · left
      have : y = kc := by omega
      subst this
      refine ⟨ρ, ?_, q, h3, h4, Z'⟩
      simp (disch := omega) only [f_X7_tryDriven_3, rr, b2, Option.bind_some, qi, ql, qI_lt, qI_le, qI_eq, qI_L, qI_ix, qL_lt, qL_eq, q_nat, q_cs, ← Int32.ofInt_add, ← Int32.ofInt_sub, ← Int32.ofInt_mul, ← Int32.ofInt_neg, ← Int64.ofInt_add, ← Int64.ofInt_sub, ← Int64.ofInt_mul, ← Int64.ofInt_neg, pL_I, q_mx, q_mn, q_ab, q_abL, q_mnL, q_nn0, q_nn1, q_rr, q_b1, q_b0, q_T, q_F, q_iT, q_iF, q_d, q_in, q_wi, q_hC, q_hM, pT_i, pU_i, pS_i, pS_j, pS_0, Sum.elim_inl, Sum.elim_inr, if_pos, if_neg]
  obtain ⟨τ, lp, O⟩ := key
  refine ⟨τ, ?_, O⟩
  simp (disch := omega) only [f_X7_tryDriven, lp, Option.bind_some, qi, ql, qI_lt, qI_le, qI_eq, qI_L, qI_ix, qL_lt, qL_eq, q_nat, q_cs, ← Int32.ofInt_add, ← Int32.ofInt_sub, ← Int32.ofInt_mul, ← Int32.ofInt_neg, ← Int64.ofInt_add, ← Int64.ofInt_sub, ← Int64.ofInt_mul, ← Int64.ofInt_neg, pL_I, q_mx, q_mn, q_ab, q_abL, q_mnL, q_nn0, q_nn1, q_rr, q_b1, q_b0, q_T, q_F, q_iT, q_iF, q_d, q_in, q_wi, q_hC, q_hM, pT_i, pU_i, pS_i, pS_j, pS_0, Sum.elim_inl, Sum.elim_inr, if_pos, if_neg]
