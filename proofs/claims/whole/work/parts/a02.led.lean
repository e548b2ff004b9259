/-! ===== LED ===== -/
def pu_e (Hf : Int → Int) (hs rd : Nat → Int) (j : Nat) : Int := if rd j = 1000 then 0 else (((rd j - (Hf (hs j)).tdiv 12).natAbs : Nat) : Int)
theorem pu_t12 {x : Int} (h1 : -12000 ≤ x) (h2 : x ≤ 12000) : -12000 ≤ x.tdiv 12 ∧ x.tdiv 12 ≤ 12000 := by
  have := Int.natAbs_tdiv_le_natAbs x 12
  omega
theorem pu_eb {Hf : Int → Int} {hs rd : Nat → Int} {j : Nat} (hH : -12000 ≤ Hf (hs j) ∧ Hf (hs j) ≤ 12000) (hr : -999 ≤ rd j ∧ rd j ≤ 1000) : 0 ≤ pu_e Hf hs rd j ∧ pu_e Hf hs rd j ≤ 13000 := by
  have := pu_t12 hH.1 hH.2
  unfold pu_e
  split <;> omega
theorem pu_ref {σ : am_H} {m th tr n : Nat} {hs rd : Nat → Int} {Hf : Int → Int} (hth : th < 5) (htr : tr < 5) (hn : n ≤ 24) (G : pg_M σ th tr n hs rd) (hh : ∀ j, j < n → f_X12_heightOf (Int32.ofInt m) (Int32.ofInt (hs j)) true σ = some (Int32.ofInt (Hf (hs j))) ∧ -12000 ≤ Hf (hs j) ∧ Hf (hs j) ≤ 12000) : f_X12_differsTurned (Int32.ofInt m) (Int32.ofInt th) (Int32.ofInt tr) (Int32.ofInt n) σ = some (Int64.ofInt (ps_sum (pu_e Hf hs rd) n)) := by
  have lp := am_loop_n (body := fun t : Int64 × Int32 => f_X12_differsTurned_6 (Int32.ofInt m) (Int32.ofInt th) (Int32.ofInt tr) (Int32.ofInt n) t.1 t.2 σ) (fun i => (Int64.ofInt (ps_sum (pu_e Hf hs rd) i), Int32.ofInt i)) n (r := Int64.ofInt (ps_sum (pu_e Hf hs rd) n)) ?_ ?_
  · have lp' : am_loop (fun t : Int64 × Int32 => f_X12_differsTurned_6 (Int32.ofInt m) (Int32.ofInt th) (Int32.ofInt tr) (Int32.ofInt n) t.1 t.2 σ) (Int64.ofInt 0, Int32.ofInt 0) = _ := lp
    simp (disch := omega) only [f_X12_differsTurned, lp', Option.bind_some, qi, ql, qI_lt, qI_le, qI_eq, qI_L, qI_ix, qL_lt, qL_eq, q_nat, q_cs, ← Int32.ofInt_add, ← Int32.ofInt_sub, ← Int32.ofInt_mul, ← Int32.ofInt_neg, ← Int64.ofInt_add, ← Int64.ofInt_sub, ← Int64.ofInt_mul, ← Int64.ofInt_neg, pL_I, q_mx, q_mn, q_ab, q_abL, q_mnL, q_nn0, q_nn1, q_rr, q_b1, q_b0, q_T, q_F, q_iT, q_iF, q_d, q_in, q_wi, q_hC, q_hM, pT_i, pU_i, pS_i, pS_j, pS_0, Sum.elim_inl, Sum.elim_inr, if_pos, if_neg]
  · intro i hi
    obtain ⟨q1, q2, q3, q4⟩ := G i hi
    have n1 := pg_num hth (by omega : i < 60) q1
    have n2 := pg_num htr (by omega : i < 60) q2
    obtain ⟨h1, h2, h3⟩ := hh i hi
    have b := pu_t12 h2 h3
    show _ = some (Sum.inl (Int64.ofInt (ps_sum (pu_e Hf hs rd) i + (if rd i = 1000 then 0 else (((rd i - (Hf (hs i)).tdiv 12).natAbs : Nat) : Int))), Int32.ofInt ((i + 1 : Nat) : Int)))
    by_cases cg : rd i = 1000
    · rw [if_pos cg]
      simp (disch := omega) only [f_X12_differsTurned_6, n2, Int.add_zero, Option.bind_some, qi, ql, qI_lt, qI_le, qI_eq, qI_L, qI_ix, qL_lt, qL_eq, q_nat, q_cs, ← Int32.ofInt_add, ← Int32.ofInt_sub, ← Int32.ofInt_mul, ← Int32.ofInt_neg, ← Int64.ofInt_add, ← Int64.ofInt_sub, ← Int64.ofInt_mul, ← Int64.ofInt_neg, pL_I, q_mx, q_mn, q_ab, q_abL, q_mnL, q_nn0, q_nn1, q_rr, q_b1, q_b0, q_T, q_F, q_iT, q_iF, q_d, q_in, q_wi, q_hC, q_hM, pT_i, pU_i, pS_i, pS_j, pS_0, Sum.elim_inl, Sum.elim_inr, if_pos, if_neg]
    · rw [if_neg cg]
      simp (disch := omega) only [f_X12_differsTurned_6, f_X12_hourOf, n1, n2, h1, qI_div, Option.bind_some, qi, ql, qI_lt, qI_le, qI_eq, qI_L, qI_ix, qL_lt, qL_eq, q_nat, q_cs, ← Int32.ofInt_add, ← Int32.ofInt_sub, ← Int32.ofInt_mul, ← Int32.ofInt_neg, ← Int64.ofInt_add, ← Int64.ofInt_sub, ← Int64.ofInt_mul, ← Int64.ofInt_neg, pL_I, q_mx, q_mn, q_ab, q_abL, q_mnL, q_nn0, q_nn1, q_rr, q_b1, q_b0, q_T, q_F, q_iT, q_iF, q_d, q_in, q_wi, q_hC, q_hM, pT_i, pU_i, pS_i, pS_j, pS_0, Sum.elim_inl, Sum.elim_inr, if_pos, if_neg]
  · simp (disch := omega) only [f_X12_differsTurned_6, Option.bind_some, qi, ql, qI_lt, qI_le, qI_eq, qI_L, qI_ix, qL_lt, qL_eq, q_nat, q_cs, ← Int32.ofInt_add, ← Int32.ofInt_sub, ← Int32.ofInt_mul, ← Int32.ofInt_neg, ← Int64.ofInt_add, ← Int64.ofInt_sub, ← Int64.ofInt_mul, ← Int64.ofInt_neg, pL_I, q_mx, q_mn, q_ab, q_abL, q_mnL, q_nn0, q_nn1, q_rr, q_b1, q_b0, q_T, q_F, q_iT, q_iF, q_d, q_in, q_wi, q_hC, q_hM, pT_i, pU_i, pS_i, pS_j, pS_0, Sum.elim_inl, Sum.elim_inr, if_pos, if_neg]
/-- heights with wheel k of wave i having t teeth -/
def pu_H (ws : Nat → Nat → Int) (z : Int) (wc i k : Nat) (t h : Int) : Int := ph_sum (fun j => if j = i then pt_w (ws i) k t else ws j) z h true wc
theorem pu_Hb {ws : Nat → Nat → Int} {z h t : Int} {wc i k : Nat} (hz : 0 ≤ z ∧ z ≤ 99) (w6 : wc ≤ 6) (hw : ∀ i, i < wc → pw_ok (ws i)) (hi : i < wc) : -12000 ≤ pu_H ws z wc i k t h ∧ pu_H ws z wc i k t h ≤ 12000 := by
  have e := pt_sum (ws := ws) (z := z) (h := h) (b := true) (w := pt_w (ws i) k t) hi
  have b := ph_b (ws := ws) (z := z) (h := h) (b := true) (n := wc) hz hw
  have c1 := pc_b (pw_place (pt_w (ws i) k t) h true)
  have c2 := pc_b (pw_place (ws i) h true)
  obtain ⟨-, -, ⟨a1, a2⟩, -⟩ := hw i hi
  rw [pt_w_s (by omega)] at e
  have e1 : ws i 2 * pc_cos (pw_place (pt_w (ws i) k t) h true) ≤ ws i 2 * 12 := Int.mul_le_mul_of_nonneg_left c1.2 a1
  have e2 : ws i 2 * (-12) ≤ ws i 2 * pc_cos (pw_place (pt_w (ws i) k t) h true) := Int.mul_le_mul_of_nonneg_left c1.1 a1
  have e3 : ws i 2 * pc_cos (pw_place (ws i) h true) ≤ ws i 2 * 12 := Int.mul_le_mul_of_nonneg_left c2.2 a1
  have e4 : ws i 2 * (-12) ≤ ws i 2 * pc_cos (pw_place (ws i) h true) := Int.mul_le_mul_of_nonneg_left c2.1 a1
  unfold pu_H
  omega
def pu_l : List (Nat × Nat) := [(0, 3), (0, 9), (0, 10), (0, 11)]
theorem pu_try {σ : am_H} {a n wc i k : Nat} {ws : Nat → Nat → Int} {zr l t : Int} {hs rd : Nat → Int} {more : Bool} (hn : n ≤ 24) (ha : a < 3) (C : ph_C σ a wc ws zr) (G : pg_C σ 0 n hs rd) (hb : ∀ j, j < n → (0 ≤ hs j ∧ hs j ≤ 99999) ∧ (-999 ≤ rd j ∧ rd j ≤ 1000)) (hd : ∀ j, j < n → σ.1 100 0 j = Int32.ofInt (ph_sum ws (max zr 0) (hs j) true wc)) (hi : i < wc) (hk : (k : Int) < 2 * ws i 4) (ht : t = ws i (5 + k) + (if more = true then 1 else -1)) (t1 : 1 ≤ t) (t2 : t ≤ 1000) (h3 : σ.1 0 0 3 = Int32.ofInt l) (l0 : 0 ≤ l) (l1 : l ≤ 1000000) : f_X0_tryTooth (6 * a + i) 0 (Int32.ofInt i) (Int32.ofInt k) more σ = some (if ps_sum (pu_e (pu_H ws (max zr 0) wc i k t) hs rd) n < l then am_wI (am_wI (am_wI (am_wI σ 0 0 3 (Int32.ofInt (ps_sum (pu_e (pu_H ws (max zr 0) wc i k t) hs rd) n))) 0 0 9 (Int32.ofInt i)) 0 0 10 (Int32.ofInt k)) 0 0 11 (am_b more) else σ) := by
  obtain ⟨c1, c2, c3, ⟨c4, c4'⟩, c5⟩ := C
  have hw : ∀ i, i < wc → pw_ok (ws i) := fun i hi => (c5 i hi).1
  obtain ⟨ok, Cw⟩ := c5 i hi
  have k4 : 0 ≤ ws i 4 ∧ ws i 4 ≤ 2 := ok.2.2.2.2.1
  have k3 : 0 ≤ ws i 3 ∧ ws i 3 ≤ 23 := ok.2.2.2.1
  have k2 : 0 ≤ ws i 2 ∧ ws i 2 ≤ 99 := ok.2.2.1
  have tt := pw_toothed Cw (k := k) (by omega)
  obtain ⟨dr1, dr2⟩ := pt_dr ok Cw (k := k) (t := t) (by omega) t1 t2
  have ok' := pt_w_ok ok (k := k) t1 t2
  have pr := pt_pr ok'
  have q2 : σ.1 10 (6 * a + i) 3 = Int32.ofInt (ws i 2) := Cw.2.2.1
  have q3 : σ.1 10 (6 * a + i) 4 = Int32.ofInt (ws i 3) := Cw.2.2.2.1
  have g0 := G.1
  have Hb := fun h => pu_Hb (ws := ws) (z := max zr 0) (h := h) (t := t) (wc := wc) (i := i) (k := k) (by omega) c1 hw hi
  have vb := ps_b (f := pu_e (pu_H ws (max zr 0) wc i k t) hs rd) (n := n) (B := 13000) (fun j hj => pu_eb (Hb _) (hb j hj).2)
  have lp := am_loop_n (body := fun s : Int32 × Int32 => f_X0_tryTooth_45 (6 * a + i) 0 (Int32.ofInt i) (Int32.ofInt k) more (Int64.ofInt (pt_w (ws i) k t 5 * pt_w (ws i) k t 7)) (Int64.ofInt (pt_w (ws i) k t 6 * pt_w (ws i) k t 8)) s.1 s.2 σ) (fun j => (Int32.ofInt (ps_sum (pu_e (pu_H ws (max zr 0) wc i k t) hs rd) j), Int32.ofInt j)) n (r := Int32.ofInt (ps_sum (pu_e (pu_H ws (max zr 0) wc i k t) hs rd) n)) ?_ ?_
  · have lp' : am_loop (fun s : Int32 × Int32 => f_X0_tryTooth_45 (6 * a + i) 0 (Int32.ofInt i) (Int32.ofInt k) more (Int64.ofInt (pt_w (ws i) k t 5 * pt_w (ws i) k t 7)) (Int64.ofInt (pt_w (ws i) k t 6 * pt_w (ws i) k t 8)) s.1 s.2 σ) (Int32.ofInt 0, Int32.ofInt 0) = _ := lp
    generalize ps_sum (pu_e (pu_H ws (max zr 0) wc i k t) hs rd) n = V at lp' vb ⊢
    cases more with
    | true =>
      rw [if_pos rfl] at ht
      by_cases c : V < l
      · rw [if_pos c]
        simp (disch := omega) only [f_X0_tryTooth, f_X0_tryTooth_16, tt, ← ht, dr1, dr2, lp', h3, Option.bind_some, qi, ql, qI_lt, qI_le, qI_eq, qI_L, qI_ix, qL_lt, qL_eq, q_nat, q_cs, ← Int32.ofInt_add, ← Int32.ofInt_sub, ← Int32.ofInt_mul, ← Int32.ofInt_neg, ← Int64.ofInt_add, ← Int64.ofInt_sub, ← Int64.ofInt_mul, ← Int64.ofInt_neg, pL_I, q_mx, q_mn, q_ab, q_abL, q_mnL, q_nn0, q_nn1, q_rr, q_b1, q_b0, q_T, q_F, q_iT, q_iF, q_d, q_in, q_wi, q_hC, q_hM, pT_i, pU_i, pS_i, pS_j, pS_0, Sum.elim_inl, Sum.elim_inr, if_pos, if_neg]
      · rw [if_neg c]
        simp (disch := omega) only [f_X0_tryTooth, f_X0_tryTooth_16, tt, ← ht, dr1, dr2, lp', h3, Option.bind_some, qi, ql, qI_lt, qI_le, qI_eq, qI_L, qI_ix, qL_lt, qL_eq, q_nat, q_cs, ← Int32.ofInt_add, ← Int32.ofInt_sub, ← Int32.ofInt_mul, ← Int32.ofInt_neg, ← Int64.ofInt_add, ← Int64.ofInt_sub, ← Int64.ofInt_mul, ← Int64.ofInt_neg, pL_I, q_mx, q_mn, q_ab, q_abL, q_mnL, q_nn0, q_nn1, q_rr, q_b1, q_b0, q_T, q_F, q_iT, q_iF, q_d, q_in, q_wi, q_hC, q_hM, pT_i, pU_i, pS_i, pS_j, pS_0, Sum.elim_inl, Sum.elim_inr, if_pos, if_neg]
    | false =>
      rw [if_neg (by decide)] at ht
      by_cases c : V < l
      · rw [if_pos c]
        simp (disch := omega) only [f_X0_tryTooth, f_X0_tryTooth_16, tt, ← ht, dr1, dr2, lp', h3, Option.bind_some, qi, ql, qI_lt, qI_le, qI_eq, qI_L, qI_ix, qL_lt, qL_eq, q_nat, q_cs, ← Int32.ofInt_add, ← Int32.ofInt_sub, ← Int32.ofInt_mul, ← Int32.ofInt_neg, ← Int64.ofInt_add, ← Int64.ofInt_sub, ← Int64.ofInt_mul, ← Int64.ofInt_neg, pL_I, q_mx, q_mn, q_ab, q_abL, q_mnL, q_nn0, q_nn1, q_rr, q_b1, q_b0, q_T, q_F, q_iT, q_iF, q_d, q_in, q_wi, q_hC, q_hM, pT_i, pU_i, pS_i, pS_j, pS_0, Sum.elim_inl, Sum.elim_inr, if_pos, if_neg]
      · rw [if_neg c]
        simp (disch := omega) only [f_X0_tryTooth, f_X0_tryTooth_16, tt, ← ht, dr1, dr2, lp', h3, Option.bind_some, qi, ql, qI_lt, qI_le, qI_eq, qI_L, qI_ix, qL_lt, qL_eq, q_nat, q_cs, ← Int32.ofInt_add, ← Int32.ofInt_sub, ← Int32.ofInt_mul, ← Int32.ofInt_neg, ← Int64.ofInt_add, ← Int64.ofInt_sub, ← Int64.ofInt_mul, ← Int64.ofInt_neg, pL_I, q_mx, q_mn, q_ab, q_abL, q_mnL, q_nn0, q_nn1, q_rr, q_b1, q_b0, q_T, q_F, q_iT, q_iF, q_d, q_in, q_wi, q_hC, q_hM, pT_i, pU_i, pS_i, pS_j, pS_0, Sum.elim_inl, Sum.elim_inr, if_pos, if_neg]
  · intro j hj
    obtain ⟨gh, gr⟩ := G.2 j hj
    obtain ⟨⟨h0, h1⟩, hr⟩ := hb j hj
    have pl := pw_placeAt (b := true) ok Cw h0 (by omega)
    have pb := pw_place_b (b := true) ok h0 (by omega : hs j ≤ 200000)
    have ug := pt_ug ok' h0 h1
    have tg := pw_turnedGone (σ := σ) (h := hs j) (a := pt_w (ws i) k t 5 * pt_w (ws i) k t 7) (b := pt_w (ws i) k t 6 * pt_w (ws i) k t 8) (by omega) (by omega) (by omega) (by omega)
    have tg' : f_X10_turnedGone (Int64.ofInt (hs j)) (Int64.ofInt (pt_w (ws i) k t 5 * pt_w (ws i) k t 7)) (Int64.ofInt (pt_w (ws i) k t 6 * pt_w (ws i) k t 8)) σ = some (Int64.ofInt (pw_ug (pt_w (ws i) k t) (hs j))) := tg
    have dj := hd j hj
    have hx := Hb (hs j)
    have hx2 := pu_t12 hx.1 hx.2
    have eH : ph_sum ws (max zr 0) (hs j) true wc + ws i 2 * (pc_cos (ws i 3 + pw_ug (pt_w (ws i) k t) (hs j)) - pc_cos (pw_place (ws i) (hs j) true)) = pu_H ws (max zr 0) wc i k t (hs j) := by
      have e := pt_sum (ws := ws) (z := max zr 0) (h := hs j) (b := true) (w := pt_w (ws i) k t) hi
      have eP : pw_place (pt_w (ws i) k t) (hs j) true = (ws i 3 + pw_ug (pt_w (ws i) k t) (hs j)) % 24 := by
        unfold pw_place
        rw [if_pos ⟨rfl, by rw [pt_w_s (by omega)]; omega⟩, pt_w_s (by omega), Int.tmod_eq_emod_of_nonneg (by omega)]
      rw [pt_w_s (by omega), eP, pc_mod] at e
      unfold pu_H
      rw [e, Int.mul_sub]
    have b1 := pc_b (ws i 3 + pw_ug (pt_w (ws i) k t) (hs j))
    have b2 := pc_b (pw_place (ws i) (hs j) true)
    have ms := pd_miss (x := (pu_H ws (max zr 0) wc i k t (hs j)).tdiv 12) G hj hn hr (by omega)
    show _ = some (Sum.inl (Int32.ofInt (ps_sum (pu_e (pu_H ws (max zr 0) wc i k t) hs rd) j + (if rd j = 1000 then 0 else (((rd j - (pu_H ws (max zr 0) wc i k t (hs j)).tdiv 12).natAbs : Nat) : Int))), Int32.ofInt ((j + 1 : Nat) : Int)))
    simp (disch := omega) only [f_X0_tryTooth_45, g0, gh, pl, q_cos, tg', q3, dj, q2, eH, qI_div, ms, Option.bind_some, qi, ql, qI_lt, qI_le, qI_eq, qI_L, qI_ix, qL_lt, qL_eq, q_nat, q_cs, ← Int32.ofInt_add, ← Int32.ofInt_sub, ← Int32.ofInt_mul, ← Int32.ofInt_neg, ← Int64.ofInt_add, ← Int64.ofInt_sub, ← Int64.ofInt_mul, ← Int64.ofInt_neg, pL_I, q_mx, q_mn, q_ab, q_abL, q_mnL, q_nn0, q_nn1, q_rr, q_b1, q_b0, q_T, q_F, q_iT, q_iF, q_d, q_in, q_wi, q_hC, q_hM, pT_i, pU_i, pS_i, pS_j, pS_0, Sum.elim_inl, Sum.elim_inr, if_pos, if_neg]
  · simp (disch := omega) only [f_X0_tryTooth_45, g0, Option.bind_some, qi, ql, qI_lt, qI_le, qI_eq, qI_L, qI_ix, qL_lt, qL_eq, q_nat, q_cs, ← Int32.ofInt_add, ← Int32.ofInt_sub, ← Int32.ofInt_mul, ← Int32.ofInt_neg, ← Int64.ofInt_add, ← Int64.ofInt_sub, ← Int64.ofInt_mul, ← Int64.ofInt_neg, pL_I, q_mx, q_mn, q_ab, q_abL, q_mnL, q_nn0, q_nn1, q_rr, q_b1, q_b0, q_T, q_F, q_iT, q_iF, q_d, q_in, q_wi, q_hC, q_hM, pT_i, pU_i, pS_i, pS_j, pS_0, Sum.elim_inl, Sum.elim_inr, if_pos, if_neg]
/-- how both stand -/
def pu_S (ρ1 ρ2 : am_H) (l : Int) : Prop := ρ1.1 0 0 3 = Int32.ofInt l ∧ (0 ≤ l ∧ l ≤ 1000000) ∧ ∃ w : Int, ρ1.1 0 0 9 = Int32.ofInt w ∧ ρ2.1 12 0 42 = Int32.ofInt w ∧ (w = -1 ∨ ((0 ≤ w ∧ w ≤ 5) ∧ ρ1.1 0 0 10 = ρ2.1 12 0 35 ∧ ∃ b : Int, (0 ≤ b ∧ b ≤ 1) ∧ ρ1.1 0 0 11 = Int32.ofInt b ∧ ρ2.1 12 0 36 = Int32.ofInt b))
def pu_m : List (Nat × Nat) := [(12, 42), (12, 35), (12, 36)]
/-- one tooth more, or less, on both sides -/
theorem pu_step {ρ1 ρ2 : am_H} {m a th tr n wc i k : Nat} {ws : Nat → Nat → Int} {zr l t e : Int} {hs rd : Nat → Int} {more : Bool} (hm : m < 3) (ha : a < 3) (hth : th < 5) (htr : tr < 5) (hn : n ≤ 24) (C : ph_C ρ1 a wc ws zr) (M : ph_M ρ2 m wc ws (max zr 0)) (G : pg_C ρ1 0 n hs rd) (GM : pg_M ρ2 th tr n hs rd) (hd : ∀ j, j < n → ρ1.1 100 0 j = Int32.ofInt (ph_sum ws (max zr 0) (hs j) true wc)) (hi : i < wc) (hk : (k : Int) < 2 * ws i 4) (he : e = if more = true then 1 else -1) (ht : t = ws i (5 + k) + e) (tr5 : 5 ≤ ws i (5 + k)) (S : pu_S ρ1 ρ2 l) : ∃ (ρ1' ρ2' : am_H) (l' : Int), f_X0_tryTooth (6 * a + i) 0 (Int32.ofInt i) (Int32.ofInt k) more ρ1 = some ρ1' ∧ f_X12_led_79 (Int32.ofInt m) (Int32.ofInt th) (Int32.ofInt tr) (Int32.ofInt n) (Int64.ofInt l) (Int32.ofInt i) (Int32.ofInt k) (Int32.ofInt e) ρ2 = some (.inl (Int64.ofInt l', Int32.ofInt (e + -2), ρ2')) ∧ qf pu_l ρ1 ρ1' ∧ qf pu_m ρ2 ρ2' ∧ pu_S ρ1' ρ2' l' := by
  have hb : ∀ j, j < n → (0 ≤ hs j ∧ hs j ≤ 99999) ∧ (-999 ≤ rd j ∧ rd j ≤ 1000) := fun j hj => (GM j hj).2.2
  obtain ⟨s3, ⟨l0, l1⟩, w, s9, s42, sw⟩ := S
  obtain ⟨d1, d2, d3, d4, d5⟩ := id M
  obtain ⟨ok, Mw⟩ := d5 i hi
  have k4 : 0 ≤ ws i 4 ∧ ws i 4 ≤ 2 := ok.2.2.2.2.1
  have k3 : 0 ≤ ws i 3 ∧ ws i 3 ≤ 23 := ok.2.2.2.1
  have tb : ws i (5 + k) ≤ 200 := by
    obtain ⟨-, -, -, -, -, ⟨a1, a2⟩, ⟨b1, b2⟩, ⟨c1, c2⟩, ⟨d1, d2⟩⟩ := ok
    rcases (by omega : k = 0 ∨ k = 1 ∨ k = 2 ∨ k = 3) with rfl | rfl | rfl | rfl
    · exact a2
    · exact b2
    · exact c2
    · exact d2
  have eb : -1 ≤ e ∧ e ≤ 1 := by rw [he]; split <;> omega
  have T := pu_try (more := more) (t := t) hn ha C G hb hd hi hk (by rw [ht, he]) (by omega) (by omega) s3 l0 l1
  have hw : ∀ i, i < wc → pw_ok (ws i) := fun i hi => (d5 i hi).1
  have Hb := fun h => pu_Hb (ws := ws) (z := max zr 0) (h := h) (t := t) (wc := wc) (i := i) (k := k) d4 d1 hw hi
  have vb := ps_b (f := pu_e (pu_H ws (max zr 0) wc i k t) hs rd) (n := n) (B := 13000) (fun j hj => pu_eb (Hb _) (hb j hj).2)
  have ok' := pt_w_ok ok (k := k) (t := t) (by omega) (by omega)
  have cell : ρ2.1 1324 0 (54 * m + 9 * i + (5 + k)) = Int32.ofInt (ws i (5 + k)) := Mw (5 + k) (by omega)
  have ex : (54 * (m : Int) + 9 * i + (5 + k)).toNat = 54 * m + 9 * i + (5 + k) := by omega
  have R := pu_ref (m := m) (σ := am_wI ρ2 1324 0 (54 * m + 9 * i + (5 + k)) (Int32.ofInt t)) (Hf := pu_H ws (max zr 0) wc i k t) hth htr hn GM (fun j hj => by
    obtain ⟨⟨h0, h1⟩, -⟩ := hb j hj
    refine ⟨?_, Hb (hs j)⟩
    refine pt_height (ws := fun x => if x = i then pt_w (ws i) k t else ws x) hm d1 d2 d3 (fun x hx => ?_)
    by_cases cx : x = i
    · subst cx
      simp only [if_true]
      have Mx := pt_M (t := t) Mw (by omega : k < 4)
      have P := pt_place (h := hs j) Mx hm (by omega) (by rw [pt_w_s (by omega)]; omega) (by rw [pt_w_s (by omega)]; exact k3) ok' h0 h1
      refine ⟨P.1, P.2, ?_⟩
      have := (pm_o Mx hm (by omega)).2.2.1
      exact this
    · simp only [if_neg cx]
      have Mx := pt_Mn (v := Int32.ofInt t) (m := m) (i := i) (k := k) (d5 x hx).2 (by omega) (by omega) (by omega) (Or.inr cx)
      exact ⟨pm_placeOf (d5 x hx).1 Mx hm (by omega) h0 (by omega), pw_place_b (d5 x hx).1 h0 (by omega), (pm_o Mx hm (by omega)).2.2.1⟩)
  have back : am_wI (am_wI ρ2 1324 0 (54 * m + 9 * i + (5 + k)) (Int32.ofInt t)) 1324 0 (54 * m + 9 * i + (5 + k)) (Int32.ofInt (t - e)) = ρ2 := by
    rw [q_ww, show t - e = ws i (5 + k) by omega]
    exact q_wid cell
  have rd1 : (am_wI ρ2 1324 0 (54 * m + 9 * i + (5 + k)) (Int32.ofInt t)).1 1324 0 (54 * m + 9 * i + (5 + k)) = Int32.ofInt t := by simp [am_wI, am_u3]
  generalize ps_sum (pu_e (pu_H ws (max zr 0) wc i k t) hs rd) n = V at T vb R
  by_cases c : V < l
  · rw [if_pos c] at T
    cases more with
    | true =>
      rw [if_pos rfl] at he
      subst he
      refine ⟨_, am_wI (am_wI (am_wI ρ2 12 0 42 (Int32.ofInt i)) 12 0 35 (Int32.ofInt k)) 12 0 36 (Int32.ofInt 1), V, T, ?_, (((qf.rf.wI rfl).wI rfl).wI rfl).wI rfl, ((qf.rf.wI rfl).wI rfl).wI rfl, rfl, by omega, i, rfl, rfl, Or.inr ⟨by omega, rfl, 1, by omega, rfl, rfl⟩⟩
      simp (disch := omega) only [f_X12_led_79, f_X12_led_176, f_X12_cell, ex, cell, ← ht, R, rd1, back, Option.bind_some, qi, ql, qI_lt, qI_le, qI_eq, qI_L, qI_ix, qL_lt, qL_eq, q_nat, q_cs, ← Int32.ofInt_add, ← Int32.ofInt_sub, ← Int32.ofInt_mul, ← Int32.ofInt_neg, ← Int64.ofInt_add, ← Int64.ofInt_sub, ← Int64.ofInt_mul, ← Int64.ofInt_neg, pL_I, q_mx, q_mn, q_ab, q_abL, q_mnL, q_nn0, q_nn1, q_rr, q_b1, q_b0, q_T, q_F, q_iT, q_iF, q_d, q_in, q_wi, q_hC, q_hM, pT_i, pU_i, pS_i, pS_j, pS_0, Sum.elim_inl, Sum.elim_inr, if_pos, if_neg]
    | false =>
      rw [if_neg (by decide)] at he
      subst he
      refine ⟨_, am_wI (am_wI (am_wI ρ2 12 0 42 (Int32.ofInt i)) 12 0 35 (Int32.ofInt k)) 12 0 36 (Int32.ofInt 0), V, T, ?_, (((qf.rf.wI rfl).wI rfl).wI rfl).wI rfl, ((qf.rf.wI rfl).wI rfl).wI rfl, rfl, by omega, i, rfl, rfl, Or.inr ⟨by omega, rfl, 0, by omega, rfl, rfl⟩⟩
      simp (disch := omega) only [f_X12_led_79, f_X12_led_176, f_X12_cell, ex, cell, ← ht, R, rd1, back, Option.bind_some, qi, ql, qI_lt, qI_le, qI_eq, qI_L, qI_ix, qL_lt, qL_eq, q_nat, q_cs, ← Int32.ofInt_add, ← Int32.ofInt_sub, ← Int32.ofInt_mul, ← Int32.ofInt_neg, ← Int64.ofInt_add, ← Int64.ofInt_sub, ← Int64.ofInt_mul, ← Int64.ofInt_neg, pL_I, q_mx, q_mn, q_ab, q_abL, q_mnL, q_nn0, q_nn1, q_rr, q_b1, q_b0, q_T, q_F, q_iT, q_iF, q_d, q_in, q_wi, q_hC, q_hM, pT_i, pU_i, pS_i, pS_j, pS_0, Sum.elim_inl, Sum.elim_inr, if_pos, if_neg]
  · rw [if_neg c] at T
    refine ⟨_, ρ2, l, T, ?_, qf.rf, qf.rf, s3, ⟨l0, l1⟩, w, s9, s42, sw⟩
    simp (disch := omega) only [f_X12_led_79, f_X12_cell, ex, cell, ← ht, R, rd1, back, Option.bind_some, qi, ql, qI_lt, qI_le, qI_eq, qI_L, qI_ix, qL_lt, qL_eq, q_nat, q_cs, ← Int32.ofInt_add, ← Int32.ofInt_sub, ← Int32.ofInt_mul, ← Int32.ofInt_neg, ← Int64.ofInt_add, ← Int64.ofInt_sub, ← Int64.ofInt_mul, ← Int64.ofInt_neg, pL_I, q_mx, q_mn, q_ab, q_abL, q_mnL, q_nn0, q_nn1, q_rr, q_b1, q_b0, q_T, q_F, q_iT, q_iF, q_d, q_in, q_wi, q_hC, q_hM, pT_i, pU_i, pS_i, pS_j, pS_0, Sum.elim_inl, Sum.elim_inr, if_pos, if_neg]
