/-! ===== ORDERS: blocks, and all of the text ===== -/
theorem gB_of {n : Nat} {b : Nat → Int} {r f : Nat} (hA : gA n b r (f + 1)) (ihB : gB n b r f) : gB n b r (f + 1) := by
  intro d σ1 σ2 sT p e R s v4 hd hf h g cn0
  have g' : σ2.1 12 0 12 = Int32.ofInt 0 := g
  have En := (tk_ref h).2.2.2.2.2.2.2
  cases w : wq b sT p e 10 with
  | true =>
    rw [w] at En
    left
    refine ⟨σ1, σ2, sT, p, e, R, s, 0, rfl, am_loop_out ?_, h, g, by omega, fun z => absurd z.symm Bool.false_ne_true, fun _ => w, cn0, ⟨rfl, rfl⟩, qz.rf, qz.rf⟩
    simp (disch := omega) only [f_X12_readStep_203, g', En, Option.bind_some, qi, ql, qI_lt, qI_le, qI_eq, qI_L, qI_ix, qL_lt, qL_eq, q_nat, q_cs, ← Int32.ofInt_add, ← Int32.ofInt_sub, ← Int32.ofInt_mul, ← Int32.ofInt_neg, ← Int64.ofInt_add, ← Int64.ofInt_sub, ← Int64.ofInt_mul, ← Int64.ofInt_neg, pL_I, q_mx, q_mn, q_ab, q_abL, q_mnL, q_nn0, q_nn1, q_rr, q_b1, q_b0, q_T, q_F, q_iT, q_iF, q_d, q_in, q_wi, q_hC, q_hM, pT_i, pU_i, pS_i, pS_j, pS_0, Sum.elim_inl, Sum.elim_inr, if_pos, if_neg]
  | false =>
    rw [w] at En
    have ed : Int32.ofInt (d : Int) + 1 = Int32.ofInt ((d + 1 : Nat) : Int) := by
      rw [qi, ← Int32.ofInt_add]
      rfl
    have x1 : σ2.1 12 0 12 = 0 := g'
    have A := hA (d + 1) σ1 σ2 sT p e R s (by omega) hf h g cn0 (Or.inr (by omega)) (Or.inl w)
    rw [show 8 - (d + 1) = 7 - d by omega] at A
    rcases A with ⟨τ1, τ2, s2, p2, e2, R2, s3, m, a1, a2, a3, a4, a5, a6, a7, a8, a9, Z1, Z2⟩ | ⟨τ1, τ2, a1, a2, a3⟩
    · have st : f_X12_readStep_203 (f_X12_readStep (7 - d)) (Int32.ofInt (d : Int)) true v4 σ2 = some (.inl τ2) := by
        unfold f_X12_readStep_203
        rw [if_pos rfl, if_pos x1, En, Option.bind_some, if_neg Bool.false_ne_true, ed, a2]
        rfl
      rw [a1, am_loop_in (s' := τ2) st]
      have pp := a6 rfl
      have le := pg_seg_le _ _ _ _ _ _ a9
      rcases ihB d τ1 τ2 s2 p2 e2 R2 s3 v4 hd (by omega) a3 a4 a8 with ⟨κ1, κ2, s4, p4, e4, R4, s5, m', b1, b2, b3, b4, b5, b6, b7, b8, b9, Y1, Y2⟩ | ⟨κ1, κ2, b1, b2, b3, Y1, Y2⟩
      · left
        refine ⟨κ1, κ2, s4, p4, e4, R4, s5, m + m', b1, b2, b3, b4, by omega, fun z => absurd z.symm Bool.false_ne_true, b7, b8, ?_, Z1.tr (Y1.mo (fun _ _ _ => zR_m (by omega) (by omega))), Z2.tr (Y2.mo (fun _ _ _ => zS_m (by omega)))⟩
        refine pg_seg_app _ _ _ _ _ _ _ _ _ (pg_seg_c _ _ _ _ _ _ a9 (fun i j1 j2 => ?_) (fun i j1 j2 => ?_)) b9
        · obtain ⟨k1, k2, k3, k4⟩ := zR_k (r := r) (R := R2) (dp := d + 1) (j := i) j2
          exact ⟨(Y1 500 r i k1).1, (Y1 501 r i k2).1, (Y1 502 r i k3).1, (Y1 503 r i k4).1⟩
        · obtain ⟨k1, k2, k3, k4⟩ := zS_k (s := s3) (j := i) j2
          exact ⟨(Y2 1372 0 i k1).1, (Y2 1373 0 i k2).1, (Y2 1374 0 i k3).1, (Y2 1375 0 i k4).1⟩
      · right
        exact ⟨κ1, κ2, b1, b2, b3, Z1.tr (Y1.mo (fun _ _ _ => zR_m (by omega) (by omega))), Z2.tr (Y2.mo (fun _ _ _ => zS_m (by omega)))⟩
    · right
      obtain ⟨⟨k, q, b3, b4⟩, Y1, Y2⟩ := a3
      have st : f_X12_readStep_203 (f_X12_readStep (7 - d)) (Int32.ofInt (d : Int)) true v4 σ2 = some (.inl τ2) := by
        unfold f_X12_readStep_203
        rw [if_pos rfl, if_pos x1, En, Option.bind_some, if_neg Bool.false_ne_true, ed, a2]
        rfl
      have kk := b4.1
      have b12 := b4.2.1
      refine ⟨τ1, τ2, a1, (am_loop_in (s' := τ2) st).trans (am_loop_out ?_), ⟨k, q, b3, b4⟩, Y1, Y2⟩
      simp (disch := omega) only [f_X12_readStep_203, b12, Option.bind_some, qi, ql, qI_lt, qI_le, qI_eq, qI_L, qI_ix, qL_lt, qL_eq, q_nat, q_cs, ← Int32.ofInt_add, ← Int32.ofInt_sub, ← Int32.ofInt_mul, ← Int32.ofInt_neg, ← Int64.ofInt_add, ← Int64.ofInt_sub, ← Int64.ofInt_mul, ← Int64.ofInt_neg, pL_I, q_mx, q_mn, q_ab, q_abL, q_mnL, q_nn0, q_nn1, q_rr, q_b1, q_b0, q_T, q_F, q_iT, q_iF, q_d, q_in, q_wi, q_hC, q_hM, pT_i, pU_i, pS_i, pS_j, pS_0, Sum.elim_inl, Sum.elim_inr, if_pos, if_neg]
theorem gAB {n : Nat} {b : Nat → Int} {r : Nat} : ∀ f, gA n b r f ∧ gB n b r f := by
  intro f
  induction f with
  | zero =>
    refine ⟨fun d σ1 σ2 sT p e R s _ hf h => ?_, fun d σ1 σ2 sT p e R s v4 _ hf h => ?_⟩
    · have := h.2.2.2.2.1
      omega
    · have := h.2.2.2.2.1
      omega
  | succ f ih =>
    have hA := gA_of ih.2
    exact ⟨hA, gB_of hA ih.2⟩
/-- all of the text -/
theorem go_all {n : Nat} {b : Nat → Int} {r : Nat} : ∀ (f : Nat) (σ1 σ2 : am_H) (sT p e R s : Nat), n < p + f → tk σ1 σ2 n b sT p e → gd σ2 → cn σ1 σ2 r R s 0 → (∃ (τ1 τ2 : am_H) (R' s' m : Nat), ocC r (Int32.ofInt (R : Int)) σ1 = some (true, τ1) ∧ am_loop (fun t : am_H => f_X12_orders_64 t) σ2 = some τ2 ∧ gd τ2 ∧ gF τ1 ∧ cn τ1 τ2 r R' s' 0 ∧ sgm τ1 τ2 r m 3 s s' R R' ∧ qz (zR r R 0) σ1 τ1 ∧ qz (zS s) σ2 τ2) ∨ (∃ τ1 τ2 : am_H, ocC r (Int32.ofInt (R : Int)) σ1 = some (false, τ1) ∧ am_loop (fun t : am_H => f_X12_orders_64 t) σ2 = some τ2 ∧ oN (zR r R 0) (zS s) σ1 σ2 τ1 τ2) := by
  intro f
  induction f with
  | zero =>
    intro σ1 σ2 sT p e R s hf h
    have := h.2.2.2.2.1
    omega
  | succ f ih =>
    intro σ1 σ2 sT p e R s hf h g cn0
    have g' : σ2.1 12 0 12 = Int32.ofInt 0 := g
    have k3 := h.2.2.1.1
    have m14 := h.2.2.2.1.1
    have s4 := h.2.2.2.2.2.1
    obtain ⟨c4, c5, c7, n55, i1, i2⟩ := id cn0
    by_cases s0 : sT = 0
    · left
      have ae : f_X5_isAtEnd σ1 = some true := by simp (disch := omega) only [f_X5_isAtEnd, k3, Option.bind_some, qi, ql, qI_lt, qI_le, qI_eq, qI_L, qI_ix, qL_lt, qL_eq, q_nat, q_cs, ← Int32.ofInt_add, ← Int32.ofInt_sub, ← Int32.ofInt_mul, ← Int32.ofInt_neg, ← Int64.ofInt_add, ← Int64.ofInt_sub, ← Int64.ofInt_mul, ← Int64.ofInt_neg, pL_I, q_mx, q_mn, q_ab, q_abL, q_mnL, q_nn0, q_nn1, q_rr, q_b1, q_b0, q_T, q_F, q_iT, q_iF, q_d, q_in, q_wi, q_hC, q_hM, pT_i, pU_i, pS_i, pS_j, pS_0, Sum.elim_inl, Sum.elim_inr, if_pos, if_neg]
      have lp : am_loop (fun s : Int32 × am_H => f_X4_readFrom_17 r s.1 s.2) (Int32.ofInt (R : Int), σ1) = some (.inl σ1) := am_loop_out (by simp (disch := omega) only [f_X4_readFrom_17, ae, Option.bind_some, qi, ql, qI_lt, qI_le, qI_eq, qI_L, qI_ix, qL_lt, qL_eq, q_nat, q_cs, ← Int32.ofInt_add, ← Int32.ofInt_sub, ← Int32.ofInt_mul, ← Int32.ofInt_neg, ← Int64.ofInt_add, ← Int64.ofInt_sub, ← Int64.ofInt_mul, ← Int64.ofInt_neg, pL_I, q_mx, q_mn, q_ab, q_abL, q_mnL, q_nn0, q_nn1, q_rr, q_b1, q_b0, q_T, q_F, q_iT, q_iF, q_d, q_in, q_wi, q_hC, q_hM, pT_i, pU_i, pS_i, pS_j, pS_0, Sum.elim_inl, Sum.elim_inr, if_pos, if_neg])
      have c7' : σ1.1 4 r 7 = 0 := c7
      refine ⟨σ1, σ2, R, s, 0, ?_, am_loop_out ?_, g, h.2.2.2.2.2.2.2.2.2.2, cn0, ⟨rfl, rfl⟩, qz.rf, qz.rf⟩
      · unfold ocC
        rw [lp, Option.bind_some]
        show (if σ1.1 4 r 7 = 0 then _ else _) = _
        rw [if_pos c7']
      · simp (disch := omega) only [f_X12_orders_64, g', m14, Option.bind_some, qi, ql, qI_lt, qI_le, qI_eq, qI_L, qI_ix, qL_lt, qL_eq, q_nat, q_cs, ← Int32.ofInt_add, ← Int32.ofInt_sub, ← Int32.ofInt_mul, ← Int32.ofInt_neg, ← Int64.ofInt_add, ← Int64.ofInt_sub, ← Int64.ofInt_mul, ← Int64.ofInt_neg, pL_I, q_mx, q_mn, q_ab, q_abL, q_mnL, q_nn0, q_nn1, q_rr, q_b1, q_b0, q_T, q_F, q_iT, q_iF, q_d, q_in, q_wi, q_hC, q_hM, pT_i, pU_i, pS_i, pS_j, pS_0, Sum.elim_inl, Sum.elim_inr, if_pos, if_neg]
    have A := (gAB (n := n) (b := b) (r := r) (f + 1)).1 0 σ1 σ2 sT p e R s (by omega) hf h g cn0 (Or.inl s0) (Or.inr rfl)
    have x1 : σ2.1 12 0 12 = 0 := g'
    have x2 : ¬ σ2.1 12 0 14 = 0 := by
      rw [m14, qi, qI_eq (by omega) (by omega) (by omega) (by omega)]
      omega
    rcases A with ⟨τ1, τ2, s2, p2, e2, R2, s3, m, a1, a2, a3, a4, a5, a6, a7, a8, a9, Z1, Z2⟩ | ⟨τ1, τ2, a1, a2, ⟨⟨k, q, b3, b4⟩, Y1, Y2⟩⟩
    · have a2' : f_X12_readStep 8 0 σ2 = some τ2 := a2
      have st : f_X12_orders_64 σ2 = some (.inl τ2) := by
        unfold f_X12_orders_64
        rw [if_pos x1, if_neg x2, a2']
        rfl
      rw [a1, am_loop_in (s' := τ2) st]
      have pp := a6 rfl
      have le := pg_seg_le _ _ _ _ _ _ a9
      rcases ih τ1 τ2 s2 p2 e2 R2 s3 (by omega) a3 a4 a8 with ⟨κ1, κ2, R4, s5, m', b1, b2, b3, b4, b8, b9, Y1, Y2⟩ | ⟨κ1, κ2, b1, b2, b3, Y1, Y2⟩
      · left
        refine ⟨κ1, κ2, R4, s5, m + m', b1, b2, b3, b4, b8, ?_, Z1.tr (Y1.mo (fun _ _ _ => zR_m (by omega) (by omega))), Z2.tr (Y2.mo (fun _ _ _ => zS_m (by omega)))⟩
        refine pg_seg_app _ _ _ _ _ _ _ _ _ (pg_seg_c _ _ _ _ _ _ a9 (fun i j1 j2 => ?_) (fun i j1 j2 => ?_)) b9
        · obtain ⟨k1, k2, k3, k4⟩ := zR_k (r := r) (R := R2) (dp := 0) (j := i) j2
          exact ⟨(Y1 500 r i k1).1, (Y1 501 r i k2).1, (Y1 502 r i k3).1, (Y1 503 r i k4).1⟩
        · obtain ⟨k1, k2, k3, k4⟩ := zS_k (s := s3) (j := i) j2
          exact ⟨(Y2 1372 0 i k1).1, (Y2 1373 0 i k2).1, (Y2 1374 0 i k3).1, (Y2 1375 0 i k4).1⟩
      · right
        exact ⟨κ1, κ2, b1, b2, b3, Z1.tr (Y1.mo (fun _ _ _ => zR_m (by omega) (by omega))), Z2.tr (Y2.mo (fun _ _ _ => zS_m (by omega)))⟩
    · right
      have a2' : f_X12_readStep 8 0 σ2 = some τ2 := a2
      have st : f_X12_orders_64 σ2 = some (.inl τ2) := by
        unfold f_X12_orders_64
        rw [if_pos x1, if_neg x2, a2']
        rfl
      have kk := b4.1
      have b12 := b4.2.1
      refine ⟨τ1, τ2, a1, (am_loop_in (s' := τ2) st).trans (am_loop_out ?_), ⟨k, q, b3, b4⟩, Y1, Y2⟩
      simp (disch := omega) only [f_X12_orders_64, b12, Option.bind_some, qi, ql, qI_lt, qI_le, qI_eq, qI_L, qI_ix, qL_lt, qL_eq, q_nat, q_cs, ← Int32.ofInt_add, ← Int32.ofInt_sub, ← Int32.ofInt_mul, ← Int32.ofInt_neg, ← Int64.ofInt_add, ← Int64.ofInt_sub, ← Int64.ofInt_mul, ← Int64.ofInt_neg, pL_I, q_mx, q_mn, q_ab, q_abL, q_mnL, q_nn0, q_nn1, q_rr, q_b1, q_b0, q_T, q_F, q_iT, q_iF, q_d, q_in, q_wi, q_hC, q_hM, pT_i, pU_i, pS_i, pS_j, pS_0, Sum.elim_inl, Sum.elim_inr, if_pos, if_neg]
