/-! ===== OBEYED: rows, ENDs and the stop ===== -/
/-- the class from here on: c ENDs are behind it, n STEPS are done -/
noncomputable def ob_run (n c : Int) (ρ : am_H) : Option am_H := (am_loop (fun s : Int32 × am_H => f_X9_passEnds_2 s.1 s.2) (Int32.ofInt c, ρ)).bind fun σ => am_loop (fun s : Int32 × am_H => f_X9_goThrough_52 s.1 s.2) (Int32.ofInt n, σ)
theorem ob_nb {α β : Type} (f : α → Option β) : (none : Option α).bind f = none := rfl
/-- what stands by: machine, program and the STEPS of both -/
def ob_Y (m a p wc R : Nat) (ws : Nat → Nat → Int) (zr : Int) (G : Nat → Nat → Int32) (ρ1 ρ2 : am_H) : Prop := ob_E ρ1 ρ2 m a p wc R ws zr ∧ (ρ1.1 500 p = G 0 ∧ ρ1.1 501 p = G 1 ∧ ρ1.1 502 p = G 2 ∧ ρ1.1 503 p = G 3) ∧ (ρ2.1 1368 0 = G 4 ∧ ρ2.1 1369 0 = G 5 ∧ ρ2.1 1370 0 = G 6 ∧ ρ2.1 1371 0 = G 7)
theorem ob_Yq {m a p wc R : Nat} {ws : Nat → Nat → Int} {zr : Int} {G : Nat → Nat → Int32} {ρ1 ρ2 ρ1' ρ2' : am_H} (Y : ob_Y m a p wc R ws zr G ρ1 ρ2) (q1 : qf ob_lC ρ1 ρ1') (q2 : qf ob_lM ρ2 ρ2') : ob_Y m a p wc R ws zr G ρ1' ρ2' := by
  obtain ⟨E, ⟨g0, g1, g2, g3⟩, ⟨g4, g5, g6, g7⟩⟩ := Y
  refine ⟨ob_Eq E q1 q2, ⟨?_, ?_, ?_, ?_⟩, ⟨?_, ?_, ?_, ?_⟩⟩
  · rw [← g0]; exact funext fun j => (q1 500 p j rfl).1
  · rw [← g1]; exact funext fun j => (q1 501 p j rfl).1
  · rw [← g2]; exact funext fun j => (q1 502 p j rfl).1
  · rw [← g3]; exact funext fun j => (q1 503 p j rfl).1
  · rw [← g4]; exact funext fun j => (q2 1368 0 j rfl).1
  · rw [← g5]; exact funext fun j => (q2 1369 0 j rfl).1
  · rw [← g6]; exact funext fun j => (q2 1370 0 j rfl).1
  · rw [← g7]; exact funext fun j => (q2 1371 0 j rfl).1
/-- no END here -/
theorem ob_pe {ρ : am_H} {p R r : Nat} {c : Int} (r0 : ρ.2.2 9 0 0 = some p) (hp : p < 2) (hR : R ≤ 80) (e4 : ρ.1 4 p 4 = Int32.ofInt R) (e2 : ρ.1 9 0 2 = Int32.ofInt r) (hr : r ≤ R) (hd : r < R → ∃ kd : Nat, kd < 6 ∧ ρ.1 500 p r = Int32.ofInt kd) (c0 : 0 ≤ c) (c1 : c < 1000) : am_loop (fun s : Int32 × am_H => f_X9_passEnds_2 s.1 s.2) (Int32.ofInt c, ρ) = some ρ := by
  apply am_loop_out
  have rr : am_rr 2 (ρ.2.2 9 0 0) = some p := by rw [r0]; exact q_rr hp
  by_cases k : r < R
  · obtain ⟨kd, hk, hd⟩ := hd k
    simp (disch := omega) only [f_X9_passEnds_2, rr, e2, e4, hd, Option.bind_some, qi, ql, qI_lt, qI_le, qI_eq, qI_L, qI_ix, qL_lt, qL_eq, q_nat, q_cs, ← Int32.ofInt_add, ← Int32.ofInt_sub, ← Int32.ofInt_mul, ← Int32.ofInt_neg, ← Int64.ofInt_add, ← Int64.ofInt_sub, ← Int64.ofInt_mul, ← Int64.ofInt_neg, pL_I, q_mx, q_mn, q_ab, q_abL, q_mnL, q_nn0, q_nn1, q_rr, q_b1, q_b0, q_T, q_F, q_iT, q_iF, q_d, q_in, q_wi, q_hC, q_hM, pT_i, pU_i, pS_i, pS_j, pS_0, Sum.elim_inl, Sum.elim_inr, if_pos, if_neg]
  · simp (disch := omega) only [f_X9_passEnds_2, rr, e2, e4, Option.bind_some, qi, ql, qI_lt, qI_le, qI_eq, qI_L, qI_ix, qL_lt, qL_eq, q_nat, q_cs, ← Int32.ofInt_add, ← Int32.ofInt_sub, ← Int32.ofInt_mul, ← Int32.ofInt_neg, ← Int64.ofInt_add, ← Int64.ofInt_sub, ← Int64.ofInt_mul, ← Int64.ofInt_neg, pL_I, q_mx, q_mn, q_ab, q_abL, q_mnL, q_nn0, q_nn1, q_rr, q_b1, q_b0, q_T, q_F, q_iT, q_iF, q_d, q_in, q_wi, q_hC, q_hM, pT_i, pU_i, pS_i, pS_j, pS_0, Sum.elim_inl, Sum.elim_inr, if_pos, if_neg]
/-- a row is done, the next is looked for -/
theorem ob_go1 {ρ1 ρ' : am_H} {p R r : Nat} {n c : Int} (PE : am_loop (fun s : Int32 × am_H => f_X9_passEnds_2 s.1 s.2) (Int32.ofInt c, ρ1) = some ρ1) (r0 : ρ1.2.2 9 0 0 = some p) (hp : p < 2) (hR : R ≤ 80) (e4 : ρ1.1 4 p 4 = Int32.ofInt R) (e2 : ρ1.1 9 0 2 = Int32.ofInt r) (hr : r < R) (x3 : ρ1.1 9 0 3 = Int32.ofInt 0) (x7 : ρ1.1 9 0 7 = Int32.ofInt n) (n0 : 0 ≤ n) (n1 : n < 200) (hs : f_X9_doStep (am_wI ρ1 9 0 7 (Int32.ofInt (n + 1))) = some ρ') : ob_run n c ρ1 = ob_run (n + 1) 0 ρ' := by
  have rr : am_rr 2 (ρ1.2.2 9 0 0) = some p := by rw [r0]; exact q_rr hp
  unfold ob_run
  rw [PE, Option.bind_some]
  cases w : am_loop (fun s : Int32 × am_H => f_X9_passEnds_2 s.1 s.2) (Int32.ofInt 0, ρ') with
  | none =>
    have b : f_X9_goThrough_52 (Int32.ofInt n) ρ1 = none := by
      simp (disch := omega) only [f_X9_goThrough_52, f_X9_passEnds, rr, x3, x7, e2, e4, hs, w, ob_nb, Option.bind_some, qi, ql, qI_lt, qI_le, qI_eq, qI_L, qI_ix, qL_lt, qL_eq, q_nat, q_cs, ← Int32.ofInt_add, ← Int32.ofInt_sub, ← Int32.ofInt_mul, ← Int32.ofInt_neg, ← Int64.ofInt_add, ← Int64.ofInt_sub, ← Int64.ofInt_mul, ← Int64.ofInt_neg, pL_I, q_mx, q_mn, q_ab, q_abL, q_mnL, q_nn0, q_nn1, q_rr, q_b1, q_b0, q_T, q_F, q_iT, q_iF, q_d, q_in, q_wi, q_hC, q_hM, pT_i, pU_i, pS_i, pS_j, pS_0, Sum.elim_inl, Sum.elim_inr, if_pos, if_neg]
    rw [am_loop_eq]
    simp only [b, ob_nb]
  | some p7 =>
    have b : f_X9_goThrough_52 (Int32.ofInt n) ρ1 = some (.inl (Int32.ofInt (n + 1), p7)) := by
      simp (disch := omega) only [f_X9_goThrough_52, f_X9_passEnds, rr, x3, x7, e2, e4, hs, w, Option.bind_some, qi, ql, qI_lt, qI_le, qI_eq, qI_L, qI_ix, qL_lt, qL_eq, q_nat, q_cs, ← Int32.ofInt_add, ← Int32.ofInt_sub, ← Int32.ofInt_mul, ← Int32.ofInt_neg, ← Int64.ofInt_add, ← Int64.ofInt_sub, ← Int64.ofInt_mul, ← Int64.ofInt_neg, pL_I, q_mx, q_mn, q_ab, q_abL, q_mnL, q_nn0, q_nn1, q_rr, q_b1, q_b0, q_T, q_F, q_iT, q_iF, q_d, q_in, q_wi, q_hC, q_hM, pT_i, pU_i, pS_i, pS_j, pS_0, Sum.elim_inl, Sum.elim_inr, if_pos, if_neg]
    rw [Option.bind_some]
    exact am_loop_in (body := fun s : Int32 × am_H => f_X9_goThrough_52 s.1 s.2) (s := (Int32.ofInt n, ρ1)) (s' := (Int32.ofInt (n + 1), p7)) b
/-- the class stops -/
theorem ob_go2 {ρ1 : am_H} {p R r : Nat} {n c o : Int} (PE : am_loop (fun s : Int32 × am_H => f_X9_passEnds_2 s.1 s.2) (Int32.ofInt c, ρ1) = some ρ1) (r0 : ρ1.2.2 9 0 0 = some p) (hp : p < 2) (hR : R ≤ 80) (e4 : ρ1.1 4 p 4 = Int32.ofInt R) (e2 : ρ1.1 9 0 2 = Int32.ofInt r) (hr : r ≤ R) (x3 : ρ1.1 9 0 3 = Int32.ofInt o) (o0 : 0 ≤ o ∧ o ≤ 1) (n0 : 0 ≤ n ∧ n ≤ 200) (hx : o = 1 ∨ n = 200 ∨ r = R) : ob_run n c ρ1 = some ρ1 := by
  have rr : am_rr 2 (ρ1.2.2 9 0 0) = some p := by rw [r0]; exact q_rr hp
  unfold ob_run
  rw [PE, Option.bind_some]
  apply am_loop_out
  by_cases k : n < 200
  · by_cases k' : o = 0
    · have x3' : ρ1.1 9 0 3 = Int32.ofInt 0 := by rw [x3, k']
      simp (disch := omega) only [f_X9_goThrough_52, rr, x3', e2, e4, Option.bind_some, qi, ql, qI_lt, qI_le, qI_eq, qI_L, qI_ix, qL_lt, qL_eq, q_nat, q_cs, ← Int32.ofInt_add, ← Int32.ofInt_sub, ← Int32.ofInt_mul, ← Int32.ofInt_neg, ← Int64.ofInt_add, ← Int64.ofInt_sub, ← Int64.ofInt_mul, ← Int64.ofInt_neg, pL_I, q_mx, q_mn, q_ab, q_abL, q_mnL, q_nn0, q_nn1, q_rr, q_b1, q_b0, q_T, q_F, q_iT, q_iF, q_d, q_in, q_wi, q_hC, q_hM, pT_i, pU_i, pS_i, pS_j, pS_0, Sum.elim_inl, Sum.elim_inr, if_pos, if_neg]
    · simp (disch := omega) only [f_X9_goThrough_52, rr, x3, Option.bind_some, qi, ql, qI_lt, qI_le, qI_eq, qI_L, qI_ix, qL_lt, qL_eq, q_nat, q_cs, ← Int32.ofInt_add, ← Int32.ofInt_sub, ← Int32.ofInt_mul, ← Int32.ofInt_neg, ← Int64.ofInt_add, ← Int64.ofInt_sub, ← Int64.ofInt_mul, ← Int64.ofInt_neg, pL_I, q_mx, q_mn, q_ab, q_abL, q_mnL, q_nn0, q_nn1, q_rr, q_b1, q_b0, q_T, q_F, q_iT, q_iF, q_d, q_in, q_wi, q_hC, q_hM, pT_i, pU_i, pS_i, pS_j, pS_0, Sum.elim_inl, Sum.elim_inr, if_pos, if_neg]
  · simp (disch := omega) only [f_X9_goThrough_52, Option.bind_some, qi, ql, qI_lt, qI_le, qI_eq, qI_L, qI_ix, qL_lt, qL_eq, q_nat, q_cs, ← Int32.ofInt_add, ← Int32.ofInt_sub, ← Int32.ofInt_mul, ← Int32.ofInt_neg, ← Int64.ofInt_add, ← Int64.ofInt_sub, ← Int64.ofInt_mul, ← Int64.ofInt_neg, pL_I, q_mx, q_mn, q_ab, q_abL, q_mnL, q_nn0, q_nn1, q_rr, q_b1, q_b0, q_T, q_F, q_iT, q_iF, q_d, q_in, q_wi, q_hC, q_hM, pT_i, pU_i, pS_i, pS_j, pS_0, Sum.elim_inl, Sum.elim_inr, if_pos, if_neg]
/-- an END is passed -/
theorem ob_end {ρ1 : am_H} {p R r q1 : Nat} {n c k : Int} (r0 : ρ1.2.2 9 0 0 = some p) (hp : p < 2) (hR : R ≤ 80) (e4 : ρ1.1 4 p 4 = Int32.ofInt R) (e2 : ρ1.1 9 0 2 = Int32.ofInt q1) (hq : q1 < R) (hr : r < R) (d6 : ρ1.1 500 p q1 = Int32.ofInt 6) (v6 : ρ1.1 503 p q1 = Int32.ofInt (r : Int)) (ek : ρ1.1 1004 0 r = Int32.ofInt k) (kb : 1 ≤ k ∧ k ≤ 9) (c0 : 0 ≤ c) (c1 : c < 1000) : ob_run n c ρ1 = ob_run n (c + 1) (am_wI (am_wI ρ1 1004 0 r (Int32.ofInt (k - 1))) 9 0 2 (Int32.ofInt (if 0 < k - 1 then (r : Int) + 1 else (q1 : Int) + 1))) := by
  have rr : am_rr 2 (ρ1.2.2 9 0 0) = some p := by rw [r0]; exact q_rr hp
  have b1 : ∀ v : Int32, (am_wI ρ1 1004 0 r v).1 1004 0 r = v := fun v => by rw [am_wI_r, if_pos ⟨rfl, rfl, rfl⟩]
  have b2 : ∀ v : Int32, (am_wI ρ1 1004 0 r v).1 9 0 2 = Int32.ofInt q1 := fun v => e2
  have b : f_X9_passEnds_2 (Int32.ofInt c) ρ1 = some (.inl (Int32.ofInt (c + 1), am_wI (am_wI ρ1 1004 0 r (Int32.ofInt (k - 1))) 9 0 2 (Int32.ofInt (if 0 < k - 1 then (r : Int) + 1 else (q1 : Int) + 1)))) := by
    by_cases kk : 0 < k - 1
    · rw [if_pos kk]
      simp (disch := omega) only [f_X9_passEnds_2, f_X9_passEnds_85, rr, e2, e4, d6, v6, ek, b1, Option.bind_some, qi, ql, qI_lt, qI_le, qI_eq, qI_L, qI_ix, qL_lt, qL_eq, q_nat, q_cs, ← Int32.ofInt_add, ← Int32.ofInt_sub, ← Int32.ofInt_mul, ← Int32.ofInt_neg, ← Int64.ofInt_add, ← Int64.ofInt_sub, ← Int64.ofInt_mul, ← Int64.ofInt_neg, pL_I, q_mx, q_mn, q_ab, q_abL, q_mnL, q_nn0, q_nn1, q_rr, q_b1, q_b0, q_T, q_F, q_iT, q_iF, q_d, q_in, q_wi, q_hC, q_hM, pT_i, pU_i, pS_i, pS_j, pS_0, Sum.elim_inl, Sum.elim_inr, if_pos, if_neg]
    · rw [if_neg kk]
      simp (disch := omega) only [f_X9_passEnds_2, f_X9_passEnds_85, rr, e2, e4, d6, v6, ek, b1, b2, Option.bind_some, qi, ql, qI_lt, qI_le, qI_eq, qI_L, qI_ix, qL_lt, qL_eq, q_nat, q_cs, ← Int32.ofInt_add, ← Int32.ofInt_sub, ← Int32.ofInt_mul, ← Int32.ofInt_neg, ← Int64.ofInt_add, ← Int64.ofInt_sub, ← Int64.ofInt_mul, ← Int64.ofInt_neg, pL_I, q_mx, q_mn, q_ab, q_abL, q_mnL, q_nn0, q_nn1, q_rr, q_b1, q_b0, q_T, q_F, q_iT, q_iF, q_d, q_in, q_wi, q_hC, q_hM, pT_i, pU_i, pS_i, pS_j, pS_0, Sum.elim_inl, Sum.elim_inr, if_pos, if_neg]
  unfold ob_run
  rw [am_loop_in (body := fun s : Int32 × am_H => f_X9_passEnds_2 s.1 s.2) (s := (Int32.ofInt c, ρ1)) (s' := (Int32.ofInt (c + 1), am_wI (am_wI ρ1 1004 0 r (Int32.ofInt (k - 1))) 9 0 2 (Int32.ofInt (if 0 < k - 1 then (r : Int) + 1 else (q1 : Int) + 1)))) b]
/-- STEPS that are left: the reference ends -/
theorem ob_l1 {rc : Int32 → Int32 → Int32 → am_H → Option am_H} {m e v : Int32} {ρ2 : am_H} (h : ρ2.1 12 0 58 = Int32.ofInt 1) : am_loop (fun x : Int32 × am_H => f_X12_obeyAll_3 rc m e x.1 x.2) (v, ρ2) = some ρ2 := by
  apply am_loop_out
  show f_X12_obeyAll_3 rc m e v ρ2 = _
  unfold f_X12_obeyAll_3
  by_cases k : v < e
  · rw [if_pos k, h, if_neg (by decide +kernel)]
  · rw [if_neg k]
theorem ob_l2 {rc : Int32 → Int32 → Int32 → am_H → Option am_H} {m v : Int32} {s : Nat} {ρ2 : am_H} (hs : s < 40) (h : ρ2.1 12 0 58 = Int32.ofInt 1) : am_loop (fun x : Int32 × am_H => f_X12_obeyOne_201 rc m (Int32.ofInt (s : Int)) x.1 x.2) (v, ρ2) = some ρ2 := by
  apply am_loop_out
  show f_X12_obeyOne_201 rc m (Int32.ofInt (s : Int)) v ρ2 = _
  have ix : am_ix 40 (Int32.ofInt (s : Int)) = some s := by
    rw [qI_ix (by omega) (by omega) (by omega), q_nat]
  unfold f_X12_obeyOne_201
  rw [ix, Option.bind_some]
  by_cases k : v < ρ2.1 1369 0 s
  · rw [if_pos k, h, if_neg (by decide +kernel)]
  · rw [if_neg k]
theorem ob_over {rc : Int32 → Int32 → Int32 → am_H → Option am_H} {m e s : Nat} {n o : Int} {ρ2 : am_H} (hs : s < e) (he : e ≤ 40) (e58 : ρ2.1 12 0 58 = Int32.ofInt 0) (x65 : ρ2.1 12 0 65 = Int32.ofInt o) (x56 : ρ2.1 12 0 56 = Int32.ofInt n) (o0 : 0 ≤ o ∧ o ≤ 1) (n0 : 0 ≤ n ∧ n ≤ 200) (hx : o = 1 ∨ n = 200) : am_loop (fun x : Int32 × am_H => f_X12_obeyAll_3 rc (Int32.ofInt (m : Int)) (Int32.ofInt (e : Int)) x.1 x.2) (Int32.ofInt (s : Int), ρ2) = some (am_wI ρ2 12 0 58 (Int32.ofInt 1)) := by
  have b : f_X12_obeyOne rc (Int32.ofInt (m : Int)) (Int32.ofInt (s : Int)) ρ2 = some (am_wI ρ2 12 0 58 (Int32.ofInt 1)) := by
    by_cases k : o = 0
    · have x65' : ρ2.1 12 0 65 = Int32.ofInt 0 := by rw [x65, k]
      have x56' : ρ2.1 12 0 56 = Int32.ofInt 200 := by rw [x56, show n = 200 by omega]
      simp (disch := omega) only [f_X12_obeyOne, f_X12_obeyOne_17, x65', x56', Option.bind_some, qi, ql, qI_lt, qI_le, qI_eq, qI_L, qI_ix, qL_lt, qL_eq, q_nat, q_cs, ← Int32.ofInt_add, ← Int32.ofInt_sub, ← Int32.ofInt_mul, ← Int32.ofInt_neg, ← Int64.ofInt_add, ← Int64.ofInt_sub, ← Int64.ofInt_mul, ← Int64.ofInt_neg, pL_I, q_mx, q_mn, q_ab, q_abL, q_mnL, q_nn0, q_nn1, q_rr, q_b1, q_b0, q_T, q_F, q_iT, q_iF, q_d, q_in, q_wi, q_hC, q_hM, pT_i, pU_i, pS_i, pS_j, pS_0, Sum.elim_inl, Sum.elim_inr, if_pos, if_neg]
    · simp (disch := omega) only [f_X12_obeyOne, f_X12_obeyOne_17, x65, Option.bind_some, qi, ql, qI_lt, qI_le, qI_eq, qI_L, qI_ix, qL_lt, qL_eq, q_nat, q_cs, ← Int32.ofInt_add, ← Int32.ofInt_sub, ← Int32.ofInt_mul, ← Int32.ofInt_neg, ← Int64.ofInt_add, ← Int64.ofInt_sub, ← Int64.ofInt_mul, ← Int64.ofInt_neg, pL_I, q_mx, q_mn, q_ab, q_abL, q_mnL, q_nn0, q_nn1, q_rr, q_b1, q_b0, q_T, q_F, q_iT, q_iF, q_d, q_in, q_wi, q_hC, q_hM, pT_i, pU_i, pS_i, pS_j, pS_0, Sum.elim_inl, Sum.elim_inr, if_pos, if_neg]
  have b' : f_X12_obeyAll_3 rc (Int32.ofInt (m : Int)) (Int32.ofInt (e : Int)) (Int32.ofInt (s : Int)) ρ2 = some (.inl ((am_wI ρ2 12 0 58 (Int32.ofInt 1)).1 1371 0 s, am_wI ρ2 12 0 58 (Int32.ofInt 1))) := by
    simp (disch := omega) only [f_X12_obeyAll_3, e58, b, Option.bind_some, qi, ql, qI_lt, qI_le, qI_eq, qI_L, qI_ix, qL_lt, qL_eq, q_nat, q_cs, ← Int32.ofInt_add, ← Int32.ofInt_sub, ← Int32.ofInt_mul, ← Int32.ofInt_neg, ← Int64.ofInt_add, ← Int64.ofInt_sub, ← Int64.ofInt_mul, ← Int64.ofInt_neg, pL_I, q_mx, q_mn, q_ab, q_abL, q_mnL, q_nn0, q_nn1, q_rr, q_b1, q_b0, q_T, q_F, q_iT, q_iF, q_d, q_in, q_wi, q_hC, q_hM, pT_i, pU_i, pS_i, pS_j, pS_0, Sum.elim_inl, Sum.elim_inr, if_pos, if_neg]
  rw [am_loop_in (body := fun x : Int32 × am_H => f_X12_obeyAll_3 rc (Int32.ofInt (m : Int)) (Int32.ofInt (e : Int)) x.1 x.2) (s := (Int32.ofInt (s : Int), ρ2)) (s' := ((am_wI ρ2 12 0 58 (Int32.ofInt 1)).1 1371 0 s, am_wI ρ2 12 0 58 (Int32.ofInt 1))) b']
  exact ob_l1 rfl
theorem ob_segB {D T U V S A L E : Nat → Int32} : ∀ n d s e r q : Nat, pg_seg D T U V S A L E n d s e r q → s ≤ e ∧ r ≤ q := by
  intro n
  induction n with
  | zero =>
    intro d s e r q h
    unfold pg_seg at h
    omega
  | succ n ih =>
    intro d s e r q h
    unfold pg_seg at h
    rcases h with ⟨h1, h2⟩ | ⟨kd, -, -, -, h⟩ | ⟨kd, d', e1, q1, -, -, -, -, h1, -, -, -, h2⟩
    · omega
    · have := ih _ _ _ _ _ h
      omega
    · have := ih _ _ _ _ _ h1
      have := ih _ _ _ _ _ h2
      omega
