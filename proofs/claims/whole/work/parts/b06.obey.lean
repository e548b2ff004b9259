/-! ===== OBEYED: the call ===== -/
def ob_i1 (σ : am_H) (p a : Nat) (y : Int) : am_H := am_wI (am_wL (am_wI (am_wI (am_wI (am_wI (am_wI (am_wR (am_wR σ 9 0 0 (some p)) 9 0 1 (some a)) 9 0 6 (Int32.ofInt y)) 9 0 2 0) 9 0 3 (am_b false)) 9 0 5 (am_b true)) 9 0 7 0) 9 0 8 0) 9 0 9 0
def ob_i2 (σ : am_H) (y : Int) : am_H := am_wI (am_wI (am_wI (am_wL (am_wI (am_wI (am_wI σ 12 0 57 (Int32.ofInt y)) 12 0 56 (Int32.ofInt 0)) 12 0 58 (Int32.ofInt 0)) 12 0 64 (Int64.ofInt 0)) 12 0 59 (Int32.ofInt 0)) 12 0 65 (Int32.ofInt 0)) 12 0 66 (Int32.ofInt 1)
def ob_lC2 : List (Nat × Nat) := [(11, 0), (9, 0), (9, 1), (9, 2), (9, 3), (9, 5), (9, 6), (9, 7), (9, 8), (9, 9), (9, 11), (1004, 999), (1010, 999)]
def ob_lM2 : List (Nat × Nat) := [(12, 56), (12, 57), (12, 58), (12, 59), (12, 64), (12, 65), (12, 66), (1376, 999)]
theorem ob_f1 {σ : am_H} {p a : Nat} {y : Int} : qf ob_lC2 σ (ob_i1 σ p a y) := ((((((((qf.rf.wR rfl).wR rfl).wI rfl).wI rfl).wI rfl).wI rfl).wI rfl).wL rfl).wI rfl
theorem ob_f2 {σ : am_H} {y : Int} : qf ob_lM2 σ (ob_i2 σ y) := ((((((qf.rf.wI rfl).wI rfl).wI rfl).wL rfl).wI rfl).wI rfl).wI rfl
theorem ob_thru {σ1 F : am_H} {p a R r' : Nat} {y lf : Int} (k : ob_run 0 0 (ob_i1 σ1 p a y) = some F) (hp : p < 2) (hR : R ≤ 80) (r0 : F.2.2 9 0 0 = some p) (e4 : F.1 4 p 4 = Int32.ofInt R) (e2 : F.1 9 0 2 = Int32.ofInt (r' : Int)) (hr : r' ≤ R) (hl : (lf = 1 ∧ r' < R) ∨ (lf = 0 ∧ r' = R)) : f_X9_goThrough p a (Int32.ofInt y) σ1 = some (am_wI F 9 0 11 (Int32.ofInt lf)) := by
  have rr : am_rr 2 (F.2.2 9 0 0) = some p := by rw [r0]; exact q_rr hp
  have e : f_X9_goThrough p a (Int32.ofInt y) σ1 = (f_X9_passEnds (ob_i1 σ1 p a y)).bind fun p10 => (am_loop (fun s : Int32 × am_H => f_X9_goThrough_52 s.1 s.2) (0, p10)).bind fun w11 => (am_rr 2 (w11.2.2 9 0 0)).bind fun a12 => if (w11.1 9 0 2) < (w11.1 4 a12 4) then f_X9_goThrough_125 true w11 else f_X9_goThrough_125 false w11 := rfl
  unfold ob_run at k
  cases w : am_loop (fun s : Int32 × am_H => f_X9_passEnds_2 s.1 s.2) (Int32.ofInt 0, ob_i1 σ1 p a y) with
  | none =>
    rw [w, ob_nb] at k
    cases k
  | some p10 =>
    rw [w, Option.bind_some] at k
    rw [e]
    rcases hl with ⟨rfl, l⟩ | ⟨rfl, l⟩
    · simp (disch := omega) only [f_X9_passEnds, w, k, rr, e2, e4, f_X9_goThrough_125, Option.bind_some, qi, ql, qI_lt, qI_le, qI_eq, qI_L, qI_ix, qL_lt, qL_eq, q_nat, q_cs, ← Int32.ofInt_add, ← Int32.ofInt_sub, ← Int32.ofInt_mul, ← Int32.ofInt_neg, ← Int64.ofInt_add, ← Int64.ofInt_sub, ← Int64.ofInt_mul, ← Int64.ofInt_neg, pL_I, q_mx, q_mn, q_ab, q_abL, q_mnL, q_nn0, q_nn1, q_rr, q_b1, q_b0, q_T, q_F, q_iT, q_iF, q_d, q_in, q_wi, q_hC, q_hM, pT_i, pU_i, pS_i, pS_j, pS_0, Sum.elim_inl, Sum.elim_inr, if_pos, if_neg]
    · simp (disch := omega) only [f_X9_passEnds, w, k, rr, e2, e4, f_X9_goThrough_125, Option.bind_some, qi, ql, qI_lt, qI_le, qI_eq, qI_L, qI_ix, qL_lt, qL_eq, q_nat, q_cs, ← Int32.ofInt_add, ← Int32.ofInt_sub, ← Int32.ofInt_mul, ← Int32.ofInt_neg, ← Int64.ofInt_add, ← Int64.ofInt_sub, ← Int64.ofInt_mul, ← Int64.ofInt_neg, pL_I, q_mx, q_mn, q_ab, q_abL, q_mnL, q_nn0, q_nn1, q_rr, q_b1, q_b0, q_T, q_F, q_iT, q_iF, q_d, q_in, q_wi, q_hC, q_hM, pT_i, pU_i, pS_i, pS_j, pS_0, Sum.elim_inl, Sum.elim_inr, if_pos, if_neg]
theorem po_45 : am_op_45 pr_Rel := by
  intro σ1 σ2 h v1 v2
  obtain ⟨x, x1, x2, rfl⟩ := q_ex v1
  obtain ⟨y, y1, y2, rfl⟩ := q_ex v2
  rcases pr_m (h.2.S 0) x1 x2 with ⟨-, e1, e2⟩ | ⟨m, a, hm, ha, rfl, hr, em, eM, mach⟩
  · refine pr_ro h (Int32.ofInt (-1)) 2 ?_ ?_
    · simp (disch := omega) only [f_X11_obey, f_X11_none, e1, Option.bind_some, qi, ql, qI_lt, qI_le, qI_eq, qI_L, qI_ix, qL_lt, qL_eq, q_nat, q_cs, ← Int32.ofInt_add, ← Int32.ofInt_sub, ← Int32.ofInt_mul, ← Int32.ofInt_neg, ← Int64.ofInt_add, ← Int64.ofInt_sub, ← Int64.ofInt_mul, ← Int64.ofInt_neg, pL_I, q_mx, q_mn, q_ab, q_abL, q_mnL, q_nn0, q_nn1, q_rr, q_b1, q_b0, q_T, q_F, q_iT, q_iF, q_d, q_in, q_wi, q_hC, q_hM, pT_i, pU_i, pS_i, pS_j, pS_0, Sum.elim_inl, Sum.elim_inr, if_pos, if_neg]
    · simp (disch := omega) only [f_X12_obey, f_X12_refuse, e2, Option.bind_some, qi, ql, qI_lt, qI_le, qI_eq, qI_L, qI_ix, qL_lt, qL_eq, q_nat, q_cs, ← Int32.ofInt_add, ← Int32.ofInt_sub, ← Int32.ofInt_mul, ← Int32.ofInt_neg, ← Int64.ofInt_add, ← Int64.ofInt_sub, ← Int64.ofInt_mul, ← Int64.ofInt_neg, pL_I, q_mx, q_mn, q_ab, q_abL, q_mnL, q_nn0, q_nn1, q_rr, q_b1, q_b0, q_T, q_F, q_iT, q_iF, q_d, q_in, q_wi, q_hC, q_hM, pT_i, pU_i, pS_i, pS_j, pS_0, Sum.elim_inl, Sum.elim_inr, if_pos, if_neg]
  · by_cases cy : 0 ≤ y ∧ y ≤ 99999
    · obtain ⟨p, q, ⟨hp, hq, hpq⟩, rp, rq, N, R, n, ⟨hN, hR⟩, p4, p5, p54, seg⟩ := (show pr_prog σ1 (pS σ2 0) from h.2.S 0 5 (by omega))
      obtain ⟨wc, ws, zr, sl, kc, kw, kt, C, M, -⟩ := mach
      have z0 : (0 : Int32) = Int32.ofInt 0 := qi 0
      have zl : (0 : Int64) = Int64.ofInt 0 := ql 0
      have rrp : am_rr 2 (σ1.2.2 11 0 7) = some p := by rw [rp]; exact q_rr hp
      have f1 : qf ob_lC2 σ1 (ob_i1 σ1 p a y) := ob_f1
      have f2 : qf ob_lM2 (pS σ2 0) (ob_i2 (pS σ2 0) y) := ob_f2
      have Y : ob_Y m a p wc R ws zr (fun k => match k with | 0 => σ1.1 500 p | 1 => σ1.1 501 p | 2 => σ1.1 502 p | 3 => σ1.1 503 p | 4 => (pS σ2 0).1 1368 0 | 5 => (pS σ2 0).1 1369 0 | 6 => (pS σ2 0).1 1370 0 | _ => (pS σ2 0).1 1371 0) (ob_i1 σ1 p a y) (ob_i2 (pS σ2 0) y) := by
        refine ⟨⟨⟨hm, ha, hp, hR⟩, ph_Cq (f1.a (by decide +kernel)) C, ph_Mq (f2.a (by decide +kernel)) M, rfl, rfl, p4⟩, ⟨?_, ?_, ?_, ?_⟩, ⟨?_, ?_, ?_, ?_⟩⟩
        · exact funext fun j => (f1 500 p j rfl).1
        · exact funext fun j => (f1 501 p j rfl).1
        · exact funext fun j => (f1 502 p j rfl).1
        · exact funext fun j => (f1 503 p j rfl).1
        · exact funext fun j => (f2 1368 0 j rfl).1
        · exact funext fun j => (f2 1369 0 j rfl).1
        · exact funext fun j => (f2 1370 0 j rfl).1
        · exact funext fun j => (f2 1371 0 j rfl).1
      have X : ob_R (ob_i1 σ1 p a y) (ob_i2 (pS σ2 0) y) y 0 0 := ⟨⟨rfl, rfl, cy.1, cy.2⟩, ⟨z0, rfl, by omega, by omega⟩, zl, ⟨0, z0, rfl, by omega, fun j hj => by omega⟩, ⟨rfl, rfl, by omega, by omega⟩⟩
      obtain ⟨F, F2, lp, q1, q2, h', n', o', X', alt⟩ := ob_seg n 3 0 N 0 R 7 (by omega) (by omega) hN (by omega) seg _ _ y 0 0 0 Y X rfl z0 (by omega)
      have Y' := ob_Yq Y q1 q2
      obtain ⟨⟨-, C', M', r0, r1, e4⟩, -⟩ := Y'
      obtain ⟨⟨x6, x57, h0, h1⟩, ⟨x7, x56, n0, n1⟩, x8, ⟨mk, x9, x59, mb, xm⟩, ⟨x3, x65, o0, o1⟩⟩ := X'
      have fin : ∃ (lf : Int) (r' : Nat), F2.1 12 0 58 = Int32.ofInt lf ∧ ob_run 0 0 (ob_i1 σ1 p a y) = some F ∧ r' ≤ R ∧ F.1 9 0 2 = Int32.ofInt (r' : Int) ∧ ((lf = 1 ∧ r' < R) ∨ (lf = 0 ∧ r' = R)) := by
        rcases alt with ⟨z58, z2, -, c', cb', run⟩ | ⟨z58, run, r', hr', er'⟩
        · have PE := ob_pe (c := c') r0 hp hR e4 z2 (Nat.le_refl R) (fun z => absurd z (Nat.lt_irrefl R)) (by omega) (by omega)
          exact ⟨0, R, z58, run.trans (ob_go2 PE r0 hp hR e4 z2 (Nat.le_refl R) x3 ⟨o0, o1⟩ ⟨n0, n1⟩ (Or.inr (Or.inr rfl))), Nat.le_refl R, z2, Or.inr ⟨rfl, rfl⟩⟩
        · exact ⟨1, r', z58, run, by omega, er', Or.inl ⟨rfl, hr'⟩⟩
      obtain ⟨lf, r', z58, run, hr', z2, hl⟩ := fin
      have thru := ob_thru run hp hR r0 e4 z2 hr' hl
      have lb : 0 ≤ lf ∧ lf ≤ 1 := by omega
      have o8 : f_X12_obeyAll 8 (Int32.ofInt (m : Int)) (Int32.ofInt 0) (Int32.ofInt (N : Int)) (ob_i2 (pS σ2 0) y) = some F2 := by
        show f_X12_obeyAll_0 (f_X12_obeyAll 7) (Int32.ofInt (m : Int)) (Int32.ofInt 0) (Int32.ofInt (N : Int)) (ob_i2 (pS σ2 0) y) = some F2
        unfold f_X12_obeyAll_0
        have lp' : am_loop (fun s => f_X12_obeyAll_3 (f_X12_obeyAll 7) (Int32.ofInt (m : Int)) (Int32.ofInt (N : Int)) s.1 s.2) (Int32.ofInt 0, ob_i2 (pS σ2 0) y) = some F2 := lp
        rw [lp', Option.bind_some]
      have c54 : (ob_i2 (pS σ2 0) y).1 12 0 54 = Int32.ofInt (N : Int) := p54
      have c6 : (am_wI F 9 0 11 (Int32.ofInt lf)).1 9 0 6 = Int32.ofInt h' := x6
      refine ⟨Int32.ofInt h', pT (am_wI F 9 0 11 (Int32.ofInt lf)) 0, F2, ?_, ?_, ?_, ?_⟩
      · simp (disch := omega) only [f_X11_obey, f_X11_answer, em, rrp, thru, c6, Option.bind_some, qi, ql, qI_lt, qI_le, qI_eq, qI_L, qI_ix, qL_lt, qL_eq, q_nat, q_cs, ← Int32.ofInt_add, ← Int32.ofInt_sub, ← Int32.ofInt_mul, ← Int32.ofInt_neg, ← Int64.ofInt_add, ← Int64.ofInt_sub, ← Int64.ofInt_mul, ← Int64.ofInt_neg, pL_I, q_mx, q_mn, q_ab, q_abL, q_mnL, q_nn0, q_nn1, q_rr, q_b1, q_b0, q_T, q_F, q_iT, q_iF, q_d, q_in, q_wi, q_hC, q_hM, pT_i, pU_i, pS_i, pS_j, pS_0, Sum.elim_inl, Sum.elim_inr, if_pos, if_neg]
      · unfold ob_i2 at o8 c54
        simp (disch := omega) only [f_X12_obey, eM, o8, c54, x57, Option.bind_some, qi, ql, qI_lt, qI_le, qI_eq, qI_L, qI_ix, qL_lt, qL_eq, q_nat, q_cs, ← Int32.ofInt_add, ← Int32.ofInt_sub, ← Int32.ofInt_mul, ← Int32.ofInt_neg, ← Int64.ofInt_add, ← Int64.ofInt_sub, ← Int64.ofInt_mul, ← Int64.ofInt_neg, pL_I, q_mx, q_mn, q_ab, q_abL, q_mnL, q_nn0, q_nn1, q_rr, q_b1, q_b0, q_T, q_F, q_iT, q_iF, q_d, q_in, q_wi, q_hC, q_hM, pT_i, pU_i, pS_i, pS_j, pS_0, Sum.elim_inl, Sum.elim_inr, if_pos, if_neg]
      · rw [(q2 12 0 0 rfl).1]
        rfl
      · have gC : qf ob_lC2 σ1 (pT (am_wI F 9 0 11 (Int32.ofInt lf)) 0) := ((f1.tr (q1.mo (by decide +kernel))).wI rfl).wI rfl
        have gM : qf ob_lM2 (pS σ2 0) F2 := f2.tr (q2.mo (by decide +kernel))
        refine (h.2.S 0).st ob_lC2 ob_lM2 [14] (by decide +kernel) gC gM ?_
        intro k hk
        rw [List.mem_singleton] at hk
        subst hk
        have k5 : F.1 9 0 5 = Int32.ofInt 1 := by
          rw [(q1 9 0 5 rfl).1]
          rfl
        have k66 : F2.1 12 0 66 = Int32.ofInt 1 := by
          rw [(q2 12 0 66 rfl).1]
          rfl
        exact ⟨1, mk, lf, by omega, mb, lb, fun z => by omega, k5, k66, x7.trans x56.symm, x8, x9, x59, xm, rfl, z58⟩
    · refine pr_ro h (Int32.ofInt (-1)) 5 ?_ ?_
      · simp (disch := omega) only [f_X11_obey, f_X11_none, em, Option.bind_some, qi, ql, qI_lt, qI_le, qI_eq, qI_L, qI_ix, qL_lt, qL_eq, q_nat, q_cs, ← Int32.ofInt_add, ← Int32.ofInt_sub, ← Int32.ofInt_mul, ← Int32.ofInt_neg, ← Int64.ofInt_add, ← Int64.ofInt_sub, ← Int64.ofInt_mul, ← Int64.ofInt_neg, pL_I, q_mx, q_mn, q_ab, q_abL, q_mnL, q_nn0, q_nn1, q_rr, q_b1, q_b0, q_T, q_F, q_iT, q_iF, q_d, q_in, q_wi, q_hC, q_hM, pT_i, pU_i, pS_i, pS_j, pS_0, Sum.elim_inl, Sum.elim_inr, if_pos, if_neg]
      · simp (disch := omega) only [f_X12_obey, f_X12_refuse, eM, Option.bind_some, qi, ql, qI_lt, qI_le, qI_eq, qI_L, qI_ix, qL_lt, qL_eq, q_nat, q_cs, ← Int32.ofInt_add, ← Int32.ofInt_sub, ← Int32.ofInt_mul, ← Int32.ofInt_neg, ← Int64.ofInt_add, ← Int64.ofInt_sub, ← Int64.ofInt_mul, ← Int64.ofInt_neg, pL_I, q_mx, q_mn, q_ab, q_abL, q_mnL, q_nn0, q_nn1, q_rr, q_b1, q_b0, q_T, q_F, q_iT, q_iF, q_d, q_in, q_wi, q_hC, q_hM, pT_i, pU_i, pS_i, pS_j, pS_0, Sum.elim_inl, Sum.elim_inr, if_pos, if_neg]
