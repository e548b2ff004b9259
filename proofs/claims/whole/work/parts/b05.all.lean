/-! ===== OBEYED: all STEPS ===== -/
set_option maxHeartbeats 4000000 in
/-- a block as a whole -/
theorem ob_block {m a p wc R f d s e1 r q1 kd : Nat} {ws : Nat → Nat → Int} {zr : Int} {G : Nat → Nat → Int32} (H : ob_Seg (ob_Y m a p wc R ws zr G) R m f d (s + 1) e1 (r + 1) q1) (hd : d ≤ 2) (hq : q1 < R) (hr : r < q1) (hs : s < 40) (hk : kd = 4 ∨ kd = 5) (st : pg_step (G 0) (G 1) (G 2) (G 4) (G 5) (G 6) s r kd) (hE : G 7 s = Int32.ofInt (e1 : Int)) (d6 : G 0 q1 = Int32.ofInt 6) (v6 : G 3 q1 = Int32.ofInt (r : Int)) (v7 : G 3 r = Int32.ofInt (q1 : Int)) {ρ1 ρ2 : am_H} {h n c : Int} (Y : ob_Y m a p wc R ws zr G ρ1 ρ2) (X : ob_R ρ1 ρ2 h n 0) (hn : n < 200) (e58 : ρ2.1 12 0 58 = Int32.ofInt 0) (e2 : ρ1.1 9 0 2 = Int32.ofInt (r : Int)) (PE : am_loop (fun s : Int32 × am_H => f_X9_passEnds_2 s.1 s.2) (Int32.ofInt c, ρ1) = some ρ1) : ∃ τ1 τ2 : am_H, f_X12_obeyOne (f_X12_obeyAll (f + 1)) (Int32.ofInt (m : Int)) (Int32.ofInt (s : Int)) ρ2 = some τ2 ∧ ob_Z R n c (9 * (d : Int) + 9) r (q1 + 1) (q1 + 1) ρ1 ρ2 τ1 τ2 := by
  have Y0 := Y
  obtain ⟨⟨⟨hm, ha, hp, hR⟩, C, M, r0, r1, e4⟩, ⟨g0, g1, g2, g3⟩, ⟨g4, g5, g6, g7⟩⟩ := Y0
  have X0 := X
  obtain ⟨⟨x6, x57, h0, h1⟩, ⟨x7, x56, n0, n1⟩, x8, xmk, ⟨x3, x65, -, -⟩⟩ := X0
  have rr0 : am_rr 2 (ρ1.2.2 9 0 0) = some p := by rw [r0]; exact q_rr hp
  have rr1 : am_rr 3 (ρ1.2.2 9 0 1) = some a := by rw [r1]; exact q_rr ha
  have a0 : am_rr 2 ((am_wI ρ1 9 0 7 (Int32.ofInt (n + 1))).2.2 9 0 0) = some p := rr0
  have a2 : (am_wI ρ1 9 0 7 (Int32.ofInt (n + 1))).1 9 0 2 = Int32.ofInt (r : Int) := e2
  obtain ⟨s0, s1, -, srep, sun⟩ := st
  have d5 : (am_wI ρ1 9 0 7 (Int32.ofInt (n + 1))).1 500 p r = Int32.ofInt (kd : Int) := by
    show ρ1.1 500 p r = _
    rw [g0]; exact s0
  have c68 : (am_wI ρ2 12 0 56 (Int32.ofInt (n + 1))).1 1368 0 s = Int32.ofInt (kd : Int) := by
    show ρ2.1 1368 0 s = _
    rw [g4]; exact s1
  have c71 : (am_wI ρ2 12 0 56 (Int32.ofInt (n + 1))).1 1371 0 s = Int32.ofInt (e1 : Int) := by
    show ρ2.1 1371 0 s = _
    rw [g7]; exact hE
  have b58 : (am_wI ρ2 12 0 56 (Int32.ofInt (n + 1))).1 12 0 58 = Int32.ofInt 0 := e58
  have fM : qf ob_lM ρ2 (am_wI ρ2 12 0 56 (Int32.ofInt (n + 1))) := qf.rf.wI rfl
  have fC : ∀ v w : Int32, qf ob_lC ρ1 (am_wI (am_wI (am_wI ρ1 9 0 7 (Int32.ofInt (n + 1))) 1004 0 r v) 9 0 2 w) := fun v w => ((qf.rf.wI rfl).wI rfl).wI rfl
  have rd : ∀ v w : Int32, (am_wI (am_wI (am_wI ρ1 9 0 7 (Int32.ofInt (n + 1))) 1004 0 r v) 9 0 2 w).1 1004 0 r = v := fun v w => by
    show (am_wI (am_wI ρ1 9 0 7 (Int32.ofInt (n + 1))) 1004 0 r v).1 1004 0 r = v
    rw [am_wI_r, if_pos ⟨rfl, rfl, rfl⟩]
  have ro : ∀ (v w : Int32) (x : Nat), x ≠ r → (am_wI (am_wI (am_wI ρ1 9 0 7 (Int32.ofInt (n + 1))) 1004 0 r v) 9 0 2 w).1 1004 0 x = ρ1.1 1004 0 x := fun v w x hx => by
    show (am_wI (am_wI ρ1 9 0 7 (Int32.ofInt (n + 1))) 1004 0 r v).1 1004 0 x = _
    rw [am_wI_r, if_neg (by omega)]
    rfl
  rcases hk with hk | hk
  · -- repeat
    obtain ⟨g, gb, u1, u2⟩ := srep hk
    have d5' : (am_wI ρ1 9 0 7 (Int32.ofInt (n + 1))).1 500 p r = Int32.ofInt 4 := by rw [d5, hk]; rfl
    have c68' : (am_wI ρ2 12 0 56 (Int32.ofInt (n + 1))).1 1368 0 s = Int32.ofInt 4 := by rw [c68, hk]; rfl
    have d2 : (am_wI ρ1 9 0 7 (Int32.ofInt (n + 1))).1 502 p r = Int32.ofInt g := by
      show ρ1.1 502 p r = _
      rw [g2]; exact u1
    have f1 : f_X9_doStep (am_wI ρ1 9 0 7 (Int32.ofInt (n + 1))) = some (am_wI (am_wI (am_wI ρ1 9 0 7 (Int32.ofInt (n + 1))) 1004 0 r (Int32.ofInt g)) 9 0 2 (Int32.ofInt ((r : Int) + 1))) := by
      simp (disch := omega) only [f_X9_doStep, f_X9_doStep_196, a0, a2, d5', d2, Option.bind_some, qi, ql, qI_lt, qI_le, qI_eq, qI_L, qI_ix, qL_lt, qL_eq, q_nat, q_cs, ← Int32.ofInt_add, ← Int32.ofInt_sub, ← Int32.ofInt_mul, ← Int32.ofInt_neg, ← Int64.ofInt_add, ← Int64.ofInt_sub, ← Int64.ofInt_mul, ← Int64.ofInt_neg, pL_I, q_mx, q_mn, q_ab, q_abL, q_mnL, q_nn0, q_nn1, q_rr, q_b1, q_b0, q_T, q_F, q_iT, q_iF, q_d, q_in, q_wi, q_hC, q_hM, pT_i, pU_i, pS_i, pS_j, pS_0, Sum.elim_inl, Sum.elim_inr, if_pos, if_neg]
    have run := ob_go1 PE r0 hp hR e4 e2 (by omega : r < R) x3 x7 n0 hn f1
    obtain ⟨τ1, τ2, lp, Z⟩ := ob_rep H hd hq hr d6 v6 hs gb u2 hE 10 0 _ _ h (n + 1) 0 0 (by omega) (by omega) (by omega) (ob_Yq Y (fC (Int32.ofInt g) (Int32.ofInt ((r : Int) + 1))) fM) (ob_Rb X hn) b58 rfl (by omega) (by rw [rd, show g - 0 = g by omega])
    refine ⟨τ1, τ2, ?_, ob_Zt (fC _ _) fM run (fun x hx => ro _ _ x (by omega)) Z (by omega) (by omega) (by omega)⟩
    simp (disch := omega) only [f_X12_obeyOne, x65, x56, c68', lp, Option.bind_some, qi, ql, qI_lt, qI_le, qI_eq, qI_L, qI_ix, qL_lt, qL_eq, q_nat, q_cs, ← Int32.ofInt_add, ← Int32.ofInt_sub, ← Int32.ofInt_mul, ← Int32.ofInt_neg, ← Int64.ofInt_add, ← Int64.ofInt_sub, ← Int64.ofInt_mul, ← Int64.ofInt_neg, pL_I, q_mx, q_mn, q_ab, q_abL, q_mnL, q_nn0, q_nn1, q_rr, q_b1, q_b0, q_T, q_F, q_iT, q_iF, q_d, q_in, q_wi, q_hC, q_hM, pT_i, pU_i, pS_i, pS_j, pS_0, Sum.elim_inl, Sum.elim_inr, if_pos, if_neg]
  · -- when
    obtain ⟨t, lv, tb, t2, lb, u1, u2, u3, u4⟩ := sun (Or.inr hk)
    have t2' := t2 hk
    have d5' : (am_wI ρ1 9 0 7 (Int32.ofInt (n + 1))).1 500 p r = Int32.ofInt 5 := by rw [d5, hk]; rfl
    have c68' : (am_wI ρ2 12 0 56 (Int32.ofInt (n + 1))).1 1368 0 s = Int32.ofInt 5 := by rw [c68, hk]; rfl
    have d2 : (am_wI ρ1 9 0 7 (Int32.ofInt (n + 1))).1 502 p r = Int32.ofInt lv := by
      show ρ1.1 502 p r = _
      rw [g2]; exact u2
    have w0 : am_rr 2 ((am_wI (am_wI ρ1 9 0 7 (Int32.ofInt (n + 1))) 1004 0 r (Int32.ofInt 1)).2.2 9 0 0) = some p := rr0
    have w1 : am_rr 3 ((am_wI (am_wI ρ1 9 0 7 (Int32.ofInt (n + 1))) 1004 0 r (Int32.ofInt 1)).2.2 9 0 1) = some a := rr1
    have w2 : (am_wI (am_wI ρ1 9 0 7 (Int32.ofInt (n + 1))) 1004 0 r (Int32.ofInt 1)).1 9 0 2 = Int32.ofInt (r : Int) := e2
    have w6 : (am_wI (am_wI ρ1 9 0 7 (Int32.ofInt (n + 1))) 1004 0 r (Int32.ofInt 1)).1 9 0 6 = Int32.ofInt h := x6
    have w501 : (am_wI (am_wI ρ1 9 0 7 (Int32.ofInt (n + 1))) 1004 0 r (Int32.ofInt 1)).1 501 p r = Int32.ofInt (t + 1) := by
      show ρ1.1 501 p r = _
      rw [g1]; exact u1
    have w503 : (am_wI (am_wI ρ1 9 0 7 (Int32.ofInt (n + 1))) 1004 0 r (Int32.ofInt 1)).1 503 p r = Int32.ofInt (q1 : Int) := by
      show ρ1.1 503 p r = _
      rw [g3]; exact v7
    have C' : ph_C (am_wI (am_wI ρ1 9 0 7 (Int32.ofInt (n + 1))) 1004 0 r (Int32.ofInt 1)) a wc ws zr := ph_Cq (((qf.rf (l := ob_lC)).wI rfl).wI rfl |>.a (by decide +kernel)) C
    have M' : ph_M (am_wI ρ2 12 0 56 (Int32.ofInt (n + 1))) m wc ws (max zr 0) := ph_Mq (fM.a (by decide +kernel)) M
    have hh := pr_HHx (by omega : m < 3) C' M'
    obtain ⟨b, so, bq⟩ := ob_so (s := s) (t := t) (lv := lv) (h := h) hh hs tb lb (by show ρ2.1 1369 0 s = _; rw [g5]; exact u3) (fun z => by show ρ2.1 1370 0 s = _; rw [g6]; exact u4 z) x57 h0 h1
    have f1 := ph_heightAt (b := true) C' h0 (by omega : h ≤ 200000)
    have hb : -9000 ≤ ph_sum ws (max zr 0) h true wc ∧ ph_sum ws (max zr 0) h true wc ≤ 9000 := (hh.1 true h h0 (by omega)).2.2
    have lev := ob_lev (Hf := fun h => ph_sum ws (max zr 0) h true wc) (t := t) (lv := lv) w1 w6 h0 h1 (by omega) lb f1 hb bq
    cases b with
    | false =>
      have f1 : f_X9_doStep (am_wI ρ1 9 0 7 (Int32.ofInt (n + 1))) = some (am_wI (am_wI (am_wI ρ1 9 0 7 (Int32.ofInt (n + 1))) 1004 0 r (Int32.ofInt 1)) 9 0 2 (Int32.ofInt ((q1 : Int) + 1))) := by
        simp (disch := omega) only [f_X9_doStep, f_X9_doStep_196, a0, a2, d5', d2, w0, w2, w501, w503, lev, Option.bind_some, qi, ql, qI_lt, qI_le, qI_eq, qI_L, qI_ix, qL_lt, qL_eq, q_nat, q_cs, ← Int32.ofInt_add, ← Int32.ofInt_sub, ← Int32.ofInt_mul, ← Int32.ofInt_neg, ← Int64.ofInt_add, ← Int64.ofInt_sub, ← Int64.ofInt_mul, ← Int64.ofInt_neg, pL_I, q_mx, q_mn, q_ab, q_abL, q_mnL, q_nn0, q_nn1, q_rr, q_b1, q_b0, q_T, q_F, q_iT, q_iF, q_d, q_in, q_wi, q_hC, q_hM, pT_i, pU_i, pS_i, pS_j, pS_0, Sum.elim_inl, Sum.elim_inr, if_pos, if_neg]
      have run := ob_go1 PE r0 hp hR e4 e2 (by omega : r < R) x3 x7 n0 hn f1
      refine ⟨_, am_wI ρ2 12 0 56 (Int32.ofInt (n + 1)), ?_, fC (Int32.ofInt 1) (Int32.ofInt ((q1 : Int) + 1)), fM, h, n + 1, 0, ob_Rb X hn, Or.inl ⟨b58, rfl, fun x hx => ro _ _ x (by omega), 0, by omega, run⟩⟩
      simp (disch := omega) only [f_X12_obeyOne, x65, x56, c68', so, Option.bind_some, qi, ql, qI_lt, qI_le, qI_eq, qI_L, qI_ix, qL_lt, qL_eq, q_nat, q_cs, ← Int32.ofInt_add, ← Int32.ofInt_sub, ← Int32.ofInt_mul, ← Int32.ofInt_neg, ← Int64.ofInt_add, ← Int64.ofInt_sub, ← Int64.ofInt_mul, ← Int64.ofInt_neg, pL_I, q_mx, q_mn, q_ab, q_abL, q_mnL, q_nn0, q_nn1, q_rr, q_b1, q_b0, q_T, q_F, q_iT, q_iF, q_d, q_in, q_wi, q_hC, q_hM, pT_i, pU_i, pS_i, pS_j, pS_0, Sum.elim_inl, Sum.elim_inr, if_pos, if_neg]
    | true =>
      have f1 : f_X9_doStep (am_wI ρ1 9 0 7 (Int32.ofInt (n + 1))) = some (am_wI (am_wI (am_wI ρ1 9 0 7 (Int32.ofInt (n + 1))) 1004 0 r (Int32.ofInt 1)) 9 0 2 (Int32.ofInt ((r : Int) + 1))) := by
        simp (disch := omega) only [f_X9_doStep, f_X9_doStep_196, a0, a2, d5', d2, w0, w2, w501, w503, lev, Option.bind_some, qi, ql, qI_lt, qI_le, qI_eq, qI_L, qI_ix, qL_lt, qL_eq, q_nat, q_cs, ← Int32.ofInt_add, ← Int32.ofInt_sub, ← Int32.ofInt_mul, ← Int32.ofInt_neg, ← Int64.ofInt_add, ← Int64.ofInt_sub, ← Int64.ofInt_mul, ← Int64.ofInt_neg, pL_I, q_mx, q_mn, q_ab, q_abL, q_mnL, q_nn0, q_nn1, q_rr, q_b1, q_b0, q_T, q_F, q_iT, q_iF, q_d, q_in, q_wi, q_hC, q_hM, pT_i, pU_i, pS_i, pS_j, pS_0, Sum.elim_inl, Sum.elim_inr, if_pos, if_neg]
      have run := ob_go1 PE r0 hp hR e4 e2 (by omega : r < R) x3 x7 n0 hn f1
      obtain ⟨σ1, σ2, rc, q1', q2', h', n', o', X', alt⟩ := ob_turn (k := 1) (c := 0) H hd hq hr d6 v6 (ob_Yq Y (fC (Int32.ofInt 1) (Int32.ofInt ((r : Int) + 1))) fM) (ob_Rb X hn) b58 rfl (by omega) (rd _ _) (by omega)
      have f2 : f_X12_obeyOne (f_X12_obeyAll (f + 1)) (Int32.ofInt (m : Int)) (Int32.ofInt (s : Int)) ρ2 = some σ2 := by
        simp (disch := omega) only [f_X12_obeyOne, x65, x56, c68', so, c71, rc, Option.bind_some, qi, ql, qI_lt, qI_le, qI_eq, qI_L, qI_ix, qL_lt, qL_eq, q_nat, q_cs, ← Int32.ofInt_add, ← Int32.ofInt_sub, ← Int32.ofInt_mul, ← Int32.ofInt_neg, ← Int64.ofInt_add, ← Int64.ofInt_sub, ← Int64.ofInt_mul, ← Int64.ofInt_neg, pL_I, q_mx, q_mn, q_ab, q_abL, q_mnL, q_nn0, q_nn1, q_rr, q_b1, q_b0, q_T, q_F, q_iT, q_iF, q_d, q_in, q_wi, q_hC, q_hM, pT_i, pU_i, pS_i, pS_j, pS_0, Sum.elim_inl, Sum.elim_inr, if_pos, if_neg]
      rcases alt with ⟨z58, z2, z4, zf, c', cb', run'⟩ | ⟨z58, run', r', hr', er'⟩
      · rw [if_neg (by omega)] at z2
        exact ⟨σ1, σ2, f2, (fC _ _).tr q1', fM.tr q2', h', n', o', X', Or.inl ⟨z58, z2, fun x hx => (zf x (by omega)).trans (ro _ _ x (by omega)), c', by omega, run.trans run'⟩⟩
      · exact ⟨σ1, σ2, f2, (fC _ _).tr q1', fM.tr q2', h', n', o', X', Or.inr ⟨z58, run.trans run', r', hr', er'⟩⟩
theorem ob_seg {m a p wc R : Nat} {ws : Nat → Nat → Int} {zr : Int} {G : Nat → Nat → Int32} : ∀ n0 d s e r q f : Nat, d ≤ 3 → d ≤ f → e ≤ 40 → q ≤ R → pg_seg (G 0) (G 1) (G 2) (G 3) (G 4) (G 5) (G 6) (G 7) n0 d s e r q → ob_Seg (ob_Y m a p wc R ws zr G) R m f d s e r q := by
  intro n0
  induction n0 with
  | zero =>
    intro d s e r q f hd hf he hq P
    unfold pg_seg at P
    exact ob_seg0 P.1 P.2 he
  | succ n0 ih =>
    intro d s e r q f hd hf he hq P
    unfold pg_seg at P
    rcases P with ⟨h1, h2⟩ | ⟨kd, hk, st, eE, P⟩ | ⟨kd, d', e1, q1, hk, ed, st, eE, P1, d6, v6, v7, P2⟩
    · exact ob_seg0 h1 h2 he
    · have B := ob_segB _ _ _ _ _ _ P
      intro ρ1 ρ2 h n o c Y X e58 e2 cb
      have Y0 := Y
      obtain ⟨E, ⟨g0, g1, g2, g3⟩, ⟨g4, g5, g6, g7⟩⟩ := Y0
      have E0 := E
      obtain ⟨⟨hm, ha, hp, hR⟩, C, M, r0, r1, e4⟩ := E0
      have X0 := X
      obtain ⟨hx, ⟨x7, x56, n0', n1'⟩, x8, xmk, ⟨x3, x65, o0, o1⟩⟩ := X0
      have PE := ob_pe (c := c) r0 hp hR e4 e2 (by omega : r ≤ R) (fun _ => ⟨kd, by omega, by rw [g0]; exact st.1⟩) (by omega) (by omega)
      by_cases ov : o = 1 ∨ n = 200
      · exact ⟨ρ1, am_wI ρ2 12 0 58 (Int32.ofInt 1), ob_over (by omega) he e58 x65 x56 ⟨o0, o1⟩ ⟨n0', n1'⟩ ov, qf.rf, qf.rf.wI rfl, h, n, o, ob_Rl X, Or.inr ⟨rfl, ob_go2 PE r0 hp hR e4 e2 (by omega) x3 ⟨o0, o1⟩ ⟨n0', n1'⟩ (by omega), r, by omega, e2⟩⟩
      · have o00 : o = 0 := by omega
        rw [o00] at X x3
        have st' : pg_step (ρ1.1 500 p) (ρ1.1 501 p) (ρ1.1 502 p) (ρ2.1 1368 0) (ρ2.1 1369 0) (ρ2.1 1370 0) s r kd := by rw [g0, g1, g2, g4, g5, g6]; exact st
        obtain ⟨σ1, σ2, h', o', f1, f2, q1, q2, k58, k2, k4, X'⟩ := ob_one (rc := f_X12_obeyAll f) E (by omega : s < 40) (by omega : r < R) hk st' X (by omega) e2
        have run := ob_go1 PE r0 hp hR e4 e2 (by omega : r < R) x3 x7 n0' (by omega) f1
        have c7 : σ2.1 1371 0 s = Int32.ofInt ((s : Int) + 1) := by rw [(q2 1371 0 s rfl).1, g7]; exact eE
        have b : f_X12_obeyAll_3 (f_X12_obeyAll f) (Int32.ofInt (m : Int)) (Int32.ofInt (e : Int)) (Int32.ofInt (s : Int)) ρ2 = some (.inl (Int32.ofInt ((s : Int) + 1), σ2)) := by
          simp (disch := omega) only [f_X12_obeyAll_3, e58, f2, c7, Option.bind_some, qi, ql, qI_lt, qI_le, qI_eq, qI_L, qI_ix, qL_lt, qL_eq, q_nat, q_cs, ← Int32.ofInt_add, ← Int32.ofInt_sub, ← Int32.ofInt_mul, ← Int32.ofInt_neg, ← Int64.ofInt_add, ← Int64.ofInt_sub, ← Int64.ofInt_mul, ← Int64.ofInt_neg, pL_I, q_mx, q_mn, q_ab, q_abL, q_mnL, q_nn0, q_nn1, q_rr, q_b1, q_b0, q_T, q_F, q_iT, q_iF, q_d, q_in, q_wi, q_hC, q_hM, pT_i, pU_i, pS_i, pS_j, pS_0, Sum.elim_inl, Sum.elim_inr, if_pos, if_neg]
        obtain ⟨ρ1', ρ2', lp, Z⟩ := ih d (s + 1) e (r + 1) q f hd hf he hq P σ1 σ2 h' (n + 1) o' 0 (ob_Yq Y q1 q2) X' (k58.trans e58) k2 (by omega)
        refine ⟨ρ1', ρ2', ?_, ob_Zt q1 q2 run (fun x _ => k4 x) Z (by omega) (by omega) (by omega)⟩
        exact (am_loop_in (body := fun x : Int32 × am_H => f_X12_obeyAll_3 (f_X12_obeyAll f) (Int32.ofInt (m : Int)) (Int32.ofInt (e : Int)) x.1 x.2) (s := (Int32.ofInt (s : Int), ρ2)) (s' := (Int32.ofInt ((s : Int) + 1), σ2)) b).trans lp
    · have B1 := ob_segB _ _ _ _ _ _ P1
      have B2 := ob_segB _ _ _ _ _ _ P2
      obtain ⟨f', hf'⟩ : ∃ f', f = f' + 1 := ⟨f - 1, by omega⟩
      subst hf'
      have H := ih d' (s + 1) e1 (r + 1) q1 f' (by omega) (by omega) (by omega) (by omega) P1
      intro ρ1 ρ2 h n o c Y X e58 e2 cb
      have Y0 := Y
      obtain ⟨E, ⟨g0, g1, g2, g3⟩, ⟨g4, g5, g6, g7⟩⟩ := Y0
      have E0 := E
      obtain ⟨⟨hm, ha, hp, hR⟩, C, M, r0, r1, e4⟩ := E0
      have X0 := X
      obtain ⟨hx, ⟨x7, x56, n0', n1'⟩, x8, xmk, ⟨x3, x65, o0, o1⟩⟩ := X0
      have PE := ob_pe (c := c) r0 hp hR e4 e2 (by omega : r ≤ R) (fun _ => ⟨kd, by omega, by rw [g0]; exact st.1⟩) (by omega) (by omega)
      by_cases ov : o = 1 ∨ n = 200
      · exact ⟨ρ1, am_wI ρ2 12 0 58 (Int32.ofInt 1), ob_over (by omega) he e58 x65 x56 ⟨o0, o1⟩ ⟨n0', n1'⟩ ov, qf.rf, qf.rf.wI rfl, h, n, o, ob_Rl X, Or.inr ⟨rfl, ob_go2 PE r0 hp hR e4 e2 (by omega) x3 ⟨o0, o1⟩ ⟨n0', n1'⟩ (by omega), r, by omega, e2⟩⟩
      · have o00 : o = 0 := by omega
        rw [o00] at X x3
        obtain ⟨τ1, τ2, f2, Z⟩ := ob_block H (by omega) (by omega : q1 < R) (by omega : r < q1) (by omega : s < 40) hk st eE d6 v6 v7 Y X (by omega) e58 e2 PE
        obtain ⟨z1, z2, h', n', o', X', alt⟩ := Z
        have c7 : τ2.1 1371 0 s = Int32.ofInt (e1 : Int) := by rw [(z2 1371 0 s rfl).1, g7]; exact eE
        have b : f_X12_obeyAll_3 (f_X12_obeyAll (f' + 1)) (Int32.ofInt (m : Int)) (Int32.ofInt (e : Int)) (Int32.ofInt (s : Int)) ρ2 = some (.inl (Int32.ofInt (e1 : Int), τ2)) := by
          have sl : s < e := by omega
          simp (disch := omega) only [f_X12_obeyAll_3, e58, f2, c7, Option.bind_some, qi, ql, qI_lt, qI_le, qI_eq, qI_L, qI_ix, qL_lt, qL_eq, q_nat, q_cs, ← Int32.ofInt_add, ← Int32.ofInt_sub, ← Int32.ofInt_mul, ← Int32.ofInt_neg, ← Int64.ofInt_add, ← Int64.ofInt_sub, ← Int64.ofInt_mul, ← Int64.ofInt_neg, pL_I, q_mx, q_mn, q_ab, q_abL, q_mnL, q_nn0, q_nn1, q_rr, q_b1, q_b0, q_T, q_F, q_iT, q_iF, q_d, q_in, q_wi, q_hC, q_hM, pT_i, pU_i, pS_i, pS_j, pS_0, Sum.elim_inl, Sum.elim_inr, if_pos, if_neg]
        have lp0 := am_loop_in (body := fun x : Int32 × am_H => f_X12_obeyAll_3 (f_X12_obeyAll (f' + 1)) (Int32.ofInt (m : Int)) (Int32.ofInt (e : Int)) x.1 x.2) (s := (Int32.ofInt (s : Int), ρ2)) (s' := (Int32.ofInt (e1 : Int), τ2)) b
        rcases alt with ⟨k58, k2, k4, c', cb', run⟩ | ⟨k58, run, r', hr', e2'⟩
        · obtain ⟨ρ1', ρ2', lp, Z'⟩ := ih d e1 e (q1 + 1) q (f' + 1) hd hf he hq P2 τ1 τ2 h' n' o' c' (ob_Yq Y z1 z2) X' k58 k2 (by omega)
          exact ⟨ρ1', ρ2', lp0.trans lp, ob_Zt z1 z2 run (fun x hx => k4 x (by omega)) Z' (by omega) (by omega) (by omega)⟩
        · exact ⟨τ1, τ2, lp0.trans (ob_l1 k58), z1, z2, h', n', o', X', Or.inr ⟨k58, run, r', hr', e2'⟩⟩
