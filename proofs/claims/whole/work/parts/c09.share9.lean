/-! ===== SHARED: the call ===== -/
theorem sb_sh {y : Int} {wc : Nat} (hw : wc ≤ 6) (y1 : -2147483648 ≤ y) (y2 : y < 2147483648) : ((Int32.ofInt y) >>> ((Int32.ofInt (wc : Int)) &&& Int32.ofInt 31)) = Int32.ofInt 0 ↔ 0 ≤ y ∧ y < (2 ^ wc : Nat) := by
  have hb : ∀ w : Fin 7, (((Int32.ofInt (w.val : Int)) &&& Int32.ofInt 31).toBitVec.smod 32).toNat = w.val := by decide +kernel
  have hb' := hb ⟨wc, by omega⟩
  have e : (Int32.ofInt y >>> (Int32.ofInt (wc : Int) &&& Int32.ofInt 31)).toInt = y >>> wc := by
    rw [← Int32.toInt_toBitVec, Int32.toBitVec_shiftRight, BitVec.sshiftRight_eq', BitVec.toInt_sshiftRight, Int32.toInt_toBitVec, Int32.toInt_ofInt_of_le (by omega) (by omega)]
    exact congrArg (fun n => y >>> n) hb'
  rw [← Int32.toInt_inj, e, Int.shiftRight_eq_div_pow]
  show y / ((2 ^ wc : Nat) : Int) = 0 ↔ _
  have hp : 0 < 2 ^ wc := Nat.two_pow_pos wc
  generalize 2 ^ wc = W at hp
  constructor
  · intro h
    have h1 := Int.emod_add_mul_ediv y (W : Int)
    have h2 := Int.emod_nonneg y (show (W : Int) ≠ 0 by omega)
    have h3 := Int.emod_lt_of_pos y (show (0 : Int) < W by omega)
    rw [h] at h1
    omega
  · intro h
    exact Int.ediv_eq_zero_of_lt h.1 h.2
theorem sb_pw : ∀ w : Fin 7, 1 ≤ 2 ^ w.val ∧ 2 ^ w.val ≤ 64 := by decide +kernel
def sx_lC : List (Nat × Nat) := [(11, 0), (7, 0), (7, 2), (7, 8), (803, 999), (804, 999), (805, 999), (806, 999), (807, 999), (813, 999), (7, 14)]
def sx_lM : List (Nat × Nat) := [(12, 0), (12, 78), (12, 30), (1345, 999), (1377, 999)]
theorem sb_8 : ∀ x : Fin 64, sb_n x.val 6 ≤ 6 := by decide +kernel
set_option maxHeartbeats 4000000 in
theorem po_19 : am_op_19 pr_Rel := by
  intro σ1 σ2 hR v1 v2 v3 v4
  obtain ⟨mx, x1, x2, rfl⟩ := q_ex v1
  obtain ⟨y, y1, y2, rfl⟩ := q_ex v2
  obtain ⟨per, p1, p2, rfl⟩ := q_ex v3
  obtain ⟨h, h1, h2, rfl⟩ := q_ex v4
  rcases pr_m (hR.2.S 0) x1 x2 with ⟨-, e1, e2⟩ | ⟨m, a, hm, ha, rfl, hr, em, eM, X⟩
  · refine pr_ro hR (Int32.ofInt (-1)) 2 ?_ ?_
    · simp (disch := omega) only [f_X11_share, f_X11_share_22, f_X11_none, e1, Option.bind_some, qi, ql, qI_lt, qI_le, qI_eq, qI_L, qI_ix, qL_lt, qL_eq, q_nat, q_cs, ← Int32.ofInt_add, ← Int32.ofInt_sub, ← Int32.ofInt_mul, ← Int32.ofInt_neg, ← Int64.ofInt_add, ← Int64.ofInt_sub, ← Int64.ofInt_mul, ← Int64.ofInt_neg, pL_I, q_mx, q_mn, q_ab, q_abL, q_mnL, q_nn0, q_nn1, q_rr, q_b1, q_b0, q_T, q_F, q_iT, q_iF, q_d, q_in, q_wi, q_hC, q_hM, pT_i, pU_i, pS_i, pS_j, pS_0, Sum.elim_inl, Sum.elim_inr, if_pos, if_neg]
    · simp (disch := omega) only [f_X12_share, f_X12_share_37, f_X12_refuse, e2, Option.bind_some, qi, ql, qI_lt, qI_le, qI_eq, qI_L, qI_ix, qL_lt, qL_eq, q_nat, q_cs, ← Int32.ofInt_add, ← Int32.ofInt_sub, ← Int32.ofInt_mul, ← Int32.ofInt_neg, ← Int64.ofInt_add, ← Int64.ofInt_sub, ← Int64.ofInt_mul, ← Int64.ofInt_neg, pL_I, q_mx, q_mn, q_ab, q_abL, q_mnL, q_nn0, q_nn1, q_rr, q_b1, q_b0, q_T, q_F, q_iT, q_iF, q_d, q_in, q_wi, q_hC, q_hM, pT_i, pU_i, pS_i, pS_j, pS_0, Sum.elim_inl, Sum.elim_inr, if_pos, if_neg]
  · obtain ⟨wc, ws, zr, sl, kc, kw, kt, C, M, -, -, -, -, k1, k2, k3, k4⟩ := X
    have w6 := C.1
    have c1 := C.2.1
    have m1 := M.2.1
    have pw := sb_pw ⟨wc, by omega⟩
    have pw' : 1 ≤ 2 ^ wc ∧ 2 ^ wc ≤ 64 := pw
    have s7 : (Int32.ofInt 1 <<< ((Int32.ofInt (wc : Int)) &&& Int32.ofInt 31)) - Int32.ofInt 1 = Int32.ofInt ((2 ^ wc : Nat) - 1 : Int) := sb_7 ⟨wc, by omega⟩
    have s7' : Int32.toInt64 ((1 <<< ((Int32.ofInt (wc : Int)) &&& 31)) - 1) = Int64.ofInt ((2 ^ wc : Nat) - 1 : Int) := by
      rw [show (1 : Int32) = Int32.ofInt 1 from qi 1, show (31 : Int32) = Int32.ofInt 31 from qi 31, s7, qI_L (by omega) (by omega)]
    have sh := sb_sh (y := y) (wc := wc) w6 y1 y2
    have sh' : ((Int32.ofInt y) >>> ((σ1.1 3 a 1) &&& 31)) = 0 ↔ 0 ≤ y ∧ y < (2 ^ wc : Nat) := by
      rw [c1, show (31 : Int32) = Int32.ofInt 31 from qi 31, show (0 : Int32) = Int32.ofInt 0 from qi 0]
      exact sh
    have jm : am_ix 3 (Int32.ofInt (m : Int)) = some m := by rw [qI_ix (by omega) (by omega) (by omega), q_nat]
    -- both, up to the set
    have eC : f_X11_share (Int32.ofInt (m : Int)) (Int32.ofInt y) (Int32.ofInt per) (Int32.ofInt h) σ1 = if ((Int32.ofInt y) >>> ((σ1.1 3 a 1) &&& 31)) = 0 then ((f_J6_bitCount_0f7a4 (Int32.ofInt y) σ1).bind fun p4 =>
    (f_X11_isWithin p4 1 3 σ1).bind fun p5 =>
    if p5 = true then
     ((f_X11_isWithin (Int32.ofInt per) 0 99 σ1).bind fun p7 =>
     if p7 = true then
      ((f_X11_isHour (Int32.ofInt h) σ1).bind fun p9 =>
      if p9 = true then
       ((f_X7_findShared a (Int32.ofInt y) (Int32.ofInt per) (Int32.ofInt h) σ1).bind fun p11 =>
       if p11.1 = true then
        ((f_X11_answer (p11.2.1 7 0 8) p11.2).bind fun p13 =>
        some (p13.1, p13.2))
       else
       (f_X11_none 9 p11.2).bind fun p14 =>
       some (p14.1, p14.2))
      else
      f_X11_share_58 σ1)
     else
     f_X11_share_58 σ1)
    else
    f_X11_share_58 σ1) else f_X11_share_22 σ1 := by
      unfold f_X11_share
      rw [em, Option.bind_some, q_nn1 ha]
    have eR : f_X12_share (Int32.ofInt (m : Int)) (Int32.ofInt y) (Int32.ofInt per) (Int32.ofInt h) σ2 = (f_X12_isIn (Int64.ofInt y) (Int64.ofInt 0) (Int64.ofInt ((2 ^ wc : Nat) - 1 : Int)) (pS σ2 0)).bind fun p6 =>
   if p6 = true then
    ((f_J6_bitCount_0f7a4 (Int32.ofInt y) (pS σ2 0)).bind fun p8 =>
    (f_X12_isIn (Int32.toInt64 p8) 1 3 (pS σ2 0)).bind fun p9 =>
    if p9 = true then
     ((f_X12_isIn (Int32.toInt64 (Int32.ofInt per)) 0 99 (pS σ2 0)).bind fun p11 =>
     if p11 = true then
      ((f_X12_isHour (Int32.ofInt h) (pS σ2 0)).bind fun p13 =>
      if p13 = true then
       ((some (am_wI (pS σ2 0) 12 0 78 (-1))).bind fun s15 =>
       (f_X12_shareFrom 8 (Int32.ofInt (m : Int)) (Int32.ofInt y) 0 (Int32.ofInt per) (Int32.ofInt h) s15).bind fun p16 =>
       if (p16.1 12 0 78) < 0 then
        ((f_X12_refuse 9 p16).bind fun p18 =>
        some (p18.1, p18.2))
       else
       some ((p16.1 12 0 78), p16))
      else
      f_X12_share_78 (pS σ2 0))
     else
     f_X12_share_78 (pS σ2 0))
    else
    f_X12_share_78 (pS σ2 0))
   else
   f_X12_share_37 (pS σ2 0) := by
      unfold f_X12_share
      rw [Option.bind_some, Option.bind_some, show (0 : Int32) = Int32.ofInt 0 from qi 0, pU_i, pS_i, eM, Option.bind_some, if_pos rfl, jm, Option.bind_some, m1, s7', qI_L y1 y2]
      rfl
    by_cases cs : 0 ≤ y ∧ y < (2 ^ wc : Nat)
    · obtain ⟨x, hxy⟩ : ∃ x : Nat, (x : Int) = y := ⟨y.toNat, by omega⟩
      subst hxy
      have hx : x < 64 := by omega
      have hxw : x < 2 ^ wc := by omega
      have bc := (sb_4 ⟨x, hx⟩).2
      have bc1 : f_J6_bitCount_0f7a4 (Int32.ofInt (x : Int)) σ1 = some (Int32.ofInt (sb_n x 6 : Int)) := by rw [sb_bc]; exact bc
      have bc2 : f_J6_bitCount_0f7a4 (Int32.ofInt (x : Int)) (pS σ2 0) = some (Int32.ofInt (sb_n x 6 : Int)) := by rw [sb_bc]; exact bc
      have nb : sb_n x 6 ≤ 6 := sb_8 ⟨x, hx⟩
      rw [eC, eR, if_pos (sh'.mpr cs), bc1, bc2]
      by_cases cn : 1 ≤ sb_n x 6 ∧ sb_n x 6 ≤ 3
      · by_cases cp : 0 ≤ per ∧ per ≤ 99
        · by_cases ch : 0 ≤ h ∧ h ≤ 99999
          · have KK : tn_K kc kw kt := ⟨k1, fun u hu => ⟨(k4 u hu).1, (k4 u hu).2.1⟩⟩
            have K : tm_K (pS σ2 0) m kc kw kt := ⟨k3, fun u hu => ⟨(k4 u hu).2.2.2.2.1, (k4 u hu).2.2.2.2.2⟩⟩
            obtain ⟨b, τ1, S, f1, eS, alt⟩ := sf_find (per := per) (h := h) ha hx hxw cn.2 C KK k2 (fun u hu => ⟨(k4 u hu).2.2.1, (k4 u hu).2.2.2.1⟩) cp.1 cp.2 ch.1 ch.2
            have fM : qf sm_l (pS σ2 0) (am_wI (pS σ2 0) 12 0 78 (Int32.ofInt (-1))) := qf.rf.wI rfl
            obtain ⟨K2, M2⟩ := sm_qM fM K M
            obtain ⟨τ2, f2, q2, -, Z⟩ := sm_try (σ := pS σ2 0) hm KK hx hxw rfl cn.2 cp.1 cp.2 ch.1 ch.2 (sb_n x 6) 0 8 (by omega) (by omega) (am_wI (pS σ2 0) 12 0 78 (Int32.ofInt (-1))) (fun _ => 0) (1000000, fun _ => 0) K2 M2 (fun j hj => absurd hj (Nat.not_lt_zero j)) (fun u hu => (k4 u hu).1.1) ⟨⟨by show (0 : Int) ≤ 1000000; omega, by show (1000000 : Int) ≤ 1000000; omega⟩, fun _ => ⟨rfl, rfl, fun j => rfl⟩, fun z => absurd rfl z⟩
            rw [← eS] at Z
            have f2' : f_X12_shareFrom 8 (Int32.ofInt (m : Int)) (Int32.ofInt (x : Int)) (Int32.ofInt 0) (Int32.ofInt per) (Int32.ofInt h) (am_wI (pS σ2 0) 12 0 78 (Int32.ofInt (-1))) = some τ2 := f2
            have q2' : qf sx_lM (pS σ2 0) τ2 := (fM.tr q2).mo (by decide +kernel)
            obtain ⟨zb, z1, z2⟩ := Z
            rcases alt with ⟨s1, rfl, q1⟩ | ⟨s1, sb', rfl, q1, t8, t14, t813⟩
            · obtain ⟨e78, e30, e45⟩ := z1 s1
              refine ⟨Int32.ofInt (-1), pT τ1 9, am_wI τ2 12 0 0 (Int32.ofInt 9), ?_, ?_, rfl, ?_⟩
              · simp (disch := omega) only [f_X11_none, f1, Option.bind_some, qi, ql, qI_lt, qI_le, qI_eq, qI_L, qI_ix, qL_lt, qL_eq, q_nat, q_cs, ← Int32.ofInt_add, ← Int32.ofInt_sub, ← Int32.ofInt_mul, ← Int32.ofInt_neg, ← Int64.ofInt_add, ← Int64.ofInt_sub, ← Int64.ofInt_mul, ← Int64.ofInt_neg, pL_I, q_mx, q_mn, q_ab, q_abL, q_mnL, q_nn0, q_nn1, q_rr, q_b1, q_b0, q_T, q_F, q_iT, q_iF, q_d, q_in, q_wi, q_hC, q_hM, pT_i, pU_i, pS_i, pS_j, pS_0, Sum.elim_inl, Sum.elim_inr, if_pos, if_neg]
              · simp (disch := omega) only [f_X12_refuse, f2', e78, Option.bind_some, qi, ql, qI_lt, qI_le, qI_eq, qI_L, qI_ix, qL_lt, qL_eq, q_nat, q_cs, ← Int32.ofInt_add, ← Int32.ofInt_sub, ← Int32.ofInt_mul, ← Int32.ofInt_neg, ← Int64.ofInt_add, ← Int64.ofInt_sub, ← Int64.ofInt_mul, ← Int64.ofInt_neg, pL_I, q_mx, q_mn, q_ab, q_abL, q_mnL, q_nn0, q_nn1, q_rr, q_b1, q_b0, q_T, q_F, q_iT, q_iF, q_d, q_in, q_wi, q_hC, q_hM, pT_i, pU_i, pS_i, pS_j, pS_0, Sum.elim_inl, Sum.elim_inr, if_pos, if_neg]
              · refine (hR.2.S 0).st sx_lC sx_lM [7] (by decide +kernel) ((q1.mo (by decide +kernel)).wI rfl) (q2'.wI rfl) ?_
                intro n hn
                rw [List.mem_singleton] at hn
                subst hn
                obtain ⟨n, nb', g1, g2, g3⟩ := (show pr_share σ1 (pS σ2 0) from hR.2.S 0 7 (by omega))
                refine ⟨n, nb', ?_, ?_, fun j hj => ?_⟩
                · show τ1.1 7 0 14 = _
                  rw [(q1 7 0 14 rfl).1]
                  exact g1
                · show τ2.1 12 0 30 = _
                  rw [e30]
                  exact g2
                · show τ1.1 813 0 j = τ2.1 1345 0 j
                  rw [(q1 813 0 j rfl).1, e45]
                  exact g3 j hj
            · obtain ⟨e78, e30, e45⟩ := z2 s1
              refine ⟨Int32.ofInt S.1, pT τ1 0, τ2, ?_, ?_, ?_, ?_⟩
              · simp (disch := omega) only [f_X11_answer, f1, t8, Option.bind_some, qi, ql, qI_lt, qI_le, qI_eq, qI_L, qI_ix, qL_lt, qL_eq, q_nat, q_cs, ← Int32.ofInt_add, ← Int32.ofInt_sub, ← Int32.ofInt_mul, ← Int32.ofInt_neg, ← Int64.ofInt_add, ← Int64.ofInt_sub, ← Int64.ofInt_mul, ← Int64.ofInt_neg, pL_I, q_mx, q_mn, q_ab, q_abL, q_mnL, q_nn0, q_nn1, q_rr, q_b1, q_b0, q_T, q_F, q_iT, q_iF, q_d, q_in, q_wi, q_hC, q_hM, pT_i, pU_i, pS_i, pS_j, pS_0, Sum.elim_inl, Sum.elim_inr, if_pos, if_neg]
              · simp (disch := omega) only [f2', e78, Option.bind_some, qi, ql, qI_lt, qI_le, qI_eq, qI_L, qI_ix, qL_lt, qL_eq, q_nat, q_cs, ← Int32.ofInt_add, ← Int32.ofInt_sub, ← Int32.ofInt_mul, ← Int32.ofInt_neg, ← Int64.ofInt_add, ← Int64.ofInt_sub, ← Int64.ofInt_mul, ← Int64.ofInt_neg, pL_I, q_mx, q_mn, q_ab, q_abL, q_mnL, q_nn0, q_nn1, q_rr, q_b1, q_b0, q_T, q_F, q_iT, q_iF, q_d, q_in, q_wi, q_hC, q_hM, pT_i, pU_i, pS_i, pS_j, pS_0, Sum.elim_inl, Sum.elim_inr, if_pos, if_neg]
              · rw [(q2 12 0 0 rfl).1]
                rfl
              · refine (hR.2.S 0).st sx_lC sx_lM [7] (by decide +kernel) ((q1.mo (by decide +kernel)).wI rfl) q2' ?_
                intro n hn
                rw [List.mem_singleton] at hn
                subst hn
                refine ⟨2 * (sb_n x 6 : Int), by omega, t14, e30, fun j hj => ?_⟩
                show τ1.1 813 0 j = τ2.1 1345 0 j
                rw [t813 j (by omega), e45 j (by omega)]
          · refine pr_ro hR (Int32.ofInt (-1)) 5 ?_ ?_
            · simp (disch := omega) only [f_X11_share_58, f_X11_none, Option.bind_some, qi, ql, qI_lt, qI_le, qI_eq, qI_L, qI_ix, qL_lt, qL_eq, q_nat, q_cs, ← Int32.ofInt_add, ← Int32.ofInt_sub, ← Int32.ofInt_mul, ← Int32.ofInt_neg, ← Int64.ofInt_add, ← Int64.ofInt_sub, ← Int64.ofInt_mul, ← Int64.ofInt_neg, pL_I, q_mx, q_mn, q_ab, q_abL, q_mnL, q_nn0, q_nn1, q_rr, q_b1, q_b0, q_T, q_F, q_iT, q_iF, q_d, q_in, q_wi, q_hC, q_hM, pT_i, pU_i, pS_i, pS_j, pS_0, Sum.elim_inl, Sum.elim_inr, if_pos, if_neg]
            · simp (disch := omega) only [f_X12_share_78, f_X12_refuse, Option.bind_some, qi, ql, qI_lt, qI_le, qI_eq, qI_L, qI_ix, qL_lt, qL_eq, q_nat, q_cs, ← Int32.ofInt_add, ← Int32.ofInt_sub, ← Int32.ofInt_mul, ← Int32.ofInt_neg, ← Int64.ofInt_add, ← Int64.ofInt_sub, ← Int64.ofInt_mul, ← Int64.ofInt_neg, pL_I, q_mx, q_mn, q_ab, q_abL, q_mnL, q_nn0, q_nn1, q_rr, q_b1, q_b0, q_T, q_F, q_iT, q_iF, q_d, q_in, q_wi, q_hC, q_hM, pT_i, pU_i, pS_i, pS_j, pS_0, Sum.elim_inl, Sum.elim_inr, if_pos, if_neg]
        · refine pr_ro hR (Int32.ofInt (-1)) 5 ?_ ?_
          · simp (disch := omega) only [f_X11_share_58, f_X11_none, Option.bind_some, qi, ql, qI_lt, qI_le, qI_eq, qI_L, qI_ix, qL_lt, qL_eq, q_nat, q_cs, ← Int32.ofInt_add, ← Int32.ofInt_sub, ← Int32.ofInt_mul, ← Int32.ofInt_neg, ← Int64.ofInt_add, ← Int64.ofInt_sub, ← Int64.ofInt_mul, ← Int64.ofInt_neg, pL_I, q_mx, q_mn, q_ab, q_abL, q_mnL, q_nn0, q_nn1, q_rr, q_b1, q_b0, q_T, q_F, q_iT, q_iF, q_d, q_in, q_wi, q_hC, q_hM, pT_i, pU_i, pS_i, pS_j, pS_0, Sum.elim_inl, Sum.elim_inr, if_pos, if_neg]
          · simp (disch := omega) only [f_X12_share_78, f_X12_refuse, Option.bind_some, qi, ql, qI_lt, qI_le, qI_eq, qI_L, qI_ix, qL_lt, qL_eq, q_nat, q_cs, ← Int32.ofInt_add, ← Int32.ofInt_sub, ← Int32.ofInt_mul, ← Int32.ofInt_neg, ← Int64.ofInt_add, ← Int64.ofInt_sub, ← Int64.ofInt_mul, ← Int64.ofInt_neg, pL_I, q_mx, q_mn, q_ab, q_abL, q_mnL, q_nn0, q_nn1, q_rr, q_b1, q_b0, q_T, q_F, q_iT, q_iF, q_d, q_in, q_wi, q_hC, q_hM, pT_i, pU_i, pS_i, pS_j, pS_0, Sum.elim_inl, Sum.elim_inr, if_pos, if_neg]
      · refine pr_ro hR (Int32.ofInt (-1)) 5 ?_ ?_
        · simp (disch := omega) only [f_X11_share_58, f_X11_none, Option.bind_some, qi, ql, qI_lt, qI_le, qI_eq, qI_L, qI_ix, qL_lt, qL_eq, q_nat, q_cs, ← Int32.ofInt_add, ← Int32.ofInt_sub, ← Int32.ofInt_mul, ← Int32.ofInt_neg, ← Int64.ofInt_add, ← Int64.ofInt_sub, ← Int64.ofInt_mul, ← Int64.ofInt_neg, pL_I, q_mx, q_mn, q_ab, q_abL, q_mnL, q_nn0, q_nn1, q_rr, q_b1, q_b0, q_T, q_F, q_iT, q_iF, q_d, q_in, q_wi, q_hC, q_hM, pT_i, pU_i, pS_i, pS_j, pS_0, Sum.elim_inl, Sum.elim_inr, if_pos, if_neg]
        · simp (disch := omega) only [f_X12_share_78, f_X12_refuse, Option.bind_some, qi, ql, qI_lt, qI_le, qI_eq, qI_L, qI_ix, qL_lt, qL_eq, q_nat, q_cs, ← Int32.ofInt_add, ← Int32.ofInt_sub, ← Int32.ofInt_mul, ← Int32.ofInt_neg, ← Int64.ofInt_add, ← Int64.ofInt_sub, ← Int64.ofInt_mul, ← Int64.ofInt_neg, pL_I, q_mx, q_mn, q_ab, q_abL, q_mnL, q_nn0, q_nn1, q_rr, q_b1, q_b0, q_T, q_F, q_iT, q_iF, q_d, q_in, q_wi, q_hC, q_hM, pT_i, pU_i, pS_i, pS_j, pS_0, Sum.elim_inl, Sum.elim_inr, if_pos, if_neg]
    · refine pr_ro hR (Int32.ofInt (-1)) 2 ?_ ?_
      · rw [eC, if_neg (fun z => cs (sh'.mp z))]
        simp (disch := omega) only [f_X11_share_22, f_X11_none, Option.bind_some, qi, ql, qI_lt, qI_le, qI_eq, qI_L, qI_ix, qL_lt, qL_eq, q_nat, q_cs, ← Int32.ofInt_add, ← Int32.ofInt_sub, ← Int32.ofInt_mul, ← Int32.ofInt_neg, ← Int64.ofInt_add, ← Int64.ofInt_sub, ← Int64.ofInt_mul, ← Int64.ofInt_neg, pL_I, q_mx, q_mn, q_ab, q_abL, q_mnL, q_nn0, q_nn1, q_rr, q_b1, q_b0, q_T, q_F, q_iT, q_iF, q_d, q_in, q_wi, q_hC, q_hM, pT_i, pU_i, pS_i, pS_j, pS_0, Sum.elim_inl, Sum.elim_inr, if_pos, if_neg]
      · rw [eR]
        simp (disch := omega) only [f_X12_share_37, f_X12_refuse, Option.bind_some, qi, ql, qI_lt, qI_le, qI_eq, qI_L, qI_ix, qL_lt, qL_eq, q_nat, q_cs, ← Int32.ofInt_add, ← Int32.ofInt_sub, ← Int32.ofInt_mul, ← Int32.ofInt_neg, ← Int64.ofInt_add, ← Int64.ofInt_sub, ← Int64.ofInt_mul, ← Int64.ofInt_neg, pL_I, q_mx, q_mn, q_ab, q_abL, q_mnL, q_nn0, q_nn1, q_rr, q_b1, q_b0, q_T, q_F, q_iT, q_iF, q_d, q_in, q_wi, q_hC, q_hM, pT_i, pU_i, pS_i, pS_j, pS_0, Sum.elim_inl, Sum.elim_inr, if_pos, if_neg]
