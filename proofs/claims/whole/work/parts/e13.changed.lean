/-! ===== CHANGED: the two GAUGES lie apart ===== -/
theorem sg_take {σ1 σ2 : am_H} (r : Nat) {th tr n : Nat} {mh mr : Int} (hth : th < 5) (htr : tr < 5) (n1 : 1 ≤ n) (n2 : n ≤ 24) (dh : σ1.1 8 th 1 = Int32.ofInt mh) (dr : σ1.1 8 tr 1 = Int32.ofInt mr) (bh : n ≤ mh ∧ mh ≤ 60) (br : n ≤ mr ∧ mr ≤ 60) (vh : ∀ j : Nat, (j : Int) < mh → σ1.2.1 902 th j = σ2.2.1 1306 0 (60 * th + j)) (vr : ∀ j : Nat, (j : Int) < mr → σ1.2.1 902 tr j = σ2.2.1 1306 0 (60 * tr + j)) : ∃ (b : Bool) (τ : am_H), f_X1_takeFrom r th tr (Int32.ofInt n) σ1 = some (b, τ) ∧ f_X12_areRead (Int32.ofInt th) (Int32.ofInt tr) (Int32.ofInt n) σ2 = some b ∧ qf pg_l σ1 τ ∧ qo r σ1 τ ∧ (b = true → ∃ hs rd : Nat → Int, pg_C τ r n hs rd ∧ pg_M σ2 th tr n hs rd) := by
  have em : max 0 (min (n : Int) 24) = n := by omega
  have key := am_loop_2 (B1 := fun s : Int32 × am_H => f_X1_takeFrom_17 r th tr s.1 s.2) (B2 := fun s : Int32 => f_X12_areRead_3 (Int32.ofInt th) (Int32.ofInt tr) (Int32.ofInt n) s σ2) (fun k s1 s2 => ∃ (j : Nat) (τ : am_H), s1 = (Int32.ofInt j, τ) ∧ s2 = Int32.ofInt j ∧ j ≤ n ∧ qf pg_l σ1 τ ∧ qo r σ1 τ ∧ τ.1 1 r 0 = Int32.ofInt n ∧ (∀ i, i < j → τ.1 201 r i = Int32.ofInt (σ1.2.1 902 th i).toInt ∧ τ.1 202 r i = Int32.ofInt (σ1.2.1 902 tr i).toInt ∧ (0 ≤ (σ1.2.1 902 th i).toInt ∧ (σ1.2.1 902 th i).toInt ≤ 99999) ∧ (-999 ≤ (σ1.2.1 902 tr i).toInt ∧ (σ1.2.1 902 tr i).toInt ≤ 1000)) ∧ k = n - j) (fun r1 r2 => ∃ τ : am_H, qf pg_l σ1 τ ∧ qo r σ1 τ ∧ ((r1 = .inl τ ∧ r2 = .inl ()) ∨ (r1 = .inr τ ∧ r2 = .inr () ∧ τ.1 1 r 0 = Int32.ofInt n ∧ (∀ i, i < n → τ.1 201 r i = Int32.ofInt (σ1.2.1 902 th i).toInt ∧ τ.1 202 r i = Int32.ofInt (σ1.2.1 902 tr i).toInt ∧ (0 ≤ (σ1.2.1 902 th i).toInt ∧ (σ1.2.1 902 th i).toInt ≤ 99999) ∧ (-999 ≤ (σ1.2.1 902 tr i).toInt ∧ (σ1.2.1 902 tr i).toInt ≤ 1000))))) (by
    rintro k s1 s2 ⟨j, τ, rfl, rfl, hj, hq, ho, h0, hi, rfl⟩
    by_cases ce : j < n
    · have ah : f_X8_at th (Int32.ofInt j) τ = some (σ1.2.1 902 th j) := by
        have d : τ.1 8 th 1 = Int32.ofInt mh := ((hq 8 th 1 rfl).1).trans dh
        have v : τ.2.1 902 th j = σ1.2.1 902 th j := (hq 902 th j rfl).2.1
        simp (disch := omega) only [f_X8_at, d, v, Option.bind_some, qi, ql, qI_lt, qI_le, qI_eq, qI_L, qI_ix, qL_lt, qL_eq, q_nat, q_cs, ← Int32.ofInt_add, ← Int32.ofInt_sub, ← Int32.ofInt_mul, ← Int32.ofInt_neg, ← Int64.ofInt_add, ← Int64.ofInt_sub, ← Int64.ofInt_mul, ← Int64.ofInt_neg, pL_I, q_mx, q_mn, q_ab, q_abL, q_mnL, q_nn0, q_nn1, q_rr, q_b1, q_b0, q_T, q_F, q_iT, q_iF, q_d, q_in, q_wi, q_hC, q_hM, pT_i, pU_i, pS_i, pS_j, pS_0, Sum.elim_inl, Sum.elim_inr, if_pos, if_neg]
      have ar : f_X8_at tr (Int32.ofInt j) τ = some (σ1.2.1 902 tr j) := by
        have d : τ.1 8 tr 1 = Int32.ofInt mr := ((hq 8 tr 1 rfl).1).trans dr
        have v : τ.2.1 902 tr j = σ1.2.1 902 tr j := (hq 902 tr j rfl).2.1
        simp (disch := omega) only [f_X8_at, d, v, Option.bind_some, qi, ql, qI_lt, qI_le, qI_eq, qI_L, qI_ix, qL_lt, qL_eq, q_nat, q_cs, ← Int32.ofInt_add, ← Int32.ofInt_sub, ← Int32.ofInt_mul, ← Int32.ofInt_neg, ← Int64.ofInt_add, ← Int64.ofInt_sub, ← Int64.ofInt_mul, ← Int64.ofInt_neg, pL_I, q_mx, q_mn, q_ab, q_abL, q_mnL, q_nn0, q_nn1, q_rr, q_b1, q_b0, q_T, q_F, q_iT, q_iF, q_d, q_in, q_wi, q_hC, q_hM, pT_i, pU_i, pS_i, pS_j, pS_0, Sum.elim_inl, Sum.elim_inr, if_pos, if_neg]
      have mh' := pg_num hth (by omega : j < 60) (vh j (by omega)).symm
      have mr' := pg_num htr (by omega : j < 60) (vr j (by omega)).symm
      have bH := q_i64 (σ1.2.1 902 th j)
      have bR := q_i64 (σ1.2.1 902 tr j)
      have eH : σ1.2.1 902 th j = Int64.ofInt (σ1.2.1 902 th j).toInt := (Int64.ofInt_toInt _).symm
      have eR : σ1.2.1 902 tr j = Int64.ofInt (σ1.2.1 902 tr j).toInt := (Int64.ofInt_toInt _).symm
      generalize hvh : (σ1.2.1 902 th j).toInt = vh' at bH eH
      generalize hvr : (σ1.2.1 902 tr j).toInt = vr' at bR eR
      rw [eH] at ah mh'
      rw [eR] at ar mr'
      by_cases c1 : 0 ≤ vh' ∧ vh' ≤ 99999
      · by_cases c2 : -999 ≤ vr' ∧ vr' ≤ 1000
        · right
          refine ⟨(Int32.ofInt ((j : Int) + 1), am_wI (am_wI τ 201 r j (Int32.ofInt vh')) 202 r j (Int32.ofInt vr')), Int32.ofInt ((j : Int) + 1), n - (j + 1), ?_, ?_, by omega, j + 1, _, rfl, rfl, by omega, (hq.wI rfl).wI rfl, ho.wI.wI, h0, fun i hi' => ?_, rfl⟩
          · simp (disch := omega) only [f_X1_takeFrom_17, h0, ah, ar, Option.bind_some, qi, ql, qI_lt, qI_le, qI_eq, qI_L, qI_ix, qL_lt, qL_eq, q_nat, q_cs, ← Int32.ofInt_add, ← Int32.ofInt_sub, ← Int32.ofInt_mul, ← Int32.ofInt_neg, ← Int64.ofInt_add, ← Int64.ofInt_sub, ← Int64.ofInt_mul, ← Int64.ofInt_neg, pL_I, q_mx, q_mn, q_ab, q_abL, q_mnL, q_nn0, q_nn1, q_rr, q_b1, q_b0, q_T, q_F, q_iT, q_iF, q_d, q_in, q_wi, q_hC, q_hM, pT_i, pU_i, pS_i, pS_j, pS_0, Sum.elim_inl, Sum.elim_inr, if_pos, if_neg]
          · simp (disch := omega) only [f_X12_areRead_3, mh', mr', Option.bind_some, qi, ql, qI_lt, qI_le, qI_eq, qI_L, qI_ix, qL_lt, qL_eq, q_nat, q_cs, ← Int32.ofInt_add, ← Int32.ofInt_sub, ← Int32.ofInt_mul, ← Int32.ofInt_neg, ← Int64.ofInt_add, ← Int64.ofInt_sub, ← Int64.ofInt_mul, ← Int64.ofInt_neg, pL_I, q_mx, q_mn, q_ab, q_abL, q_mnL, q_nn0, q_nn1, q_rr, q_b1, q_b0, q_T, q_F, q_iT, q_iF, q_d, q_in, q_wi, q_hC, q_hM, pT_i, pU_i, pS_i, pS_j, pS_0, Sum.elim_inl, Sum.elim_inr, if_pos, if_neg]
          · by_cases cj : i = j
            · subst cj
              rw [hvh, hvr]
              exact ⟨by simp [am_wI, am_u3], by simp [am_wI, am_u3], c1, c2⟩
            · obtain ⟨u1, u2, u3, u4⟩ := hi i (by omega)
              exact ⟨by simp [am_wI, am_u3, cj]; exact u1, by simp [am_wI, am_u3, cj]; exact u2, u3, u4⟩
        · left
          refine ⟨.inl τ, .inl (), ?_, ?_, τ, hq, ho, Or.inl ⟨rfl, rfl⟩⟩
          · by_cases c3 : vr' < -999
            · simp (disch := omega) only [f_X1_takeFrom_17, h0, ah, ar, Option.bind_some, qi, ql, qI_lt, qI_le, qI_eq, qI_L, qI_ix, qL_lt, qL_eq, q_nat, q_cs, ← Int32.ofInt_add, ← Int32.ofInt_sub, ← Int32.ofInt_mul, ← Int32.ofInt_neg, ← Int64.ofInt_add, ← Int64.ofInt_sub, ← Int64.ofInt_mul, ← Int64.ofInt_neg, pL_I, q_mx, q_mn, q_ab, q_abL, q_mnL, q_nn0, q_nn1, q_rr, q_b1, q_b0, q_T, q_F, q_iT, q_iF, q_d, q_in, q_wi, q_hC, q_hM, pT_i, pU_i, pS_i, pS_j, pS_0, Sum.elim_inl, Sum.elim_inr, if_pos, if_neg]
            · simp (disch := omega) only [f_X1_takeFrom_17, h0, ah, ar, Option.bind_some, qi, ql, qI_lt, qI_le, qI_eq, qI_L, qI_ix, qL_lt, qL_eq, q_nat, q_cs, ← Int32.ofInt_add, ← Int32.ofInt_sub, ← Int32.ofInt_mul, ← Int32.ofInt_neg, ← Int64.ofInt_add, ← Int64.ofInt_sub, ← Int64.ofInt_mul, ← Int64.ofInt_neg, pL_I, q_mx, q_mn, q_ab, q_abL, q_mnL, q_nn0, q_nn1, q_rr, q_b1, q_b0, q_T, q_F, q_iT, q_iF, q_d, q_in, q_wi, q_hC, q_hM, pT_i, pU_i, pS_i, pS_j, pS_0, Sum.elim_inl, Sum.elim_inr, if_pos, if_neg]
          · simp (disch := omega) only [f_X12_areRead_3, mh', mr', Option.bind_some, qi, ql, qI_lt, qI_le, qI_eq, qI_L, qI_ix, qL_lt, qL_eq, q_nat, q_cs, ← Int32.ofInt_add, ← Int32.ofInt_sub, ← Int32.ofInt_mul, ← Int32.ofInt_neg, ← Int64.ofInt_add, ← Int64.ofInt_sub, ← Int64.ofInt_mul, ← Int64.ofInt_neg, pL_I, q_mx, q_mn, q_ab, q_abL, q_mnL, q_nn0, q_nn1, q_rr, q_b1, q_b0, q_T, q_F, q_iT, q_iF, q_d, q_in, q_wi, q_hC, q_hM, pT_i, pU_i, pS_i, pS_j, pS_0, Sum.elim_inl, Sum.elim_inr, if_pos, if_neg]
      · left
        refine ⟨.inl τ, .inl (), ?_, ?_, τ, hq, ho, Or.inl ⟨rfl, rfl⟩⟩
        · by_cases c3 : vh' < 0
          · simp (disch := omega) only [f_X1_takeFrom_17, h0, ah, ar, Option.bind_some, qi, ql, qI_lt, qI_le, qI_eq, qI_L, qI_ix, qL_lt, qL_eq, q_nat, q_cs, ← Int32.ofInt_add, ← Int32.ofInt_sub, ← Int32.ofInt_mul, ← Int32.ofInt_neg, ← Int64.ofInt_add, ← Int64.ofInt_sub, ← Int64.ofInt_mul, ← Int64.ofInt_neg, pL_I, q_mx, q_mn, q_ab, q_abL, q_mnL, q_nn0, q_nn1, q_rr, q_b1, q_b0, q_T, q_F, q_iT, q_iF, q_d, q_in, q_wi, q_hC, q_hM, pT_i, pU_i, pS_i, pS_j, pS_0, Sum.elim_inl, Sum.elim_inr, if_pos, if_neg]
          · simp (disch := omega) only [f_X1_takeFrom_17, h0, ah, ar, Option.bind_some, qi, ql, qI_lt, qI_le, qI_eq, qI_L, qI_ix, qL_lt, qL_eq, q_nat, q_cs, ← Int32.ofInt_add, ← Int32.ofInt_sub, ← Int32.ofInt_mul, ← Int32.ofInt_neg, ← Int64.ofInt_add, ← Int64.ofInt_sub, ← Int64.ofInt_mul, ← Int64.ofInt_neg, pL_I, q_mx, q_mn, q_ab, q_abL, q_mnL, q_nn0, q_nn1, q_rr, q_b1, q_b0, q_T, q_F, q_iT, q_iF, q_d, q_in, q_wi, q_hC, q_hM, pT_i, pU_i, pS_i, pS_j, pS_0, Sum.elim_inl, Sum.elim_inr, if_pos, if_neg]
        · simp (disch := omega) only [f_X12_areRead_3, mh', mr', Option.bind_some, qi, ql, qI_lt, qI_le, qI_eq, qI_L, qI_ix, qL_lt, qL_eq, q_nat, q_cs, ← Int32.ofInt_add, ← Int32.ofInt_sub, ← Int32.ofInt_mul, ← Int32.ofInt_neg, ← Int64.ofInt_add, ← Int64.ofInt_sub, ← Int64.ofInt_mul, ← Int64.ofInt_neg, pL_I, q_mx, q_mn, q_ab, q_abL, q_mnL, q_nn0, q_nn1, q_rr, q_b1, q_b0, q_T, q_F, q_iT, q_iF, q_d, q_in, q_wi, q_hC, q_hM, pT_i, pU_i, pS_i, pS_j, pS_0, Sum.elim_inl, Sum.elim_inr, if_pos, if_neg]
    · left
      have : j = n := by omega
      subst this
      refine ⟨.inr τ, .inr (), ?_, ?_, τ, hq, ho, Or.inr ⟨rfl, rfl, h0, hi⟩⟩
      · simp (disch := omega) only [f_X1_takeFrom_17, h0, Option.bind_some, qi, ql, qI_lt, qI_le, qI_eq, qI_L, qI_ix, qL_lt, qL_eq, q_nat, q_cs, ← Int32.ofInt_add, ← Int32.ofInt_sub, ← Int32.ofInt_mul, ← Int32.ofInt_neg, ← Int64.ofInt_add, ← Int64.ofInt_sub, ← Int64.ofInt_mul, ← Int64.ofInt_neg, pL_I, q_mx, q_mn, q_ab, q_abL, q_mnL, q_nn0, q_nn1, q_rr, q_b1, q_b0, q_T, q_F, q_iT, q_iF, q_d, q_in, q_wi, q_hC, q_hM, pT_i, pU_i, pS_i, pS_j, pS_0, Sum.elim_inl, Sum.elim_inr, if_pos, if_neg]
      · simp (disch := omega) only [f_X12_areRead_3, Option.bind_some, qi, ql, qI_lt, qI_le, qI_eq, qI_L, qI_ix, qL_lt, qL_eq, q_nat, q_cs, ← Int32.ofInt_add, ← Int32.ofInt_sub, ← Int32.ofInt_mul, ← Int32.ofInt_neg, ← Int64.ofInt_add, ← Int64.ofInt_sub, ← Int64.ofInt_mul, ← Int64.ofInt_neg, pL_I, q_mx, q_mn, q_ab, q_abL, q_mnL, q_nn0, q_nn1, q_rr, q_b1, q_b0, q_T, q_F, q_iT, q_iF, q_d, q_in, q_wi, q_hC, q_hM, pT_i, pU_i, pS_i, pS_j, pS_0, Sum.elim_inl, Sum.elim_inr, if_pos, if_neg]) n (Int32.ofInt 0, am_wI σ1 1 r 0 (Int32.ofInt n)) (Int32.ofInt 0) ⟨0, _, rfl, rfl, by omega, qf.rf.wI rfl, qo.rf.wI, by simp [am_wI, am_u3], fun i hi => by omega, rfl⟩
  obtain ⟨r1, r2, k1, k2, τ, hq, ho, c⟩ := key
  rcases c with ⟨rfl, rfl⟩ | ⟨rfl, rfl, h0, hi⟩
  · refine ⟨false, τ, ?_, ?_, hq, ho, fun z => by cases z⟩
    · simp (disch := omega) only [f_X1_takeFrom, em, k1, Option.bind_some, qi, ql, qI_lt, qI_le, qI_eq, qI_L, qI_ix, qL_lt, qL_eq, q_nat, q_cs, ← Int32.ofInt_add, ← Int32.ofInt_sub, ← Int32.ofInt_mul, ← Int32.ofInt_neg, ← Int64.ofInt_add, ← Int64.ofInt_sub, ← Int64.ofInt_mul, ← Int64.ofInt_neg, pL_I, q_mx, q_mn, q_ab, q_abL, q_mnL, q_nn0, q_nn1, q_rr, q_b1, q_b0, q_T, q_F, q_iT, q_iF, q_d, q_in, q_wi, q_hC, q_hM, pT_i, pU_i, pS_i, pS_j, pS_0, Sum.elim_inl, Sum.elim_inr, if_pos, if_neg]
    · simp (disch := omega) only [f_X12_areRead, k2, Option.bind_some, qi, ql, qI_lt, qI_le, qI_eq, qI_L, qI_ix, qL_lt, qL_eq, q_nat, q_cs, ← Int32.ofInt_add, ← Int32.ofInt_sub, ← Int32.ofInt_mul, ← Int32.ofInt_neg, ← Int64.ofInt_add, ← Int64.ofInt_sub, ← Int64.ofInt_mul, ← Int64.ofInt_neg, pL_I, q_mx, q_mn, q_ab, q_abL, q_mnL, q_nn0, q_nn1, q_rr, q_b1, q_b0, q_T, q_F, q_iT, q_iF, q_d, q_in, q_wi, q_hC, q_hM, pT_i, pU_i, pS_i, pS_j, pS_0, Sum.elim_inl, Sum.elim_inr, if_pos, if_neg]
  · refine ⟨true, τ, ?_, ?_, hq, ho, fun _ => ⟨fun j => (σ1.2.1 902 th j).toInt, fun j => (σ1.2.1 902 tr j).toInt, ⟨h0, fun j hj => ⟨(hi j hj).1, (hi j hj).2.1⟩⟩, fun j hj => ⟨?_, ?_, (hi j hj).2.2.1, (hi j hj).2.2.2⟩⟩⟩
    · simp (disch := omega) only [f_X1_takeFrom, em, k1, Option.bind_some, qi, ql, qI_lt, qI_le, qI_eq, qI_L, qI_ix, qL_lt, qL_eq, q_nat, q_cs, ← Int32.ofInt_add, ← Int32.ofInt_sub, ← Int32.ofInt_mul, ← Int32.ofInt_neg, ← Int64.ofInt_add, ← Int64.ofInt_sub, ← Int64.ofInt_mul, ← Int64.ofInt_neg, pL_I, q_mx, q_mn, q_ab, q_abL, q_mnL, q_nn0, q_nn1, q_rr, q_b1, q_b0, q_T, q_F, q_iT, q_iF, q_d, q_in, q_wi, q_hC, q_hM, pT_i, pU_i, pS_i, pS_j, pS_0, Sum.elim_inl, Sum.elim_inr, if_pos, if_neg]
    · simp (disch := omega) only [f_X12_areRead, k2, Option.bind_some, qi, ql, qI_lt, qI_le, qI_eq, qI_L, qI_ix, qL_lt, qL_eq, q_nat, q_cs, ← Int32.ofInt_add, ← Int32.ofInt_sub, ← Int32.ofInt_mul, ← Int32.ofInt_neg, ← Int64.ofInt_add, ← Int64.ofInt_sub, ← Int64.ofInt_mul, ← Int64.ofInt_neg, pL_I, q_mx, q_mn, q_ab, q_abL, q_mnL, q_nn0, q_nn1, q_rr, q_b1, q_b0, q_T, q_F, q_iT, q_iF, q_d, q_in, q_wi, q_hC, q_hM, pT_i, pU_i, pS_i, pS_j, pS_0, Sum.elim_inl, Sum.elim_inr, if_pos, if_neg]
    · rw [← vh j (by omega), Int64.ofInt_toInt]
    · rw [← vr j (by omega), Int64.ofInt_toInt]
theorem sK_o {σ τ : am_H} {r d n : Nat} {x : Nat → Nat → Int} {y : Nat → Int} {q : Nat} (h : qo q σ τ) (hr : r ≠ q) (K : sK σ r d n x y) : sK τ r d n x y := by
  obtain ⟨k1, k2, k3, k4⟩ := K
  exact ⟨((h 1 r 3 hr).1).trans k1, ((h 1 r 7 hr).2.1).trans k2, fun i k hi hk => ((h 205 r (5 * i + k) hr).2.1).trans (k3 i k hi hk), fun i hi => ((h 206 r i hr).2.1).trans (k4 i hi)⟩
theorem sC_o {σ τ : am_H} {r n : Nat} {hs rd : Nat → Int} {q : Nat} (h : qo q σ τ) (hr : r ≠ q) (C : pg_C σ r n hs rd) : pg_C τ r n hs rd := ⟨((h 1 r 0 hr).1).trans C.1, fun j hj => ⟨((h 201 r j hr).1).trans (C.2 j hj).1, ((h 202 r j hr).1).trans (C.2 j hj).2⟩⟩
theorem sC_q {σ τ : am_H} {r n : Nat} {hs rd : Nat → Int} (h : qf [(1, 3), (1, 7), (204, 999), (205, 999), (206, 999)] σ τ) (C : pg_C σ r n hs rd) : pg_C τ r n hs rd := ⟨((h 1 r 0 rfl).1).trans C.1, fun j hj => ⟨((h 201 r j rfl).1).trans (C.2 j hj).1, ((h 202 r j rfl).1).trans (C.2 j hj).2⟩⟩
/-- a part, rounded -/
def sr (d n j : Nat) (x : Nat → Nat → Int) (y : Nat → Int) : Int64 := Int64.ofInt (sdt d n j x y) / Int64.ofInt (sd d n x)
theorem sK_r {σ : am_H} {r d n j : Nat} {x : Nat → Nat → Int} {y : Nat → Int} (hd : d ≤ 5) (hj : j < 5) (K : sK σ r d n x y) (p0 : 0 < sd d n x) (p1 : sd d n x < 9223372036854775808) : f_X1_roundedPart r (Int32.ofInt (j : Int)) σ = some (sr d n j x y) := by
  have t := sK_top hd hj K
  have k2 := K.2.1
  simp (disch := omega) only [f_X1_roundedPart, f_X1_partTop, k2, t, Option.bind_some, qi, ql, qI_lt, qI_le, qI_eq, qI_L, qI_ix, qL_lt, qL_eq, q_nat, q_cs, ← Int32.ofInt_add, ← Int32.ofInt_sub, ← Int32.ofInt_mul, ← Int32.ofInt_neg, ← Int64.ofInt_add, ← Int64.ofInt_sub, ← Int64.ofInt_mul, ← Int64.ofInt_neg, pL_I, q_mx, q_mn, q_ab, q_abL, q_mnL, q_nn0, q_nn1, q_rr, q_b1, q_b0, q_T, q_F, q_iT, q_iF, q_d, q_in, q_wi, q_hC, q_hM, pT_i, pU_i, pS_i, pS_j, pS_0, Sum.elim_inl, Sum.elim_inr, if_pos, if_neg]
  rfl
/-- do the parts j and j + 1 differ by more -/
theorem sK_moved {σ : am_H} {d n j : Nat} {x x' : Nat → Nat → Int} {y y' : Nat → Int} {v : Int32} (hd : d ≤ 5) (hj : j < 4) (K : sK σ 0 d n x y) (p0 : 0 < sd d n x) (p1 : sd d n x < 9223372036854775808) (K' : sK σ 1 d n x' y') (p0' : 0 < sd d n x') (p1' : sd d n x' < 9223372036854775808) : f_X11_haveMoved (Int32.ofInt (j : Int)) v σ = some (decide (v.toInt64 < am_abL (sr d n j x' y' - sr d n j x y)) || decide (v.toInt64 < am_abL (sr d n (j + 1) x' y' - sr d n (j + 1) x y))) := by
  have a1 := sK_r hd (by omega : j < 5) K p0 p1
  have a2 := sK_r hd (by omega : j < 5) K' p0' p1'
  have a3 : f_X1_roundedPart 0 (Int32.ofInt ((j : Int) + 1)) σ = some (sr d n (j + 1) x y) := sK_r hd (by omega : j + 1 < 5) K p0 p1
  have a4 : f_X1_roundedPart 1 (Int32.ofInt ((j : Int) + 1)) σ = some (sr d n (j + 1) x' y') := sK_r hd (by omega : j + 1 < 5) K' p0' p1'
  have e1 : Int32.ofInt (j : Int) + 1 = Int32.ofInt ((j : Int) + 1) := by rw [qi, ← Int32.ofInt_add]
  unfold f_X11_haveMoved
  rw [a1, a2, e1, a3, a4]
  simp only [Option.bind_some]
  by_cases c1 : v.toInt64 < am_abL (sr d n j x' y' - sr d n j x y)
  · rw [if_pos c1, decide_eq_true c1, Bool.true_or]
  · rw [if_neg c1, decide_eq_false c1, Bool.false_or]
    by_cases c2 : v.toInt64 < am_abL (sr d n (j + 1) x' y' - sr d n (j + 1) x y)
    · rw [if_pos c2, decide_eq_true c2]
    · rw [if_neg c2, decide_eq_false c2]
/-- the reference keeps the first parts -/
theorem sL_keep {σ : am_H} {d n : Nat} {x : Nat → Nat → Int} {y : Nat → Int} {v1 v2 v3 v6 v7 v8 v9 : Int32} (hd : d ≤ 5) (K : sL σ d n x y) (p0 : 0 < sd d n x) (p1 : sd d n x < 9223372036854775808) : ∃ τ : am_H, am_loop (fun s : Int32 × am_H => f_X12_changed_272 v1 v2 v3 v6 v7 v8 v9 s.1 s.2) (Int32.ofInt 0, σ) = some τ ∧ (qf [(1384, 999)] σ τ ∧ ∀ j, j < d → τ.2.1 1384 0 j = sr d n j x y) := by
  refine am_loop_1 (B := fun s : Int32 × am_H => f_X12_changed_272 v1 v2 v3 v6 v7 v8 v9 s.1 s.2) (fun q s => ∃ (c : Nat) (τ : am_H), s = (Int32.ofInt (c : Int), τ) ∧ c ≤ d ∧ qf [(1384, 999)] σ τ ∧ (∀ j, j < c → τ.2.1 1384 0 j = sr d n j x y) ∧ q = d - c) (fun τ => qf [(1384, 999)] σ τ ∧ ∀ j, j < d → τ.2.1 1384 0 j = sr d n j x y) ?_ d _ ⟨0, σ, rfl, by omega, qf.rf, fun j hj => by omega, rfl⟩
  rintro q s ⟨c, τ, rfl, hc, hq, hi, rfl⟩
  obtain ⟨k1, k2, k3, k4⟩ := K
  have K' : sL τ d n x y := ⟨((hq 12 0 81 rfl).1).trans k1, ((hq 12 0 82 rfl).2.1).trans k2, fun i k hi hk => ((hq 1379 0 (5 * i + k) rfl).2.1).trans (k3 i k hi hk), fun i hi => ((hq 1380 0 i rfl).2.1).trans (k4 i hi)⟩
  have d81 := K'.1
  have d82 := K'.2.1
  by_cases ce : c < d
  · right
    have t := sL_top hd (by omega : c < 5) K'
    refine ⟨(Int32.ofInt ((c : Int) + 1), am_wL τ 1384 0 c (sr d n c x y)), d - (c + 1), ?_, by omega, c + 1, _, rfl, by omega, hq.wL rfl, fun j hj => ?_, rfl⟩
    · simp (disch := omega) only [f_X12_changed_272, d81, d82, t, Option.bind_some, qi, ql, qI_lt, qI_le, qI_eq, qI_L, qI_ix, qL_lt, qL_eq, q_nat, q_cs, ← Int32.ofInt_add, ← Int32.ofInt_sub, ← Int32.ofInt_mul, ← Int32.ofInt_neg, ← Int64.ofInt_add, ← Int64.ofInt_sub, ← Int64.ofInt_mul, ← Int64.ofInt_neg, pL_I, q_mx, q_mn, q_ab, q_abL, q_mnL, q_nn0, q_nn1, q_rr, q_b1, q_b0, q_T, q_F, q_iT, q_iF, q_d, q_in, q_wi, q_hC, q_hM, pT_i, pU_i, pS_i, pS_j, pS_0, Sum.elim_inl, Sum.elim_inr, if_pos, if_neg]
      rfl
    · rw [am_wL_r]
      by_cases e : j = c
      · rw [if_pos ⟨rfl, rfl, e⟩, e]
      · rw [if_neg (by omega), hi j (by omega)]
  · left
    have c5 : c = d := by omega
    subst c5
    refine ⟨τ, ?_, hq, hi⟩
    simp (disch := omega) only [f_X12_changed_272, d81, Option.bind_some, qi, ql, qI_lt, qI_le, qI_eq, qI_L, qI_ix, qL_lt, qL_eq, q_nat, q_cs, ← Int32.ofInt_add, ← Int32.ofInt_sub, ← Int32.ofInt_mul, ← Int32.ofInt_neg, ← Int64.ofInt_add, ← Int64.ofInt_sub, ← Int64.ofInt_mul, ← Int64.ofInt_neg, pL_I, q_mx, q_mn, q_ab, q_abL, q_mnL, q_nn0, q_nn1, q_rr, q_b1, q_b0, q_T, q_F, q_iT, q_iF, q_d, q_in, q_wi, q_hC, q_hM, pT_i, pU_i, pS_i, pS_j, pS_0, Sum.elim_inl, Sum.elim_inr, if_pos, if_neg]
/-- one part of the reference's answer -/
theorem sL_step {σ : am_H} {d n j : Nat} {x x' : Nat → Nat → Int} {y y' : Nat → Int} {v2 v3 v9 s : Int32} (hd : d ≤ 5) (hj : j < d) (K : sL σ d n x' y') (p0 : 0 < sd d n x') (p1 : sd d n x' < 9223372036854775808) (hk : σ.2.1 1384 0 j = sr d n j x y) : f_X12_changed_342 v2 v3 v9 s (Int32.ofInt (j : Int)) σ = some (.inl (if v9.toInt64 < am_abL (sr d n j x' y' - sr d n j x y) then (if j < 3 then s ||| (1 <<< (v2 &&& 31)) else s ||| (1 <<< (v3 &&& 31))) else s, Int32.ofInt ((j : Int) + 1))) := by
  have d81 := K.1
  have d82 := K.2.1
  have t := sL_top hd (by omega : j < 5) K
  have e0 : ¬ Int64.ofInt (sd d n x') = 0 := by
    rw [ql, qL_eq (by omega) (by omega) (by omega) (by omega)]
    omega
  have e1 : Int32.ofInt (j : Int) + 1 = Int32.ofInt ((j : Int) + 1) := by rw [qi, ← Int32.ofInt_add]
  have e2 : am_ix 5 (Int32.ofInt (j : Int)) = some j := by
    rw [qI_ix (by omega) (by omega) (by omega), q_nat]
  have e3 : (Int32.ofInt (j : Int) < 3) = (j < 3) := by
    rw [qi, qI_lt (by omega) (by omega) (by omega) (by omega)]
    exact propext ⟨fun h => by omega, fun h => by omega⟩
  have e4 : Int32.ofInt (j : Int) < σ.1 12 0 81 := by
    rw [d81, qI_lt (by omega) (by omega) (by omega) (by omega)]
    omega
  have t' : f_X12_reckon 8 0 0 (Int32.ofInt (j : Int)) σ = some (Int64.ofInt (sdt d n j x' y')) := t
  unfold f_X12_changed_342
  rw [if_pos e4, t']
  simp only [Option.bind_some, d82, if_neg e0, e2, hk, e1]
  show (if v9.toInt64 < am_abL (sr d n j x' y' - sr d n j x y) then _ else _) = _
  by_cases c1 : v9.toInt64 < am_abL (sr d n j x' y' - sr d n j x y)
  · rw [if_pos c1, if_pos c1]
    simp only [e3]
    by_cases c2 : j < 3
    · rw [if_pos c2, if_pos c2]
    · rw [if_neg c2, if_neg c2]
  · rw [if_neg c1, if_neg c1]
