/-! ===== OBEYED: how far until goes ===== -/
theorem pr_HHx {σ1 σ2 : am_H} {m a wc : Nat} {ws : Nat → Nat → Int} {zr : Int} (hm : m < 3) (C : ph_C σ1 a wc ws zr) (M : ph_M σ2 m wc ws (max zr 0)) : pr_HH σ1 σ2 m a (fun b h => ph_sum ws (max zr 0) h b wc) (ph_sw ws wc) (12 * max zr 0) := by
  have hz := ph_zero C
  refine ⟨fun b h h0 h1 => ⟨ph_heightAt C h0 h1, ph_heightOf M hm h0 h1, ?_⟩, ?_, hz, ?_, ?_, fun b h h0 h1 => ?_⟩
  · obtain ⟨c1, -, -, ⟨z1, z2⟩, c5⟩ := C
    have hb := ph_b (ws := ws) (z := max zr 0) (h := h) (b := b) (n := wc) (by omega) (fun i hi => (c5 i hi).1)
    show -9000 ≤ ph_sum ws (max zr 0) h b wc ∧ ph_sum ws (max zr 0) h b wc ≤ 9000
    omega
  · obtain ⟨c1, c2, c3, c4, c5⟩ := C
    have lp := am_loop_n (body := fun s : Int32 × Int32 => f_X3_mostSwing_4 a s.1 s.2 σ1) (fun i => (Int32.ofInt (ph_sw ws i), Int32.ofInt i)) wc (r := Int32.ofInt (ph_sw ws wc)) ?_ ?_
    · have lp' : am_loop (fun s : Int32 × Int32 => f_X3_mostSwing_4 a s.1 s.2 σ1) (Int32.ofInt 0, Int32.ofInt 0) = some (Int32.ofInt (ph_sw ws wc)) := lp
      simp (disch := omega) only [f_X3_mostSwing, lp', Option.bind_some, qi, ql, qI_lt, qI_le, qI_eq, qI_L, qI_ix, qL_lt, qL_eq, q_nat, q_cs, ← Int32.ofInt_add, ← Int32.ofInt_sub, ← Int32.ofInt_mul, ← Int32.ofInt_neg, ← Int64.ofInt_add, ← Int64.ofInt_sub, ← Int64.ofInt_mul, ← Int64.ofInt_neg, pL_I, q_mx, q_mn, q_ab, q_abL, q_mnL, q_nn0, q_nn1, q_rr, q_b1, q_b0, q_T, q_F, q_iT, q_iF, q_d, q_in, q_wi, q_hC, q_hM, pT_i, pU_i, pS_i, pS_j, pS_0, Sum.elim_inl, Sum.elim_inr, if_pos, if_neg]
    · intro i hi
      obtain ⟨ok, Cw⟩ := c5 i hi
      have q2 : σ1.1 10 (6 * a + i) 3 = Int32.ofInt (ws i 2) := Cw.2.2.1
      simp (disch := omega) only [f_X3_mostSwing_4, c2, q2, Option.bind_some, qi, ql, qI_lt, qI_le, qI_eq, qI_L, qI_ix, qL_lt, qL_eq, q_nat, q_cs, ← Int32.ofInt_add, ← Int32.ofInt_sub, ← Int32.ofInt_mul, ← Int32.ofInt_neg, ← Int64.ofInt_add, ← Int64.ofInt_sub, ← Int64.ofInt_mul, ← Int64.ofInt_neg, pL_I, q_mx, q_mn, q_ab, q_abL, q_mnL, q_nn0, q_nn1, q_rr, q_b1, q_b0, q_T, q_F, q_iT, q_iF, q_d, q_in, q_wi, q_hC, q_hM, pT_i, pU_i, pS_i, pS_j, pS_0, Sum.elim_inl, Sum.elim_inr, if_pos, if_neg]
      try rfl
    · simp (disch := omega) only [f_X3_mostSwing_4, c2, Option.bind_some, qi, ql, qI_lt, qI_le, qI_eq, qI_L, qI_ix, qL_lt, qL_eq, q_nat, q_cs, ← Int32.ofInt_add, ← Int32.ofInt_sub, ← Int32.ofInt_mul, ← Int32.ofInt_neg, ← Int64.ofInt_add, ← Int64.ofInt_sub, ← Int64.ofInt_mul, ← Int64.ofInt_neg, pL_I, q_mx, q_mn, q_ab, q_abL, q_mnL, q_nn0, q_nn1, q_rr, q_b1, q_b0, q_T, q_F, q_iT, q_iF, q_d, q_in, q_wi, q_hC, q_hM, pT_i, pU_i, pS_i, pS_j, pS_0, Sum.elim_inl, Sum.elim_inr, if_pos, if_neg]
  · obtain ⟨c1, -, -, -, c5⟩ := C
    have := ph_swb (ws := ws) (n := wc) (fun i hi => (c5 i hi).1)
    omega
  · obtain ⟨c1, -, -, ⟨z1, z2⟩, c5⟩ := C
    omega
  · obtain ⟨c1, -, -, -, c5⟩ := C
    exact ph_swh (fun i hi => (c5 i hi).1)
/-- what an until, a when asks: t 0 HIGH, 1 LOW, 2 above, 3 below so much -/
def ob_Q (Hf : Int → Int) (t lv h : Int) : Prop := if t = 0 then pv_W (pv_G Hf true) h else if t = 1 then pv_W (pv_G Hf false) h else if t = 2 then lv < Hf h else Hf h < lv
theorem ob_so {σ1 σ2 : am_H} {m a s : Nat} {H : Bool → Int → Int} {S Z t lv h : Int} (hh : pr_HH σ1 σ2 m a H S Z) (hs : s < 40) (ht : 0 ≤ t ∧ t ≤ 3) (hl : -9999 ≤ lv ∧ lv ≤ 9999) (eA : σ2.1 1369 0 s = Int32.ofInt t) (eL : 2 ≤ t → σ2.1 1370 0 s = Int32.ofInt lv) (e57 : σ2.1 12 0 57 = Int32.ofInt h) (h0 : 0 ≤ h) (h1 : h ≤ 99999) : ∃ b : Bool, f_X12_isSo (Int32.ofInt m) (Int32.ofInt s) σ2 = some b ∧ (b = true ↔ ob_Q (H true) t lv h) := by
  by_cases t0 : t = 0
  · obtain ⟨b, w1, w2⟩ := pv_water hh true true (h := h) h0 (by omega)
    refine ⟨b, ?_, ?_⟩
    · simp (disch := omega) only [f_X12_isSo, f_X12_isSo_27, eA, e57, w1, Option.bind_some, qi, ql, qI_lt, qI_le, qI_eq, qI_L, qI_ix, qL_lt, qL_eq, q_nat, q_cs, ← Int32.ofInt_add, ← Int32.ofInt_sub, ← Int32.ofInt_mul, ← Int32.ofInt_neg, ← Int64.ofInt_add, ← Int64.ofInt_sub, ← Int64.ofInt_mul, ← Int64.ofInt_neg, pL_I, q_mx, q_mn, q_ab, q_abL, q_mnL, q_nn0, q_nn1, q_rr, q_b1, q_b0, q_T, q_F, q_iT, q_iF, q_d, q_in, q_wi, q_hC, q_hM, pT_i, pU_i, pS_i, pS_j, pS_0, Sum.elim_inl, Sum.elim_inr, if_pos, if_neg]
    · unfold ob_Q
      rw [if_pos t0]
      exact w2
  · by_cases t1 : t = 1
    · obtain ⟨b, w1, w2⟩ := pv_water hh false true (h := h) h0 (by omega)
      refine ⟨b, ?_, ?_⟩
      · simp (disch := omega) only [f_X12_isSo, f_X12_isSo_27, eA, e57, w1, Option.bind_some, qi, ql, qI_lt, qI_le, qI_eq, qI_L, qI_ix, qL_lt, qL_eq, q_nat, q_cs, ← Int32.ofInt_add, ← Int32.ofInt_sub, ← Int32.ofInt_mul, ← Int32.ofInt_neg, ← Int64.ofInt_add, ← Int64.ofInt_sub, ← Int64.ofInt_mul, ← Int64.ofInt_neg, pL_I, q_mx, q_mn, q_ab, q_abL, q_mnL, q_nn0, q_nn1, q_rr, q_b1, q_b0, q_T, q_F, q_iT, q_iF, q_d, q_in, q_wi, q_hC, q_hM, pT_i, pU_i, pS_i, pS_j, pS_0, Sum.elim_inl, Sum.elim_inr, if_pos, if_neg]
      · unfold ob_Q
        rw [if_neg t0, if_pos t1]
        exact w2
    · have eL' := eL (by omega)
      obtain ⟨-, q1, q2, q3⟩ := hh.1 true h h0 (by omega)
      by_cases t2 : t = 2
      · by_cases c : lv < H true h
        · refine ⟨true, ?_, ⟨fun _ => ?_, fun _ => rfl⟩⟩
          · simp (disch := omega) only [f_X12_isSo, eA, e57, q1, eL', Option.bind_some, qi, ql, qI_lt, qI_le, qI_eq, qI_L, qI_ix, qL_lt, qL_eq, q_nat, q_cs, ← Int32.ofInt_add, ← Int32.ofInt_sub, ← Int32.ofInt_mul, ← Int32.ofInt_neg, ← Int64.ofInt_add, ← Int64.ofInt_sub, ← Int64.ofInt_mul, ← Int64.ofInt_neg, pL_I, q_mx, q_mn, q_ab, q_abL, q_mnL, q_nn0, q_nn1, q_rr, q_b1, q_b0, q_T, q_F, q_iT, q_iF, q_d, q_in, q_wi, q_hC, q_hM, pT_i, pU_i, pS_i, pS_j, pS_0, Sum.elim_inl, Sum.elim_inr, if_pos, if_neg]
          · unfold ob_Q
            rw [if_neg t0, if_neg t1, if_pos t2]
            exact c
        · refine ⟨false, ?_, ⟨fun z => (by cases z), fun z => ?_⟩⟩
          · simp (disch := omega) only [f_X12_isSo, eA, e57, q1, eL', Option.bind_some, qi, ql, qI_lt, qI_le, qI_eq, qI_L, qI_ix, qL_lt, qL_eq, q_nat, q_cs, ← Int32.ofInt_add, ← Int32.ofInt_sub, ← Int32.ofInt_mul, ← Int32.ofInt_neg, ← Int64.ofInt_add, ← Int64.ofInt_sub, ← Int64.ofInt_mul, ← Int64.ofInt_neg, pL_I, q_mx, q_mn, q_ab, q_abL, q_mnL, q_nn0, q_nn1, q_rr, q_b1, q_b0, q_T, q_F, q_iT, q_iF, q_d, q_in, q_wi, q_hC, q_hM, pT_i, pU_i, pS_i, pS_j, pS_0, Sum.elim_inl, Sum.elim_inr, if_pos, if_neg]
          · unfold ob_Q at z
            rw [if_neg t0, if_neg t1, if_pos t2] at z
            exact absurd z c
      · by_cases c : H true h < lv
        · refine ⟨true, ?_, ⟨fun _ => ?_, fun _ => rfl⟩⟩
          · simp (disch := omega) only [f_X12_isSo, eA, e57, q1, eL', Option.bind_some, qi, ql, qI_lt, qI_le, qI_eq, qI_L, qI_ix, qL_lt, qL_eq, q_nat, q_cs, ← Int32.ofInt_add, ← Int32.ofInt_sub, ← Int32.ofInt_mul, ← Int32.ofInt_neg, ← Int64.ofInt_add, ← Int64.ofInt_sub, ← Int64.ofInt_mul, ← Int64.ofInt_neg, pL_I, q_mx, q_mn, q_ab, q_abL, q_mnL, q_nn0, q_nn1, q_rr, q_b1, q_b0, q_T, q_F, q_iT, q_iF, q_d, q_in, q_wi, q_hC, q_hM, pT_i, pU_i, pS_i, pS_j, pS_0, Sum.elim_inl, Sum.elim_inr, if_pos, if_neg]
          · unfold ob_Q
            rw [if_neg t0, if_neg t1, if_neg t2]
            exact c
        · refine ⟨false, ?_, ⟨fun z => (by cases z), fun z => ?_⟩⟩
          · simp (disch := omega) only [f_X12_isSo, eA, e57, q1, eL', Option.bind_some, qi, ql, qI_lt, qI_le, qI_eq, qI_L, qI_ix, qL_lt, qL_eq, q_nat, q_cs, ← Int32.ofInt_add, ← Int32.ofInt_sub, ← Int32.ofInt_mul, ← Int32.ofInt_neg, ← Int64.ofInt_add, ← Int64.ofInt_sub, ← Int64.ofInt_mul, ← Int64.ofInt_neg, pL_I, q_mx, q_mn, q_ab, q_abL, q_mnL, q_nn0, q_nn1, q_rr, q_b1, q_b0, q_T, q_F, q_iT, q_iF, q_d, q_in, q_wi, q_hC, q_hM, pT_i, pU_i, pS_i, pS_j, pS_0, Sum.elim_inl, Sum.elim_inr, if_pos, if_neg]
          · unfold ob_Q at z
            rw [if_neg t0, if_neg t1, if_neg t2] at z
            exact absurd z c
/-- the first HOUR behind h that is so, or none -/
def ob_N (Q : Int → Prop) (h r : Int) : Prop := (r = -1 ∧ ∀ k, h < k → k ≤ 99999 → ¬ Q k) ∨ ((h < r ∧ r ≤ 99999) ∧ Q r ∧ ∀ k, h < k → k < r → ¬ Q k)
theorem ob_N1 {Q : Int → Prop} {h r r' : Int} (h0 : 0 ≤ h) (a : ob_N Q h r) (b : ob_N Q h r') : r = r' := by
  rcases a with ⟨e, c⟩ | ⟨c1, c2, c3⟩
  · rcases b with ⟨e', -⟩ | ⟨d1, d2, d3⟩
    · rw [e, e']
    · exact absurd d2 (c r' d1.1 d1.2)
  · rcases b with ⟨e', d⟩ | ⟨d1, d2, d3⟩
    · exact absurd c2 (d r c1.1 c1.2)
    · by_cases t : r < r'
      · exact absurd c2 (d3 r c1.1 t)
      · by_cases t' : r' < r
        · exact absurd d2 (c3 r' d1.1 t')
        · omega
def ob_lM : List (Nat × Nat) := [(12, 56), (12, 57), (12, 58), (12, 59), (12, 64), (12, 65), (1376, 999)]
/-- the reference goes HOUR by HOUR -/
theorem ob_refU {σ1 σ2 : am_H} {m a s wc : Nat} {ws : Nat → Nat → Int} {zr t lv h : Int} (hm : m < 3) (C : ph_C σ1 a wc ws zr) (M : ph_M σ2 m wc ws (max zr 0)) (hs : s < 40) (ht : 0 ≤ t ∧ t ≤ 3) (hl : -9999 ≤ lv ∧ lv ≤ 9999) (eA : σ2.1 1369 0 s = Int32.ofInt t) (eL : 2 ≤ t → σ2.1 1370 0 s = Int32.ofInt lv) (e57 : σ2.1 12 0 57 = Int32.ofInt h) (h0 : 0 ≤ h) (h1 : h ≤ 99999) : ∃ r : Int, ob_N (ob_Q (fun h => ph_sum ws (max zr 0) h true wc) t lv) h r ∧ f_X12_goUntil (Int32.ofInt m) (Int32.ofInt s) σ2 = some (if r = -1 then am_wI (am_wI σ2 12 0 57 (Int32.ofInt 99999)) 12 0 65 (Int32.ofInt 1) else am_wI σ2 12 0 57 (Int32.ofInt r)) := by
  have so : ∀ k : Int, 0 ≤ k → k ≤ 99999 → ∃ b : Bool, f_X12_isSo (Int32.ofInt m) (Int32.ofInt s) (am_wI σ2 12 0 57 (Int32.ofInt k)) = some b ∧ (b = true ↔ ob_Q (fun h => ph_sum ws (max zr 0) h true wc) t lv k) := fun k k0 k1 => ob_so (pr_HHx hm C (ph_Mq ((qf.rf (l := ob_lM)).wI (k := 12) (i := 0) (j := 57) (v := Int32.ofInt k) rfl |>.a (by decide +kernel)) M)) hs ht hl eA eL rfl k0 k1
  obtain ⟨w, k1, k2⟩ := am_loop_1 (B := fun x : Bool × am_H => f_X12_goUntil_2 (Int32.ofInt m) (Int32.ofInt s) x.1 x.2) (fun N x => (∃ k : Int, x = (true, am_wI σ2 12 0 57 (Int32.ofInt k)) ∧ (h ≤ k ∧ k ≤ 99999) ∧ (∀ j, h < j → j ≤ k → ¬ ob_Q (fun h => ph_sum ws (max zr 0) h true wc) t lv j) ∧ N = (100001 - k).toNat) ∨ (∃ k : Int, x = (false, am_wI σ2 12 0 57 (Int32.ofInt k)) ∧ (h < k ∧ k ≤ 99999) ∧ ob_Q (fun h => ph_sum ws (max zr 0) h true wc) t lv k ∧ (∀ j, h < j → j < k → ¬ ob_Q (fun h => ph_sum ws (max zr 0) h true wc) t lv j) ∧ N = 0)) (fun w => (w = .inl (am_wI σ2 12 0 57 (Int32.ofInt 99999)) ∧ ob_N (ob_Q (fun h => ph_sum ws (max zr 0) h true wc) t lv) h (-1)) ∨ (∃ k : Int, w = .inr (am_wI σ2 12 0 57 (Int32.ofInt k)) ∧ 0 ≤ k ∧ ob_N (ob_Q (fun h => ph_sum ws (max zr 0) h true wc) t lv) h k)) (by
    rintro N x (⟨k, rfl, kb, hk, hN⟩ | ⟨k, rfl, kb, hq, hk, hN⟩)
    · have r57 : (am_wI σ2 12 0 57 (Int32.ofInt k)).1 12 0 57 = Int32.ofInt k := rfl
      by_cases c : k = 99999
      · left
        refine ⟨.inl (am_wI σ2 12 0 57 (Int32.ofInt 99999)), ?_, Or.inl ⟨rfl, Or.inl ⟨rfl, fun j j0 j1 => hk j j0 (by omega)⟩⟩⟩
        subst c
        simp (disch := omega) only [f_X12_goUntil_2, r57, Option.bind_some, qi, ql, qI_lt, qI_le, qI_eq, qI_L, qI_ix, qL_lt, qL_eq, q_nat, q_cs, ← Int32.ofInt_add, ← Int32.ofInt_sub, ← Int32.ofInt_mul, ← Int32.ofInt_neg, ← Int64.ofInt_add, ← Int64.ofInt_sub, ← Int64.ofInt_mul, ← Int64.ofInt_neg, pL_I, q_mx, q_mn, q_ab, q_abL, q_mnL, q_nn0, q_nn1, q_rr, q_b1, q_b0, q_T, q_F, q_iT, q_iF, q_d, q_in, q_wi, q_hC, q_hM, pT_i, pU_i, pS_i, pS_j, pS_0, Sum.elim_inl, Sum.elim_inr, if_pos, if_neg]
      · right
        obtain ⟨b, b1, b2⟩ := so (k + 1) (by omega) (by omega)
        have ww : am_wI (am_wI σ2 12 0 57 (Int32.ofInt k)) 12 0 57 (Int32.ofInt (k + 1)) = am_wI σ2 12 0 57 (Int32.ofInt (k + 1)) := q_ww
        cases b with
        | true =>
          refine ⟨(false, am_wI σ2 12 0 57 (Int32.ofInt (k + 1))), 0, ?_, by omega, Or.inr ⟨k + 1, rfl, by omega, b2.mp rfl, fun j j0 j1 => hk j j0 (by omega), rfl⟩⟩
          simp (disch := omega) only [f_X12_goUntil_2, r57, ww, b1, Option.bind_some, qi, ql, qI_lt, qI_le, qI_eq, qI_L, qI_ix, qL_lt, qL_eq, q_nat, q_cs, ← Int32.ofInt_add, ← Int32.ofInt_sub, ← Int32.ofInt_mul, ← Int32.ofInt_neg, ← Int64.ofInt_add, ← Int64.ofInt_sub, ← Int64.ofInt_mul, ← Int64.ofInt_neg, pL_I, q_mx, q_mn, q_ab, q_abL, q_mnL, q_nn0, q_nn1, q_rr, q_b1, q_b0, q_T, q_F, q_iT, q_iF, q_d, q_in, q_wi, q_hC, q_hM, pT_i, pU_i, pS_i, pS_j, pS_0, Sum.elim_inl, Sum.elim_inr, if_pos, if_neg]
        | false =>
          refine ⟨(true, am_wI σ2 12 0 57 (Int32.ofInt (k + 1))), (100001 - (k + 1)).toNat, ?_, by omega, Or.inl ⟨k + 1, rfl, by omega, fun j j0 j1 => ?_, rfl⟩⟩
          · simp (disch := omega) only [f_X12_goUntil_2, r57, ww, b1, Option.bind_some, qi, ql, qI_lt, qI_le, qI_eq, qI_L, qI_ix, qL_lt, qL_eq, q_nat, q_cs, ← Int32.ofInt_add, ← Int32.ofInt_sub, ← Int32.ofInt_mul, ← Int32.ofInt_neg, ← Int64.ofInt_add, ← Int64.ofInt_sub, ← Int64.ofInt_mul, ← Int64.ofInt_neg, pL_I, q_mx, q_mn, q_ab, q_abL, q_mnL, q_nn0, q_nn1, q_rr, q_b1, q_b0, q_T, q_F, q_iT, q_iF, q_d, q_in, q_wi, q_hC, q_hM, pT_i, pU_i, pS_i, pS_j, pS_0, Sum.elim_inl, Sum.elim_inr, if_pos, if_neg]
          · by_cases cj : j = k + 1
            · subst cj
              intro z
              have := b2.mpr z
              cases this
            · exact hk j j0 (by omega)
    · left
      refine ⟨.inr (am_wI σ2 12 0 57 (Int32.ofInt k)), ?_, Or.inr ⟨k, rfl, by omega, Or.inr ⟨kb, hq, hk⟩⟩⟩
      simp (disch := omega) only [f_X12_goUntil_2, Option.bind_some, qi, ql, qI_lt, qI_le, qI_eq, qI_L, qI_ix, qL_lt, qL_eq, q_nat, q_cs, ← Int32.ofInt_add, ← Int32.ofInt_sub, ← Int32.ofInt_mul, ← Int32.ofInt_neg, ← Int64.ofInt_add, ← Int64.ofInt_sub, ← Int64.ofInt_mul, ← Int64.ofInt_neg, pL_I, q_mx, q_mn, q_ab, q_abL, q_mnL, q_nn0, q_nn1, q_rr, q_b1, q_b0, q_T, q_F, q_iT, q_iF, q_d, q_in, q_wi, q_hC, q_hM, pT_i, pU_i, pS_i, pS_j, pS_0, Sum.elim_inl, Sum.elim_inr, if_pos, if_neg]) _ (true, σ2) (Or.inl ⟨h, by rw [q_wid e57], by omega, fun j j0 j1 => by omega, rfl⟩)
  rcases k2 with ⟨rfl, hn⟩ | ⟨k, rfl, hk0, hn⟩
  · refine ⟨-1, hn, ?_⟩
    rw [if_pos rfl]
    simp (disch := omega) only [f_X12_goUntil, k1, Option.bind_some, qi, ql, qI_lt, qI_le, qI_eq, qI_L, qI_ix, qL_lt, qL_eq, q_nat, q_cs, ← Int32.ofInt_add, ← Int32.ofInt_sub, ← Int32.ofInt_mul, ← Int32.ofInt_neg, ← Int64.ofInt_add, ← Int64.ofInt_sub, ← Int64.ofInt_mul, ← Int64.ofInt_neg, pL_I, q_mx, q_mn, q_ab, q_abL, q_mnL, q_nn0, q_nn1, q_rr, q_b1, q_b0, q_T, q_F, q_iT, q_iF, q_d, q_in, q_wi, q_hC, q_hM, pT_i, pU_i, pS_i, pS_j, pS_0, Sum.elim_inl, Sum.elim_inr, if_pos, if_neg]
  · refine ⟨k, hn, ?_⟩
    rw [if_neg (by omega)]
    simp (disch := omega) only [f_X12_goUntil, k1, Option.bind_some, qi, ql, qI_lt, qI_le, qI_eq, qI_L, qI_ix, qL_lt, qL_eq, q_nat, q_cs, ← Int32.ofInt_add, ← Int32.ofInt_sub, ← Int32.ofInt_mul, ← Int32.ofInt_neg, ← Int64.ofInt_add, ← Int64.ofInt_sub, ← Int64.ofInt_mul, ← Int64.ofInt_neg, pL_I, q_mx, q_mn, q_ab, q_abL, q_mnL, q_nn0, q_nn1, q_rr, q_b1, q_b0, q_T, q_F, q_iT, q_iF, q_d, q_in, q_wi, q_hC, q_hM, pT_i, pU_i, pS_i, pS_j, pS_0, Sum.elim_inl, Sum.elim_inr, if_pos, if_neg]
/-- the class looks for it -/
theorem ob_clsU {σ1 σ2 : am_H} {m a wc : Nat} {ws : Nat → Nat → Int} {zr t lv h : Int} (hm : m < 3) (ha : a < 3) (C : ph_C σ1 a wc ws zr) (M : ph_M σ2 m wc ws (max zr 0)) (ht : 0 ≤ t ∧ t ≤ 3) (hl : -9999 ≤ lv ∧ lv ≤ 9999) (e1 : σ1.2.2 9 0 1 = some a) (e6 : σ1.1 9 0 6 = Int32.ofInt h) (h0 : 0 ≤ h) (h1 : h ≤ 99999) : ∃ r : Int, ob_N (ob_Q (fun h => ph_sum ws (max zr 0) h true wc) t lv) h r ∧ f_X9_goUntil (Int32.ofInt (t + 1)) (Int32.ofInt lv) σ1 = some (if r = -1 then am_wI (am_wI σ1 9 0 3 (Int32.ofInt 1)) 9 0 6 (Int32.ofInt 99999) else am_wI (am_wI σ1 9 0 3 (Int32.ofInt 0)) 9 0 6 (Int32.ofInt r)) := by
  have hh := pr_HHx hm C M
  have rr : am_rr 3 (σ1.2.2 9 0 1) = some a := by rw [e1]; exact q_rr ha
  have g58 : ∀ r : Int, (r = -1 ∨ (0 ≤ r ∧ r ≤ 99999)) → f_X9_goUntil_58 (Int32.ofInt r) σ1 = some (if r = -1 then am_wI (am_wI σ1 9 0 3 (Int32.ofInt 1)) 9 0 6 (Int32.ofInt 99999) else am_wI (am_wI σ1 9 0 3 (Int32.ofInt 0)) 9 0 6 (Int32.ofInt r)) := by
    intro r hr
    have r31 : ∀ v : Int32, (am_wI σ1 9 0 3 v).1 9 0 3 = v := fun v => rfl
    by_cases c : r = -1
    · rw [if_pos c]
      subst c
      simp (disch := omega) only [f_X9_goUntil_58, f_X9_goUntil_70, f_X9_goTo, f_X9_goTo_12, f_X9_goTo_29, r31, Option.bind_some, qi, ql, qI_lt, qI_le, qI_eq, qI_L, qI_ix, qL_lt, qL_eq, q_nat, q_cs, ← Int32.ofInt_add, ← Int32.ofInt_sub, ← Int32.ofInt_mul, ← Int32.ofInt_neg, ← Int64.ofInt_add, ← Int64.ofInt_sub, ← Int64.ofInt_mul, ← Int64.ofInt_neg, pL_I, q_mx, q_mn, q_ab, q_abL, q_mnL, q_nn0, q_nn1, q_rr, q_b1, q_b0, q_T, q_F, q_iT, q_iF, q_d, q_in, q_wi, q_hC, q_hM, pT_i, pU_i, pS_i, pS_j, pS_0, Sum.elim_inl, Sum.elim_inr, if_pos, if_neg]
    · rw [if_neg c]
      simp (disch := omega) only [f_X9_goUntil_58, f_X9_goUntil_70, f_X9_goTo, f_X9_goTo_12, f_X9_goTo_29, r31, Option.bind_some, qi, ql, qI_lt, qI_le, qI_eq, qI_L, qI_ix, qL_lt, qL_eq, q_nat, q_cs, ← Int32.ofInt_add, ← Int32.ofInt_sub, ← Int32.ofInt_mul, ← Int32.ofInt_neg, ← Int64.ofInt_add, ← Int64.ofInt_sub, ← Int64.ofInt_mul, ← Int64.ofInt_neg, pL_I, q_mx, q_mn, q_ab, q_abL, q_mnL, q_nn0, q_nn1, q_rr, q_b1, q_b0, q_T, q_F, q_iT, q_iF, q_d, q_in, q_wi, q_hC, q_hM, pT_i, pU_i, pS_i, pS_j, pS_0, Sum.elim_inl, Sum.elim_inr, if_pos, if_neg]
  have wat : ∀ (g : Bool) (r : Int), pv_N (pv_G (fun h => ph_sum ws (max zr 0) h true wc) g) (h + 1) 99999 r → ob_N (fun k => pv_W (pv_G (fun h => ph_sum ws (max zr 0) h true wc) g) k) h r := by
    intro g r hr
    rcases hr with ⟨e, c⟩ | ⟨c1, c2, c3⟩
    · exact Or.inl ⟨e, fun k k0 k1 => c k (by omega) k1⟩
    · exact Or.inr ⟨by omega, c2, fun k k0 k1 => c3 k (by omega) k1⟩
  by_cases t0 : t = 0
  · obtain ⟨r, rb, f1, n1⟩ := pv_next hh true true (y := h + 1) (z := 99999) (by omega) (by omega) (by omega) (by omega)
    have eQ : ob_Q (fun h => ph_sum ws (max zr 0) h true wc) t lv = fun k => pv_W (pv_G (fun h => ph_sum ws (max zr 0) h true wc) true) k := funext fun k => by
      unfold ob_Q
      rw [if_pos t0]
    have N := wat true r n1
    have rb' : r = -1 ∨ (0 ≤ r ∧ r ≤ 99999) := by omega
    refine ⟨r, by rw [eQ]; exact N, ?_⟩
    rw [← g58 r rb']
    simp (disch := omega) only [f_X9_goUntil, f_X9_goUntil_12, f_X9_goUntil_34, rr, e6, f1, Option.bind_some, qi, ql, qI_lt, qI_le, qI_eq, qI_L, qI_ix, qL_lt, qL_eq, q_nat, q_cs, ← Int32.ofInt_add, ← Int32.ofInt_sub, ← Int32.ofInt_mul, ← Int32.ofInt_neg, ← Int64.ofInt_add, ← Int64.ofInt_sub, ← Int64.ofInt_mul, ← Int64.ofInt_neg, pL_I, q_mx, q_mn, q_ab, q_abL, q_mnL, q_nn0, q_nn1, q_rr, q_b1, q_b0, q_T, q_F, q_iT, q_iF, q_d, q_in, q_wi, q_hC, q_hM, pT_i, pU_i, pS_i, pS_j, pS_0, Sum.elim_inl, Sum.elim_inr, if_pos, if_neg]
  · by_cases t1 : t = 1
    · obtain ⟨r, rb, f1, n1⟩ := pv_next hh false true (y := h + 1) (z := 99999) (by omega) (by omega) (by omega) (by omega)
      have eQ : ob_Q (fun h => ph_sum ws (max zr 0) h true wc) t lv = fun k => pv_W (pv_G (fun h => ph_sum ws (max zr 0) h true wc) false) k := funext fun k => by
        unfold ob_Q
        rw [if_neg t0, if_pos t1]
      have N := wat false r n1
      have rb' : r = -1 ∨ (0 ≤ r ∧ r ≤ 99999) := by omega
      refine ⟨r, by rw [eQ]; exact N, ?_⟩
      rw [← g58 r rb']
      simp (disch := omega) only [f_X9_goUntil, f_X9_goUntil_12, f_X9_goUntil_34, rr, e6, f1, Option.bind_some, qi, ql, qI_lt, qI_le, qI_eq, qI_L, qI_ix, qL_lt, qL_eq, q_nat, q_cs, ← Int32.ofInt_add, ← Int32.ofInt_sub, ← Int32.ofInt_mul, ← Int32.ofInt_neg, ← Int64.ofInt_add, ← Int64.ofInt_sub, ← Int64.ofInt_mul, ← Int64.ofInt_neg, pL_I, q_mx, q_mn, q_ab, q_abL, q_mnL, q_nn0, q_nn1, q_rr, q_b1, q_b0, q_T, q_F, q_iT, q_iF, q_d, q_in, q_wi, q_hC, q_hM, pT_i, pU_i, pS_i, pS_j, pS_0, Sum.elim_inl, Sum.elim_inr, if_pos, if_neg]
    · obtain ⟨hH, hS, hZ, ⟨s0, s1⟩, ⟨z0, z1⟩, hB⟩ := hh
      have eQ : ob_Q (fun h => ph_sum ws (max zr 0) h true wc) t lv = fun k => if t = 2 then lv < ph_sum ws (max zr 0) k true wc else ph_sum ws (max zr 0) k true wc < lv := funext fun k => by
        unfold ob_Q
        rw [if_neg t0, if_neg t1]
      have cr : ∃ b : Bool, f_X9_canReach (Int32.ofInt (t + 1)) (Int32.ofInt lv) σ1 = some b ∧ (b = false → ∀ k, 0 ≤ k → k ≤ 99999 → ¬ ob_Q (fun h => ph_sum ws (max zr 0) h true wc) t lv k) := by
        by_cases t2 : t = 2
        · by_cases c : lv < 12 * max zr 0 + ph_sw ws wc
          · refine ⟨true, ?_, fun z => by cases z⟩
            simp (disch := omega) only [f_X9_canReach, rr, hS, hZ, Option.bind_some, qi, ql, qI_lt, qI_le, qI_eq, qI_L, qI_ix, qL_lt, qL_eq, q_nat, q_cs, ← Int32.ofInt_add, ← Int32.ofInt_sub, ← Int32.ofInt_mul, ← Int32.ofInt_neg, ← Int64.ofInt_add, ← Int64.ofInt_sub, ← Int64.ofInt_mul, ← Int64.ofInt_neg, pL_I, q_mx, q_mn, q_ab, q_abL, q_mnL, q_nn0, q_nn1, q_rr, q_b1, q_b0, q_T, q_F, q_iT, q_iF, q_d, q_in, q_wi, q_hC, q_hM, pT_i, pU_i, pS_i, pS_j, pS_0, Sum.elim_inl, Sum.elim_inr, if_pos, if_neg]
          · refine ⟨false, ?_, fun _ k k0 k1 => ?_⟩
            · simp (disch := omega) only [f_X9_canReach, rr, hS, hZ, Option.bind_some, qi, ql, qI_lt, qI_le, qI_eq, qI_L, qI_ix, qL_lt, qL_eq, q_nat, q_cs, ← Int32.ofInt_add, ← Int32.ofInt_sub, ← Int32.ofInt_mul, ← Int32.ofInt_neg, ← Int64.ofInt_add, ← Int64.ofInt_sub, ← Int64.ofInt_mul, ← Int64.ofInt_neg, pL_I, q_mx, q_mn, q_ab, q_abL, q_mnL, q_nn0, q_nn1, q_rr, q_b1, q_b0, q_T, q_F, q_iT, q_iF, q_d, q_in, q_wi, q_hC, q_hM, pT_i, pU_i, pS_i, pS_j, pS_0, Sum.elim_inl, Sum.elim_inr, if_pos, if_neg]
            · rw [eQ]
              simp only [if_pos t2]
              have : 12 * max zr 0 - ph_sw ws wc ≤ ph_sum ws (max zr 0) k true wc ∧ ph_sum ws (max zr 0) k true wc ≤ 12 * max zr 0 + ph_sw ws wc := hB true k k0 (by omega)
              omega
        · by_cases c : 12 * max zr 0 - ph_sw ws wc < lv
          · refine ⟨true, ?_, fun z => by cases z⟩
            simp (disch := omega) only [f_X9_canReach, rr, hS, hZ, Option.bind_some, qi, ql, qI_lt, qI_le, qI_eq, qI_L, qI_ix, qL_lt, qL_eq, q_nat, q_cs, ← Int32.ofInt_add, ← Int32.ofInt_sub, ← Int32.ofInt_mul, ← Int32.ofInt_neg, ← Int64.ofInt_add, ← Int64.ofInt_sub, ← Int64.ofInt_mul, ← Int64.ofInt_neg, pL_I, q_mx, q_mn, q_ab, q_abL, q_mnL, q_nn0, q_nn1, q_rr, q_b1, q_b0, q_T, q_F, q_iT, q_iF, q_d, q_in, q_wi, q_hC, q_hM, pT_i, pU_i, pS_i, pS_j, pS_0, Sum.elim_inl, Sum.elim_inr, if_pos, if_neg]
          · refine ⟨false, ?_, fun _ k k0 k1 => ?_⟩
            · simp (disch := omega) only [f_X9_canReach, rr, hS, hZ, Option.bind_some, qi, ql, qI_lt, qI_le, qI_eq, qI_L, qI_ix, qL_lt, qL_eq, q_nat, q_cs, ← Int32.ofInt_add, ← Int32.ofInt_sub, ← Int32.ofInt_mul, ← Int32.ofInt_neg, ← Int64.ofInt_add, ← Int64.ofInt_sub, ← Int64.ofInt_mul, ← Int64.ofInt_neg, pL_I, q_mx, q_mn, q_ab, q_abL, q_mnL, q_nn0, q_nn1, q_rr, q_b1, q_b0, q_T, q_F, q_iT, q_iF, q_d, q_in, q_wi, q_hC, q_hM, pT_i, pU_i, pS_i, pS_j, pS_0, Sum.elim_inl, Sum.elim_inr, if_pos, if_neg]
            · rw [eQ]
              simp only [if_neg t2]
              have : 12 * max zr 0 - ph_sw ws wc ≤ ph_sum ws (max zr 0) k true wc ∧ ph_sum ws (max zr 0) k true wc ≤ 12 * max zr 0 + ph_sw ws wc := hB true k k0 (by omega)
              omega
      obtain ⟨b, c1, c2⟩ := cr
      cases b with
      | false =>
        have g := g58 (-1) (Or.inl rfl)
        refine ⟨-1, Or.inl ⟨rfl, fun k k0 k1 => c2 rfl k (by omega) k1⟩, ?_⟩
        rw [← g]
        simp (disch := omega) only [f_X9_goUntil, c1, Option.bind_some, qi, ql, qI_lt, qI_le, qI_eq, qI_L, qI_ix, qL_lt, qL_eq, q_nat, q_cs, ← Int32.ofInt_add, ← Int32.ofInt_sub, ← Int32.ofInt_mul, ← Int32.ofInt_neg, ← Int64.ofInt_add, ← Int64.ofInt_sub, ← Int64.ofInt_mul, ← Int64.ofInt_neg, pL_I, q_mx, q_mn, q_ab, q_abL, q_mnL, q_nn0, q_nn1, q_rr, q_b1, q_b0, q_T, q_F, q_iT, q_iF, q_d, q_in, q_wi, q_hC, q_hM, pT_i, pU_i, pS_i, pS_j, pS_0, Sum.elim_inl, Sum.elim_inr, if_pos, if_neg]
      | true =>
        have nl : ∃ r : Int, (r = -1 ∨ (0 ≤ r ∧ r ≤ 99999)) ∧ f_X9_nextLevel (Int32.ofInt (t + 1)) (Int32.ofInt lv) σ1 = some (Int32.ofInt r) ∧ ob_N (ob_Q (fun h => ph_sum ws (max zr 0) h true wc) t lv) h r := by
          obtain ⟨w, k1, k2⟩ := am_loop_1 (B := fun x : Int32 => f_X9_nextLevel_7 (Int32.ofInt (t + 1)) (Int32.ofInt lv) x σ1) (fun N x => ∃ k : Int, x = Int32.ofInt k ∧ (h < k ∧ k ≤ 100000) ∧ (∀ j, h < j → j < k → ¬ ob_Q (fun h => ph_sum ws (max zr 0) h true wc) t lv j) ∧ N = (100001 - k).toNat) (fun w => (∃ k : Int, (w = .inl (Int32.ofInt k) ∨ w = .inr (.inl (Int32.ofInt k))) ∧ (0 ≤ k ∧ k ≤ 99999) ∧ ob_N (ob_Q (fun h => ph_sum ws (max zr 0) h true wc) t lv) h k) ∨ (w = .inr (.inr ()) ∧ ob_N (ob_Q (fun h => ph_sum ws (max zr 0) h true wc) t lv) h (-1))) (by
            rintro N x ⟨k, rfl, kb, hk, hN⟩
            by_cases ce : 99999 < k
            · left
              refine ⟨.inr (.inr ()), ?_, Or.inr ⟨rfl, Or.inl ⟨rfl, fun j j0 j1 => hk j j0 (by omega)⟩⟩⟩
              simp (disch := omega) only [f_X9_nextLevel_7, Option.bind_some, qi, ql, qI_lt, qI_le, qI_eq, qI_L, qI_ix, qL_lt, qL_eq, q_nat, q_cs, ← Int32.ofInt_add, ← Int32.ofInt_sub, ← Int32.ofInt_mul, ← Int32.ofInt_neg, ← Int64.ofInt_add, ← Int64.ofInt_sub, ← Int64.ofInt_mul, ← Int64.ofInt_neg, pL_I, q_mx, q_mn, q_ab, q_abL, q_mnL, q_nn0, q_nn1, q_rr, q_b1, q_b0, q_T, q_F, q_iT, q_iF, q_d, q_in, q_wi, q_hC, q_hM, pT_i, pU_i, pS_i, pS_j, pS_0, Sum.elim_inl, Sum.elim_inr, if_pos, if_neg]
            · obtain ⟨q1, -, q2, q3⟩ := hH true k (by omega) (by omega)
              have q23 : -9000 ≤ ph_sum ws (max zr 0) k true wc ∧ ph_sum ws (max zr 0) k true wc ≤ 9000 := ⟨q2, q3⟩
              by_cases t2 : t = 2
              · by_cases c : lv < ph_sum ws (max zr 0) k true wc
                · left
                  refine ⟨.inl (Int32.ofInt k), ?_, Or.inl ⟨k, Or.inl rfl, by omega, Or.inr ⟨by omega, ?_, hk⟩⟩⟩
                  · simp (disch := omega) only [f_X9_nextLevel_7, rr, q1, Option.bind_some, qi, ql, qI_lt, qI_le, qI_eq, qI_L, qI_ix, qL_lt, qL_eq, q_nat, q_cs, ← Int32.ofInt_add, ← Int32.ofInt_sub, ← Int32.ofInt_mul, ← Int32.ofInt_neg, ← Int64.ofInt_add, ← Int64.ofInt_sub, ← Int64.ofInt_mul, ← Int64.ofInt_neg, pL_I, q_mx, q_mn, q_ab, q_abL, q_mnL, q_nn0, q_nn1, q_rr, q_b1, q_b0, q_T, q_F, q_iT, q_iF, q_d, q_in, q_wi, q_hC, q_hM, pT_i, pU_i, pS_i, pS_j, pS_0, Sum.elim_inl, Sum.elim_inr, if_pos, if_neg]
                  · rw [eQ]
                    simp only [if_pos t2]
                    exact c
                · right
                  refine ⟨Int32.ofInt (k + 1), (100001 - (k + 1)).toNat, ?_, by omega, k + 1, rfl, by omega, fun j j0 j1 => ?_, rfl⟩
                  · simp (disch := omega) only [f_X9_nextLevel_7, rr, q1, Option.bind_some, qi, ql, qI_lt, qI_le, qI_eq, qI_L, qI_ix, qL_lt, qL_eq, q_nat, q_cs, ← Int32.ofInt_add, ← Int32.ofInt_sub, ← Int32.ofInt_mul, ← Int32.ofInt_neg, ← Int64.ofInt_add, ← Int64.ofInt_sub, ← Int64.ofInt_mul, ← Int64.ofInt_neg, pL_I, q_mx, q_mn, q_ab, q_abL, q_mnL, q_nn0, q_nn1, q_rr, q_b1, q_b0, q_T, q_F, q_iT, q_iF, q_d, q_in, q_wi, q_hC, q_hM, pT_i, pU_i, pS_i, pS_j, pS_0, Sum.elim_inl, Sum.elim_inr, if_pos, if_neg]
                  · by_cases cj : j = k
                    · subst cj
                      rw [eQ]
                      simp only [if_pos t2]
                      exact c
                    · exact hk j j0 (by omega)
              · by_cases c : ph_sum ws (max zr 0) k true wc < lv
                · left
                  refine ⟨.inr (.inl (Int32.ofInt k)), ?_, Or.inl ⟨k, Or.inr rfl, by omega, Or.inr ⟨by omega, ?_, hk⟩⟩⟩
                  · simp (disch := omega) only [f_X9_nextLevel_7, rr, q1, Option.bind_some, qi, ql, qI_lt, qI_le, qI_eq, qI_L, qI_ix, qL_lt, qL_eq, q_nat, q_cs, ← Int32.ofInt_add, ← Int32.ofInt_sub, ← Int32.ofInt_mul, ← Int32.ofInt_neg, ← Int64.ofInt_add, ← Int64.ofInt_sub, ← Int64.ofInt_mul, ← Int64.ofInt_neg, pL_I, q_mx, q_mn, q_ab, q_abL, q_mnL, q_nn0, q_nn1, q_rr, q_b1, q_b0, q_T, q_F, q_iT, q_iF, q_d, q_in, q_wi, q_hC, q_hM, pT_i, pU_i, pS_i, pS_j, pS_0, Sum.elim_inl, Sum.elim_inr, if_pos, if_neg]
                  · rw [eQ]
                    simp only [if_neg t2]
                    exact c
                · right
                  refine ⟨Int32.ofInt (k + 1), (100001 - (k + 1)).toNat, ?_, by omega, k + 1, rfl, by omega, fun j j0 j1 => ?_, rfl⟩
                  · simp (disch := omega) only [f_X9_nextLevel_7, rr, q1, Option.bind_some, qi, ql, qI_lt, qI_le, qI_eq, qI_L, qI_ix, qL_lt, qL_eq, q_nat, q_cs, ← Int32.ofInt_add, ← Int32.ofInt_sub, ← Int32.ofInt_mul, ← Int32.ofInt_neg, ← Int64.ofInt_add, ← Int64.ofInt_sub, ← Int64.ofInt_mul, ← Int64.ofInt_neg, pL_I, q_mx, q_mn, q_ab, q_abL, q_mnL, q_nn0, q_nn1, q_rr, q_b1, q_b0, q_T, q_F, q_iT, q_iF, q_d, q_in, q_wi, q_hC, q_hM, pT_i, pU_i, pS_i, pS_j, pS_0, Sum.elim_inl, Sum.elim_inr, if_pos, if_neg]
                  · by_cases cj : j = k
                    · subst cj
                      rw [eQ]
                      simp only [if_neg t2]
                      exact c
                    · exact hk j j0 (by omega)) _ (Int32.ofInt (h + 1)) ⟨h + 1, rfl, by omega, fun j j0 j1 => by omega, rfl⟩
          rcases k2 with ⟨k, hw, kb, hn⟩ | ⟨rfl, hn⟩
          · rcases hw with rfl | rfl
            · refine ⟨k, Or.inr kb, ?_, hn⟩
              simp (disch := omega) only [f_X9_nextLevel, e6, k1, Option.bind_some, qi, ql, qI_lt, qI_le, qI_eq, qI_L, qI_ix, qL_lt, qL_eq, q_nat, q_cs, ← Int32.ofInt_add, ← Int32.ofInt_sub, ← Int32.ofInt_mul, ← Int32.ofInt_neg, ← Int64.ofInt_add, ← Int64.ofInt_sub, ← Int64.ofInt_mul, ← Int64.ofInt_neg, pL_I, q_mx, q_mn, q_ab, q_abL, q_mnL, q_nn0, q_nn1, q_rr, q_b1, q_b0, q_T, q_F, q_iT, q_iF, q_d, q_in, q_wi, q_hC, q_hM, pT_i, pU_i, pS_i, pS_j, pS_0, Sum.elim_inl, Sum.elim_inr, if_pos, if_neg]
            · refine ⟨k, Or.inr kb, ?_, hn⟩
              simp (disch := omega) only [f_X9_nextLevel, e6, k1, Option.bind_some, qi, ql, qI_lt, qI_le, qI_eq, qI_L, qI_ix, qL_lt, qL_eq, q_nat, q_cs, ← Int32.ofInt_add, ← Int32.ofInt_sub, ← Int32.ofInt_mul, ← Int32.ofInt_neg, ← Int64.ofInt_add, ← Int64.ofInt_sub, ← Int64.ofInt_mul, ← Int64.ofInt_neg, pL_I, q_mx, q_mn, q_ab, q_abL, q_mnL, q_nn0, q_nn1, q_rr, q_b1, q_b0, q_T, q_F, q_iT, q_iF, q_d, q_in, q_wi, q_hC, q_hM, pT_i, pU_i, pS_i, pS_j, pS_0, Sum.elim_inl, Sum.elim_inr, if_pos, if_neg]
          · refine ⟨-1, Or.inl rfl, ?_, hn⟩
            simp (disch := omega) only [f_X9_nextLevel, e6, k1, Option.bind_some, qi, ql, qI_lt, qI_le, qI_eq, qI_L, qI_ix, qL_lt, qL_eq, q_nat, q_cs, ← Int32.ofInt_add, ← Int32.ofInt_sub, ← Int32.ofInt_mul, ← Int32.ofInt_neg, ← Int64.ofInt_add, ← Int64.ofInt_sub, ← Int64.ofInt_mul, ← Int64.ofInt_neg, pL_I, q_mx, q_mn, q_ab, q_abL, q_mnL, q_nn0, q_nn1, q_rr, q_b1, q_b0, q_T, q_F, q_iT, q_iF, q_d, q_in, q_wi, q_hC, q_hM, pT_i, pU_i, pS_i, pS_j, pS_0, Sum.elim_inl, Sum.elim_inr, if_pos, if_neg]
        obtain ⟨r, rb, n1, n2⟩ := nl
        refine ⟨r, n2, ?_⟩
        rw [← g58 r rb]
        simp (disch := omega) only [f_X9_goUntil, c1, n1, Option.bind_some, qi, ql, qI_lt, qI_le, qI_eq, qI_L, qI_ix, qL_lt, qL_eq, q_nat, q_cs, ← Int32.ofInt_add, ← Int32.ofInt_sub, ← Int32.ofInt_mul, ← Int32.ofInt_neg, ← Int64.ofInt_add, ← Int64.ofInt_sub, ← Int64.ofInt_mul, ← Int64.ofInt_neg, pL_I, q_mx, q_mn, q_ab, q_abL, q_mnL, q_nn0, q_nn1, q_rr, q_b1, q_b0, q_T, q_F, q_iT, q_iF, q_d, q_in, q_wi, q_hC, q_hM, pT_i, pU_i, pS_i, pS_j, pS_0, Sum.elim_inl, Sum.elim_inr, if_pos, if_neg]
