/-! ===== BEST TRAIN: the class ===== -/
def tn_dr (kt : Nat → Int) (M : Nat) (p : Nat → Nat) : Int := if M = 4 then kt (p 0) * kt (p 2) else kt (p 0)
def tn_dn (kt : Nat → Int) (M : Nat) (p : Nat → Nat) : Int := if M = 4 then kt (p 1) * kt (p 3) else kt (p 1)
def tn_te (kt : Nat → Int) (M : Nat) (p : Nat → Nat) : Int := if M = 4 then kt (p 0) + kt (p 1) + (kt (p 2) + kt (p 3)) else kt (p 0) + kt (p 1)
def tn_lt (st : Int × Int × Int × (Nat → Int)) (o d n : Int) : Prop := st.2.1 = 0 ∨ o * st.2.1 - st.1 * d < 0 ∨ (o * st.2.1 - st.1 * d = 0 ∧ n < st.2.2.1)
noncomputable def tn_w (w : Nat → Int) (kt : Nat → Int) (M : Nat) (p : Nat → Nat) (st : Int × Int × Int × (Nat → Int)) : Int × Int × Int × (Nat → Int) := @ite _ (tn_lt st (pw_off w (tn_dr kt M p) (tn_dn kt M p)) (tn_dn kt M p) (tn_te kt M p)) (Classical.propDecidable _) (pw_off w (tn_dr kt M p) (tn_dn kt M p), tn_dn kt M p, tn_te kt M p, fun j => if j < M then kt (p j) else 0) st
noncomputable def tn_leaf (w : Nat → Int) (kw kt : Nat → Int) (M : Nat) (p : Nat → Nat) (st : Int × Int × Int × (Nat → Int)) : Int × Int × Int × (Nat → Int) := @ite _ (en_ok kw p M) (Classical.propDecidable _) (tn_w w kt M p st) st
def tn_ok (M : Nat) (st : Int × Int × Int × (Nat → Int)) : Prop := (0 ≤ st.1 ∧ st.1 ≤ 240000000000) ∧ (0 ≤ st.2.1 ∧ st.2.1 ≤ 40000) ∧ (0 ≤ st.2.2.1 ∧ st.2.2.1 ≤ 800)
def tn_K (kc : Nat) (kw kt : Nat → Int) : Prop := kc ≤ 10 ∧ ∀ x, x < kc → (0 ≤ kw x ∧ kw x ≤ 9) ∧ (5 ≤ kt x ∧ kt x ≤ 200)
theorem tn_pb {kc : Nat} {kw kt : Nat → Int} {M : Nat} {p : Nat → Nat} (K : tn_K kc kw kt) (hM : M = 2 ∨ M = 4) (hp : ∀ j, j < M → p j < kc) : (5 ≤ tn_dr kt M p ∧ tn_dr kt M p ≤ 40000) ∧ (5 ≤ tn_dn kt M p ∧ tn_dn kt M p ≤ 40000) ∧ (10 ≤ tn_te kt M p ∧ tn_te kt M p ≤ 800) := by
  have k0 := (K.2 _ (hp 0 (by omega))).2
  have k1 := (K.2 _ (hp 1 (by omega))).2
  unfold tn_dr tn_dn tn_te
  rcases hM with rfl | rfl
  · rw [if_neg (by omega), if_neg (by omega), if_neg (by omega)]
    omega
  · have k2 := (K.2 _ (hp 2 (by omega))).2
    have k3 := (K.2 _ (hp 3 (by omega))).2
    rw [if_pos rfl, if_pos rfl, if_pos rfl]
    have e1 : kt (p 0) * kt (p 2) ≤ 200 * 200 := Int.mul_le_mul k0.2 k2.2 (by omega) (by omega)
    have e2 : 5 * 5 ≤ kt (p 0) * kt (p 2) := Int.mul_le_mul k0.1 k2.1 (by omega) (by omega)
    have e3 : kt (p 1) * kt (p 3) ≤ 200 * 200 := Int.mul_le_mul k1.2 k3.2 (by omega) (by omega)
    have e4 : 5 * 5 ≤ kt (p 1) * kt (p 3) := Int.mul_le_mul k1.1 k3.1 (by omega) (by omega)
    omega
theorem tn_wok {w : Nat → Int} {kc : Nat} {kw kt : Nat → Int} {M : Nat} {p : Nat → Nat} {st : Int × Int × Int × (Nat → Int)} (ok : pw_ok w) (K : tn_K kc kw kt) (hM : M = 2 ∨ M = 4) (hp : ∀ j, j < M → p j < kc) (h : tn_ok M st) : tn_ok M (tn_w w kt M p st) := by
  have b := tn_pb K hM hp
  have o := pw_off_r ok (a := tn_dr kt M p) (b := tn_dn kt M p) (by omega) (by omega) (by omega) (by omega)
  unfold tn_w
  split
  · exact ⟨by omega, by show 0 ≤ tn_dn kt M p ∧ tn_dn kt M p ≤ 40000; omega, by show 0 ≤ tn_te kt M p ∧ tn_te kt M p ≤ 800; omega⟩
  · exact h
/-- how the class stands -/
def tn_S (σ : am_H) (M : Nat) (st : Int × Int × Int × (Nat → Int)) : Prop := σ.2.1 7 0 10 = Int64.ofInt st.2.1 ∧ (st.2.1 ≠ 0 → σ.2.1 7 0 9 = Int64.ofInt st.1 ∧ σ.1 7 0 8 = Int32.ofInt st.2.2.1 ∧ ∀ j, j < M → σ.1 805 0 j = Int32.ofInt (st.2.2.2 j))
def tn_l : List (Nat × Nat) := [(803, 999), (804, 999), (805, 999), (7, 8), (7, 9), (7, 10)]
theorem tn_keep {σ : am_H} {M : Nat} (hM : M ≤ 6) (e2 : σ.1 7 0 2 = Int32.ofInt M) : ∃ τ : am_H, f_X7_keepTried σ = some τ ∧ qf [(805, 999)] σ τ ∧ ∀ j, j < M → τ.1 805 0 j = σ.1 804 0 j := by
  obtain ⟨τ, k, q, h⟩ := am_loop_1 (B := fun s : Int32 × am_H => f_X7_keepTried_2 s.1 s.2) (fun N s => ∃ (i : Nat) (ρ : am_H), s = (Int32.ofInt i, ρ) ∧ i ≤ M ∧ qf [(805, 999)] σ ρ ∧ (∀ j, j < i → ρ.1 805 0 j = σ.1 804 0 j) ∧ N = M - i) (fun ρ => qf [(805, 999)] σ ρ ∧ ∀ j, j < M → ρ.1 805 0 j = σ.1 804 0 j) (by
    rintro N s ⟨i, ρ, rfl, hi, q, h, rfl⟩
    have e2' : ρ.1 7 0 2 = Int32.ofInt M := by rw [(q 7 0 2 rfl).1]; exact e2
    by_cases c : i < M
    · right
      have e4 : ρ.1 804 0 i = σ.1 804 0 i := (q 804 0 i rfl).1
      refine ⟨(Int32.ofInt ((i : Int) + 1), am_wI ρ 805 0 i (σ.1 804 0 i)), M - (i + 1), ?_, by omega, i + 1, _, rfl, by omega, q.wI rfl, fun j hj => ?_, rfl⟩
      · simp (disch := omega) only [f_X7_keepTried_2, e2', e4, Option.bind_some, qi, ql, qI_lt, qI_le, qI_eq, qI_L, qI_ix, qL_lt, qL_eq, q_nat, q_cs, ← Int32.ofInt_add, ← Int32.ofInt_sub, ← Int32.ofInt_mul, ← Int32.ofInt_neg, ← Int64.ofInt_add, ← Int64.ofInt_sub, ← Int64.ofInt_mul, ← Int64.ofInt_neg, pL_I, q_mx, q_mn, q_ab, q_abL, q_mnL, q_nn0, q_nn1, q_rr, q_b1, q_b0, q_T, q_F, q_iT, q_iF, q_d, q_in, q_wi, q_hC, q_hM, pT_i, pU_i, pS_i, pS_j, pS_0, Sum.elim_inl, Sum.elim_inr, if_pos, if_neg]
      · rw [am_wI_r]
        by_cases cj : j = i
        · rw [if_pos ⟨rfl, rfl, cj⟩, cj]
        · rw [if_neg (by omega)]
          exact h j (by omega)
    · left
      have : i = M := by omega
      subst this
      refine ⟨ρ, ?_, q, h⟩
      simp (disch := omega) only [f_X7_keepTried_2, e2', Option.bind_some, qi, ql, qI_lt, qI_le, qI_eq, qI_L, qI_ix, qL_lt, qL_eq, q_nat, q_cs, ← Int32.ofInt_add, ← Int32.ofInt_sub, ← Int32.ofInt_mul, ← Int32.ofInt_neg, ← Int64.ofInt_add, ← Int64.ofInt_sub, ← Int64.ofInt_mul, ← Int64.ofInt_neg, pL_I, q_mx, q_mn, q_ab, q_abL, q_mnL, q_nn0, q_nn1, q_rr, q_b1, q_b0, q_T, q_F, q_iT, q_iF, q_d, q_in, q_wi, q_hC, q_hM, pT_i, pU_i, pS_i, pS_j, pS_0, Sum.elim_inl, Sum.elim_inr, if_pos, if_neg]) M (Int32.ofInt 0, σ) ⟨0, σ, rfl, by omega, qf.rf, fun j hj => by omega, rfl⟩
  refine ⟨τ, ?_, q, h⟩
  simp (disch := omega) only [f_X7_keepTried, k, Option.bind_some, qi, ql, qI_lt, qI_le, qI_eq, qI_L, qI_ix, qL_lt, qL_eq, q_nat, q_cs, ← Int32.ofInt_add, ← Int32.ofInt_sub, ← Int32.ofInt_mul, ← Int32.ofInt_neg, ← Int64.ofInt_add, ← Int64.ofInt_sub, ← Int64.ofInt_mul, ← Int64.ofInt_neg, pL_I, q_mx, q_mn, q_ab, q_abL, q_mnL, q_nn0, q_nn1, q_rr, q_b1, q_b0, q_T, q_F, q_iT, q_iF, q_d, q_in, q_wi, q_hC, q_hM, pT_i, pU_i, pS_i, pS_j, pS_0, Sum.elim_inl, Sum.elim_inr, if_pos, if_neg]
theorem tn_weigh {σ : am_H} {r kc M : Nat} {w : Nat → Int} {kw kt : Nat → Int} {p : Nat → Nat} {st : Int × Int × Int × (Nat → Int)} (hr : r < 18) (ok : pw_ok w) (C : pw_C σ r w) (K : tn_K kc kw kt) (hM : M = 2 ∨ M = 4) (hp : ∀ j, j < M → p j < kc) (e2 : σ.1 7 0 2 = Int32.ofInt M) (e1 : σ.2.2 7 0 1 = some r) (et : ∀ j, j < M → σ.1 804 0 j = Int32.ofInt (kt (p j))) (S : tn_S σ M st) (so : tn_ok M st) : ∃ τ : am_H, f_X7_weighTrain σ = some τ ∧ qf tn_l σ τ ∧ tn_S τ M (tn_w w kt M p st) ∧ ∀ x, τ.1 803 0 x = σ.1 803 0 x ∧ τ.1 804 0 x = σ.1 804 0 x := by
  have b := tn_pb K hM hp
  have of := pw_off_r ok (a := tn_dr kt M p) (b := tn_dn kt M p) (by omega) (by omega) (by omega) (by omega)
  have ot := pw_offTop ok C (a := tn_dr kt M p) (b := tn_dn kt M p) (h := 1) (by omega) (by omega) (by omega) (by omega) (by omega) (by omega)
  rw [Int.mul_one] at ot
  obtain ⟨s10, sR⟩ := S
  obtain ⟨o1, o2, o3⟩ := so
  have rr : am_rr 18 (σ.2.2 7 0 1) = some r := by rw [e1]; exact q_rr hr
  -- what happens, if it is better
  obtain ⟨τ, kk, kq, kh⟩ := tn_keep (σ := am_wI (am_wL (am_wL σ 7 0 9 (Int64.ofInt (pw_off w (tn_dr kt M p) (tn_dn kt M p)))) 7 0 10 (Int64.ofInt (tn_dn kt M p))) 7 0 8 (Int32.ofInt (tn_te kt M p))) (M := M) (by omega) e2
  have fin : ∃ ρ : am_H, ((tn_lt st (pw_off w (tn_dr kt M p) (tn_dn kt M p)) (tn_dn kt M p) (tn_te kt M p) → f_X7_weighTrain_180 (Int64.ofInt (tn_dn kt M p)) (Int32.ofInt (tn_te kt M p)) (Int64.ofInt (pw_off w (tn_dr kt M p) (tn_dn kt M p))) σ = some ρ) ∧ (¬ tn_lt st (pw_off w (tn_dr kt M p) (tn_dn kt M p)) (tn_dn kt M p) (tn_te kt M p) → some σ = some ρ)) ∧ qf tn_l σ ρ ∧ tn_S ρ M (tn_w w kt M p st) ∧ ∀ x, ρ.1 803 0 x = σ.1 803 0 x ∧ ρ.1 804 0 x = σ.1 804 0 x := by
    by_cases c : tn_lt st (pw_off w (tn_dr kt M p) (tn_dn kt M p)) (tn_dn kt M p) (tn_te kt M p)
    · refine ⟨τ, ?_, (((qf.rf.wL rfl).wL rfl).wI rfl).tr (kq.mo (by decide)), ?_, fun x => ⟨(kq 803 0 x rfl).1, (kq 804 0 x rfl).1⟩⟩
      · refine ⟨fun _ => ?_, fun z => absurd c z⟩
        simp (disch := omega) only [f_X7_weighTrain_180, kk, Option.bind_some, qi, ql, qI_lt, qI_le, qI_eq, qI_L, qI_ix, qL_lt, qL_eq, q_nat, q_cs, ← Int32.ofInt_add, ← Int32.ofInt_sub, ← Int32.ofInt_mul, ← Int32.ofInt_neg, ← Int64.ofInt_add, ← Int64.ofInt_sub, ← Int64.ofInt_mul, ← Int64.ofInt_neg, pL_I, q_mx, q_mn, q_ab, q_abL, q_mnL, q_nn0, q_nn1, q_rr, q_b1, q_b0, q_T, q_F, q_iT, q_iF, q_d, q_in, q_wi, q_hC, q_hM, pT_i, pU_i, pS_i, pS_j, pS_0, Sum.elim_inl, Sum.elim_inr, if_pos, if_neg]
      · unfold tn_w
        rw [if_pos c]
        refine ⟨by rw [(kq 7 0 10 rfl).2.1]; rfl, fun _ => ⟨by rw [(kq 7 0 9 rfl).2.1]; rfl, by rw [(kq 7 0 8 rfl).1]; rfl, fun j hj => by
          show τ.1 805 0 j = Int32.ofInt (if j < M then kt (p j) else 0)
          rw [kh j hj, if_pos hj]
          exact et j hj⟩⟩
    · refine ⟨σ, ⟨fun z => absurd z c, fun _ => rfl⟩, qf.rf, ?_, fun x => ⟨rfl, rfl⟩⟩
      unfold tn_w
      rw [if_neg c]
      exact ⟨s10, sR⟩
  obtain ⟨ρ, h1, h2, h3, h4⟩ := fin
  refine ⟨ρ, ?_, h2, h3, h4⟩
  have mid : f_X7_weighTrain_109 (Int64.ofInt (tn_dr kt M p)) (Int64.ofInt (tn_dn kt M p)) (Int32.ofInt (tn_te kt M p)) (Int32.ofInt 0) σ = some ρ := by
    by_cases c0 : st.2.1 = 0
    · have h1 := h1.1 (Or.inl c0)
      rw [c0] at s10
      simp (disch := omega) only [f_X7_weighTrain_109, f_X7_weighTrain_155, rr, ot, s10, Int.add_zero, h1, Option.bind_some, qi, ql, qI_lt, qI_le, qI_eq, qI_L, qI_ix, qL_lt, qL_eq, q_nat, q_cs, ← Int32.ofInt_add, ← Int32.ofInt_sub, ← Int32.ofInt_mul, ← Int32.ofInt_neg, ← Int64.ofInt_add, ← Int64.ofInt_sub, ← Int64.ofInt_mul, ← Int64.ofInt_neg, pL_I, q_mx, q_mn, q_ab, q_abL, q_mnL, q_nn0, q_nn1, q_rr, q_b1, q_b0, q_T, q_F, q_iT, q_iF, q_d, q_in, q_wi, q_hC, q_hM, pT_i, pU_i, pS_i, pS_j, pS_0, Sum.elim_inl, Sum.elim_inr, if_pos, if_neg]
    · obtain ⟨s9, s8, -⟩ := sR c0
      have m1 : 0 ≤ pw_off w (tn_dr kt M p) (tn_dn kt M p) * st.2.1 := Int.mul_nonneg (by omega) (by omega)
      have m2 : pw_off w (tn_dr kt M p) (tn_dn kt M p) * st.2.1 ≤ 239976000000 * 40000 := Int.mul_le_mul of.2 o2.2 (by omega) (by omega)
      have m3 : 0 ≤ st.1 * tn_dn kt M p := Int.mul_nonneg (by omega) (by omega)
      have m4 : st.1 * tn_dn kt M p ≤ 240000000000 * 40000 := Int.mul_le_mul o1.2 b.2.1.2 (by omega) (by omega)
      by_cases c1 : pw_off w (tn_dr kt M p) (tn_dn kt M p) * st.2.1 - st.1 * tn_dn kt M p < 0
      · have h1 := h1.1 (Or.inr (Or.inl c1))
        simp (disch := omega) only [f_X7_weighTrain_109, f_X7_weighTrain_155, rr, ot, s10, s9, Int.add_zero, h1, Option.bind_some, qi, ql, qI_lt, qI_le, qI_eq, qI_L, qI_ix, qL_lt, qL_eq, q_nat, q_cs, ← Int32.ofInt_add, ← Int32.ofInt_sub, ← Int32.ofInt_mul, ← Int32.ofInt_neg, ← Int64.ofInt_add, ← Int64.ofInt_sub, ← Int64.ofInt_mul, ← Int64.ofInt_neg, pL_I, q_mx, q_mn, q_ab, q_abL, q_mnL, q_nn0, q_nn1, q_rr, q_b1, q_b0, q_T, q_F, q_iT, q_iF, q_d, q_in, q_wi, q_hC, q_hM, pT_i, pU_i, pS_i, pS_j, pS_0, Sum.elim_inl, Sum.elim_inr, if_pos, if_neg]
      · by_cases c2 : pw_off w (tn_dr kt M p) (tn_dn kt M p) * st.2.1 - st.1 * tn_dn kt M p = 0 ∧ tn_te kt M p < st.2.2.1
        · have h1 := h1.1 (Or.inr (Or.inr c2))
          simp (disch := omega) only [f_X7_weighTrain_109, f_X7_weighTrain_155, rr, ot, s10, s9, s8, Int.add_zero, h1, Option.bind_some, qi, ql, qI_lt, qI_le, qI_eq, qI_L, qI_ix, qL_lt, qL_eq, q_nat, q_cs, ← Int32.ofInt_add, ← Int32.ofInt_sub, ← Int32.ofInt_mul, ← Int32.ofInt_neg, ← Int64.ofInt_add, ← Int64.ofInt_sub, ← Int64.ofInt_mul, ← Int64.ofInt_neg, pL_I, q_mx, q_mn, q_ab, q_abL, q_mnL, q_nn0, q_nn1, q_rr, q_b1, q_b0, q_T, q_F, q_iT, q_iF, q_d, q_in, q_wi, q_hC, q_hM, pT_i, pU_i, pS_i, pS_j, pS_0, Sum.elim_inl, Sum.elim_inr, if_pos, if_neg]
        · have h1 := h1.2 (fun z => by unfold tn_lt at z; omega)
          by_cases c3 : pw_off w (tn_dr kt M p) (tn_dn kt M p) * st.2.1 - st.1 * tn_dn kt M p = 0
          · simp (disch := omega) only [f_X7_weighTrain_109, f_X7_weighTrain_155, rr, ot, s10, s9, s8, Int.add_zero, h1, Option.bind_some, qi, ql, qI_lt, qI_le, qI_eq, qI_L, qI_ix, qL_lt, qL_eq, q_nat, q_cs, ← Int32.ofInt_add, ← Int32.ofInt_sub, ← Int32.ofInt_mul, ← Int32.ofInt_neg, ← Int64.ofInt_add, ← Int64.ofInt_sub, ← Int64.ofInt_mul, ← Int64.ofInt_neg, pL_I, q_mx, q_mn, q_ab, q_abL, q_mnL, q_nn0, q_nn1, q_rr, q_b1, q_b0, q_T, q_F, q_iT, q_iF, q_d, q_in, q_wi, q_hC, q_hM, pT_i, pU_i, pS_i, pS_j, pS_0, Sum.elim_inl, Sum.elim_inr, if_pos, if_neg]
          · simp (disch := omega) only [f_X7_weighTrain_109, f_X7_weighTrain_155, rr, ot, s10, s9, s8, Int.add_zero, h1, Option.bind_some, qi, ql, qI_lt, qI_le, qI_eq, qI_L, qI_ix, qL_lt, qL_eq, q_nat, q_cs, ← Int32.ofInt_add, ← Int32.ofInt_sub, ← Int32.ofInt_mul, ← Int32.ofInt_neg, ← Int64.ofInt_add, ← Int64.ofInt_sub, ← Int64.ofInt_mul, ← Int64.ofInt_neg, pL_I, q_mx, q_mn, q_ab, q_abL, q_mnL, q_nn0, q_nn1, q_rr, q_b1, q_b0, q_T, q_F, q_iT, q_iF, q_d, q_in, q_wi, q_hC, q_hM, pT_i, pU_i, pS_i, pS_j, pS_0, Sum.elim_inl, Sum.elim_inr, if_pos, if_neg]
  have t0 : σ.1 804 0 (0 : Int).toNat = Int32.ofInt (kt (p 0)) := et 0 (by omega)
  have t1 : σ.1 804 0 (1 : Int).toNat = Int32.ofInt (kt (p 1)) := et 1 (by omega)
  have k0 := (K.2 _ (hp 0 (by omega))).2
  have k1 := (K.2 _ (hp 1 (by omega))).2
  rcases hM with rfl | rfl
  · have d1 : tn_dr kt 2 p = kt (p 0) := if_neg (by omega)
    have d2 : tn_dn kt 2 p = kt (p 1) := if_neg (by omega)
    have d3 : tn_te kt 2 p = kt (p 0) + kt (p 1) := if_neg (by omega)
    rw [d1, d2, d3] at mid
    have e2' : σ.1 7 0 2 = Int32.ofInt 2 := e2
    simp (disch := omega) only [f_X7_weighTrain, f_X7_weighTrain_13, f_X7_weighTrain_43, f_X7_weighTrain_73, e2', t0, t1, mid, Option.bind_some, qi, ql, qI_lt, qI_le, qI_eq, qI_L, qI_ix, qL_lt, qL_eq, q_nat, q_cs, ← Int32.ofInt_add, ← Int32.ofInt_sub, ← Int32.ofInt_mul, ← Int32.ofInt_neg, ← Int64.ofInt_add, ← Int64.ofInt_sub, ← Int64.ofInt_mul, ← Int64.ofInt_neg, pL_I, q_mx, q_mn, q_ab, q_abL, q_mnL, q_nn0, q_nn1, q_rr, q_b1, q_b0, q_T, q_F, q_iT, q_iF, q_d, q_in, q_wi, q_hC, q_hM, pT_i, pU_i, pS_i, pS_j, pS_0, Sum.elim_inl, Sum.elim_inr, if_pos, if_neg]
  · have d1 : tn_dr kt 4 p = kt (p 0) * kt (p 2) := if_pos rfl
    have d2 : tn_dn kt 4 p = kt (p 1) * kt (p 3) := if_pos rfl
    have d3 : tn_te kt 4 p = kt (p 0) + kt (p 1) + (kt (p 2) + kt (p 3)) := if_pos rfl
    have t2 : σ.1 804 0 (2 : Int).toNat = Int32.ofInt (kt (p 2)) := et 2 (by omega)
    have t3 : σ.1 804 0 (3 : Int).toNat = Int32.ofInt (kt (p 3)) := et 3 (by omega)
    have k2 := (K.2 _ (hp 2 (by omega))).2
    have k3 := (K.2 _ (hp 3 (by omega))).2
    have e2' : σ.1 7 0 2 = Int32.ofInt 4 := e2
    have mid2 : f_X7_weighTrain_109 (Int64.ofInt (kt (p 0) * kt (p 2))) (Int64.ofInt (kt (p 1) * kt (p 3))) (Int32.ofInt (kt (p 0) + kt (p 1))) (Int32.ofInt (kt (p 2) + kt (p 3))) σ = some ρ := by
      rw [d1, d2, d3] at mid
      unfold f_X7_weighTrain_109 at mid ⊢
      rw [← Int32.ofInt_add, Int.add_zero] at mid
      rw [← Int32.ofInt_add]
      exact mid
    simp (disch := omega) only [f_X7_weighTrain, f_X7_weighTrain_13, f_X7_weighTrain_43, f_X7_weighTrain_73, e2', t0, t1, t2, t3, mid2, Option.bind_some, qi, ql, qI_lt, qI_le, qI_eq, qI_L, qI_ix, qL_lt, qL_eq, q_nat, q_cs, ← Int32.ofInt_add, ← Int32.ofInt_sub, ← Int32.ofInt_mul, ← Int32.ofInt_neg, ← Int64.ofInt_add, ← Int64.ofInt_sub, ← Int64.ofInt_mul, ← Int64.ofInt_neg, pL_I, q_mx, q_mn, q_ab, q_abL, q_mnL, q_nn0, q_nn1, q_rr, q_b1, q_b0, q_T, q_F, q_iT, q_iF, q_d, q_in, q_wi, q_hC, q_hM, pT_i, pU_i, pS_i, pS_j, pS_0, Sum.elim_inl, Sum.elim_inr, if_pos, if_neg]
