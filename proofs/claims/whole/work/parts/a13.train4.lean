/-! ===== BEST TRAIN: the reference ===== -/
def tm_K (σ : am_H) (m kc : Nat) (kw kt : Nat → Int) : Prop := σ.1 1321 0 m = Int32.ofInt kc ∧ ∀ x, x < kc → σ.1 1325 0 (20 * m + 2 * x) = Int32.ofInt (kw x) ∧ σ.1 1325 0 (20 * m + 2 * x + 1) = Int32.ofInt (kt x)
def tm_P (σ : am_H) (kc M : Nat) (p : Nat → Nat) : Prop := ∀ j, j < M → σ.1 1377 0 j = Int32.ofInt (p j) ∧ p j < kc
theorem tm_teeth {σ : am_H} {m kc x : Nat} {kw kt : Nat → Int} (hm : m < 2) (hk : kc ≤ 10) (K : tm_K σ m kc kw kt) (hx : x < kc) : f_X12_teeth (Int32.ofInt m) (Int32.ofInt x) σ = some (Int32.ofInt (kt x)) ∧ f_X12_boxed (Int32.ofInt m) (Int32.ofInt x) σ = some (Int32.ofInt (kw x)) := by
  obtain ⟨e1, e2⟩ := K.2 x hx
  have i1 : (20 * (m : Int) + 2 * x + 1).toNat = 20 * m + 2 * x + 1 := by omega
  have i2 : (20 * (m : Int) + 2 * x).toNat = 20 * m + 2 * x := by omega
  constructor
  · simp (disch := omega) only [f_X12_teeth, i1, e2, Option.bind_some, qi, ql, qI_lt, qI_le, qI_eq, qI_L, qI_ix, qL_lt, qL_eq, q_nat, q_cs, ← Int32.ofInt_add, ← Int32.ofInt_sub, ← Int32.ofInt_mul, ← Int32.ofInt_neg, ← Int64.ofInt_add, ← Int64.ofInt_sub, ← Int64.ofInt_mul, ← Int64.ofInt_neg, pL_I, q_mx, q_mn, q_ab, q_abL, q_mnL, q_nn0, q_nn1, q_rr, q_b1, q_b0, q_T, q_F, q_iT, q_iF, q_d, q_in, q_wi, q_hC, q_hM, pT_i, pU_i, pS_i, pS_j, pS_0, Sum.elim_inl, Sum.elim_inr, if_pos, if_neg]
  · simp (disch := omega) only [f_X12_boxed, i2, e1, Option.bind_some, qi, ql, qI_lt, qI_le, qI_eq, qI_L, qI_ix, qL_lt, qL_eq, q_nat, q_cs, ← Int32.ofInt_add, ← Int32.ofInt_sub, ← Int32.ofInt_mul, ← Int32.ofInt_neg, ← Int64.ofInt_add, ← Int64.ofInt_sub, ← Int64.ofInt_mul, ← Int64.ofInt_neg, pL_I, q_mx, q_mn, q_ab, q_abL, q_mnL, q_nn0, q_nn1, q_rr, q_b1, q_b0, q_T, q_F, q_iT, q_iF, q_d, q_in, q_wi, q_hC, q_hM, pT_i, pU_i, pS_i, pS_j, pS_0, Sum.elim_inl, Sum.elim_inr, if_pos, if_neg]
theorem tm_hasAll {σ : am_H} {m kc M : Nat} {kw kt : Nat → Int} {p : Nat → Nat} (hm : m < 2) (KK : tn_K kc kw kt) (K : tm_K σ m kc kw kt) (hM : M ≤ 6) (P : tm_P σ kc M p) : ∃ b : Bool, f_X12_hasAll (Int32.ofInt m) (Int32.ofInt M) σ = some b ∧ (b = true ↔ en_ok kw p M) := by
  have k10 := KK.1
  have cnt : ∀ k, k < M → am_loop (fun s : Int32 × Int32 => f_X12_hasAll_13 (Int32.ofInt m) (Int32.ofInt M) (Int32.ofInt k) s.1 s.2 σ) (Int32.ofInt 0, Int32.ofInt 0) = some (Int32.ofInt (en_n p M (p k) : Int)) := by
    intro k hk
    refine am_loop_n (body := fun s : Int32 × Int32 => f_X12_hasAll_13 (Int32.ofInt m) (Int32.ofInt M) (Int32.ofInt k) s.1 s.2 σ) (fun i => (Int32.ofInt ((en_n p i (p k) : Nat) : Int), Int32.ofInt i)) M ?_ ?_
    · intro i hi
      obtain ⟨a1, a2⟩ := P i hi
      obtain ⟨b1, b2⟩ := P k hk
      show _ = some (Sum.inl (Int32.ofInt ((en_n p i (p k) + (if p i = p k then 1 else 0) : Nat) : Int), Int32.ofInt ((i + 1 : Nat) : Int)))
      by_cases c : p i = p k
      · rw [if_pos c]
        simp (disch := omega) only [f_X12_hasAll_13, a1, b1, Option.bind_some, qi, ql, qI_lt, qI_le, qI_eq, qI_L, qI_ix, qL_lt, qL_eq, q_nat, q_cs, ← Int32.ofInt_add, ← Int32.ofInt_sub, ← Int32.ofInt_mul, ← Int32.ofInt_neg, ← Int64.ofInt_add, ← Int64.ofInt_sub, ← Int64.ofInt_mul, ← Int64.ofInt_neg, pL_I, q_mx, q_mn, q_ab, q_abL, q_mnL, q_nn0, q_nn1, q_rr, q_b1, q_b0, q_T, q_F, q_iT, q_iF, q_d, q_in, q_wi, q_hC, q_hM, pT_i, pU_i, pS_i, pS_j, pS_0, Sum.elim_inl, Sum.elim_inr, if_pos, if_neg]
      · rw [if_neg c]
        simp (disch := omega) only [f_X12_hasAll_13, a1, b1, Int.add_zero, Nat.add_zero, Option.bind_some, qi, ql, qI_lt, qI_le, qI_eq, qI_L, qI_ix, qL_lt, qL_eq, q_nat, q_cs, ← Int32.ofInt_add, ← Int32.ofInt_sub, ← Int32.ofInt_mul, ← Int32.ofInt_neg, ← Int64.ofInt_add, ← Int64.ofInt_sub, ← Int64.ofInt_mul, ← Int64.ofInt_neg, pL_I, q_mx, q_mn, q_ab, q_abL, q_mnL, q_nn0, q_nn1, q_rr, q_b1, q_b0, q_T, q_F, q_iT, q_iF, q_d, q_in, q_wi, q_hC, q_hM, pT_i, pU_i, pS_i, pS_j, pS_0, Sum.elim_inl, Sum.elim_inr, if_pos, if_neg]
    · simp (disch := omega) only [f_X12_hasAll_13, Option.bind_some, qi, ql, qI_lt, qI_le, qI_eq, qI_L, qI_ix, qL_lt, qL_eq, q_nat, q_cs, ← Int32.ofInt_add, ← Int32.ofInt_sub, ← Int32.ofInt_mul, ← Int32.ofInt_neg, ← Int64.ofInt_add, ← Int64.ofInt_sub, ← Int64.ofInt_mul, ← Int64.ofInt_neg, pL_I, q_mx, q_mn, q_ab, q_abL, q_mnL, q_nn0, q_nn1, q_rr, q_b1, q_b0, q_T, q_F, q_iT, q_iF, q_d, q_in, q_wi, q_hC, q_hM, pT_i, pU_i, pS_i, pS_j, pS_0, Sum.elim_inl, Sum.elim_inr, if_pos, if_neg]
  obtain ⟨r, k1, k2⟩ := am_loop_1 (B := fun s : Int32 => f_X12_hasAll_2 (Int32.ofInt m) (Int32.ofInt M) s σ) (fun N s => ∃ k : Nat, s = Int32.ofInt k ∧ k ≤ M ∧ (∀ j, j < k → (en_n p M (p j) : Int) ≤ kw (p j)) ∧ N = M - k) (fun r => (r = .inr () ∧ en_ok kw p M) ∨ (r = .inl () ∧ ¬ en_ok kw p M)) (by
    rintro N s ⟨k, rfl, hk, h, rfl⟩
    by_cases c : k < M
    · obtain ⟨b1, b2⟩ := P k c
      have bx := (tm_teeth hm k10 K b2).2
      have kx := KK.2 (p k) b2
      have nb := en_nb (p := p) (m := M) (x := p k)
      have lp := cnt k c
      by_cases cl : kw (p k) < (en_n p M (p k) : Int)
      · left
        refine ⟨.inl (), ?_, Or.inr ⟨rfl, fun z => ?_⟩⟩
        · simp (disch := omega) only [f_X12_hasAll_2, lp, b1, bx, Option.bind_some, qi, ql, qI_lt, qI_le, qI_eq, qI_L, qI_ix, qL_lt, qL_eq, q_nat, q_cs, ← Int32.ofInt_add, ← Int32.ofInt_sub, ← Int32.ofInt_mul, ← Int32.ofInt_neg, ← Int64.ofInt_add, ← Int64.ofInt_sub, ← Int64.ofInt_mul, ← Int64.ofInt_neg, pL_I, q_mx, q_mn, q_ab, q_abL, q_mnL, q_nn0, q_nn1, q_rr, q_b1, q_b0, q_T, q_F, q_iT, q_iF, q_d, q_in, q_wi, q_hC, q_hM, pT_i, pU_i, pS_i, pS_j, pS_0, Sum.elim_inl, Sum.elim_inr, if_pos, if_neg]
        · have := z k c
          omega
      · right
        refine ⟨Int32.ofInt ((k : Int) + 1), M - (k + 1), ?_, by omega, k + 1, rfl, by omega, fun j hj => ?_, rfl⟩
        · simp (disch := omega) only [f_X12_hasAll_2, lp, b1, bx, Option.bind_some, qi, ql, qI_lt, qI_le, qI_eq, qI_L, qI_ix, qL_lt, qL_eq, q_nat, q_cs, ← Int32.ofInt_add, ← Int32.ofInt_sub, ← Int32.ofInt_mul, ← Int32.ofInt_neg, ← Int64.ofInt_add, ← Int64.ofInt_sub, ← Int64.ofInt_mul, ← Int64.ofInt_neg, pL_I, q_mx, q_mn, q_ab, q_abL, q_mnL, q_nn0, q_nn1, q_rr, q_b1, q_b0, q_T, q_F, q_iT, q_iF, q_d, q_in, q_wi, q_hC, q_hM, pT_i, pU_i, pS_i, pS_j, pS_0, Sum.elim_inl, Sum.elim_inr, if_pos, if_neg]
        · by_cases cj : j = k
          · subst cj; omega
          · exact h j (by omega)
    · left
      have : k = M := by omega
      subst this
      refine ⟨.inr (), ?_, Or.inl ⟨rfl, h⟩⟩
      simp (disch := omega) only [f_X12_hasAll_2, Option.bind_some, qi, ql, qI_lt, qI_le, qI_eq, qI_L, qI_ix, qL_lt, qL_eq, q_nat, q_cs, ← Int32.ofInt_add, ← Int32.ofInt_sub, ← Int32.ofInt_mul, ← Int32.ofInt_neg, ← Int64.ofInt_add, ← Int64.ofInt_sub, ← Int64.ofInt_mul, ← Int64.ofInt_neg, pL_I, q_mx, q_mn, q_ab, q_abL, q_mnL, q_nn0, q_nn1, q_rr, q_b1, q_b0, q_T, q_F, q_iT, q_iF, q_d, q_in, q_wi, q_hC, q_hM, pT_i, pU_i, pS_i, pS_j, pS_0, Sum.elim_inl, Sum.elim_inr, if_pos, if_neg]) M (Int32.ofInt 0) ⟨0, rfl, by omega, fun j hj => by omega, rfl⟩
  rcases k2 with ⟨rfl, h⟩ | ⟨rfl, h⟩
  · refine ⟨true, ?_, ⟨fun _ => h, fun _ => rfl⟩⟩
    simp (disch := omega) only [f_X12_hasAll, k1, Option.bind_some, qi, ql, qI_lt, qI_le, qI_eq, qI_L, qI_ix, qL_lt, qL_eq, q_nat, q_cs, ← Int32.ofInt_add, ← Int32.ofInt_sub, ← Int32.ofInt_mul, ← Int32.ofInt_neg, ← Int64.ofInt_add, ← Int64.ofInt_sub, ← Int64.ofInt_mul, ← Int64.ofInt_neg, pL_I, q_mx, q_mn, q_ab, q_abL, q_mnL, q_nn0, q_nn1, q_rr, q_b1, q_b0, q_T, q_F, q_iT, q_iF, q_d, q_in, q_wi, q_hC, q_hM, pT_i, pU_i, pS_i, pS_j, pS_0, Sum.elim_inl, Sum.elim_inr, if_pos, if_neg]
  · refine ⟨false, ?_, ⟨fun z => (by cases z), fun z => absurd z h⟩⟩
    simp (disch := omega) only [f_X12_hasAll, k1, Option.bind_some, qi, ql, qI_lt, qI_le, qI_eq, qI_L, qI_ix, qL_lt, qL_eq, q_nat, q_cs, ← Int32.ofInt_add, ← Int32.ofInt_sub, ← Int32.ofInt_mul, ← Int32.ofInt_neg, ← Int64.ofInt_add, ← Int64.ofInt_sub, ← Int64.ofInt_mul, ← Int64.ofInt_neg, pL_I, q_mx, q_mn, q_ab, q_abL, q_mnL, q_nn0, q_nn1, q_rr, q_b1, q_b0, q_T, q_F, q_iT, q_iF, q_d, q_in, q_wi, q_hC, q_hM, pT_i, pU_i, pS_i, pS_j, pS_0, Sum.elim_inl, Sum.elim_inr, if_pos, if_neg]
theorem tm_teethOf {σ : am_H} {m kc M : Nat} {kw kt : Nat → Int} {p : Nat → Nat} (hm : m < 2) (k10 : kc ≤ 10) (K : tm_K σ m kc kw kt) (hM : M ≤ 6) (P : tm_P σ kc M p) : f_X12_teethOf (Int32.ofInt m) (Int32.ofInt M) σ = some (Int32.ofInt (ps_sum (fun j => kt (p j)) M)) := by
  have lp := am_loop_n (body := fun s : Int32 × Int32 => f_X12_teethOf_5 (Int32.ofInt m) (Int32.ofInt M) s.1 s.2 σ) (fun i => (Int32.ofInt (ps_sum (fun j => kt (p j)) i), Int32.ofInt i)) M (r := Int32.ofInt (ps_sum (fun j => kt (p j)) M)) ?_ ?_
  · have lp' : am_loop (fun s : Int32 × Int32 => f_X12_teethOf_5 (Int32.ofInt m) (Int32.ofInt M) s.1 s.2 σ) (Int32.ofInt 0, Int32.ofInt 0) = _ := lp
    simp (disch := omega) only [f_X12_teethOf, lp', Option.bind_some, qi, ql, qI_lt, qI_le, qI_eq, qI_L, qI_ix, qL_lt, qL_eq, q_nat, q_cs, ← Int32.ofInt_add, ← Int32.ofInt_sub, ← Int32.ofInt_mul, ← Int32.ofInt_neg, ← Int64.ofInt_add, ← Int64.ofInt_sub, ← Int64.ofInt_mul, ← Int64.ofInt_neg, pL_I, q_mx, q_mn, q_ab, q_abL, q_mnL, q_nn0, q_nn1, q_rr, q_b1, q_b0, q_T, q_F, q_iT, q_iF, q_d, q_in, q_wi, q_hC, q_hM, pT_i, pU_i, pS_i, pS_j, pS_0, Sum.elim_inl, Sum.elim_inr, if_pos, if_neg]
  · intro i hi
    obtain ⟨a1, a2⟩ := P i hi
    have t := (tm_teeth hm k10 K a2).1
    simp (disch := omega) only [f_X12_teethOf_5, a1, t, Option.bind_some, qi, ql, qI_lt, qI_le, qI_eq, qI_L, qI_ix, qL_lt, qL_eq, q_nat, q_cs, ← Int32.ofInt_add, ← Int32.ofInt_sub, ← Int32.ofInt_mul, ← Int32.ofInt_neg, ← Int64.ofInt_add, ← Int64.ofInt_sub, ← Int64.ofInt_mul, ← Int64.ofInt_neg, pL_I, q_mx, q_mn, q_ab, q_abL, q_mnL, q_nn0, q_nn1, q_rr, q_b1, q_b0, q_T, q_F, q_iT, q_iF, q_d, q_in, q_wi, q_hC, q_hM, pT_i, pU_i, pS_i, pS_j, pS_0, Sum.elim_inl, Sum.elim_inr, if_pos, if_neg]
    rfl
  · simp (disch := omega) only [f_X12_teethOf_5, Option.bind_some, qi, ql, qI_lt, qI_le, qI_eq, qI_L, qI_ix, qL_lt, qL_eq, q_nat, q_cs, ← Int32.ofInt_add, ← Int32.ofInt_sub, ← Int32.ofInt_mul, ← Int32.ofInt_neg, ← Int64.ofInt_add, ← Int64.ofInt_sub, ← Int64.ofInt_mul, ← Int64.ofInt_neg, pL_I, q_mx, q_mn, q_ab, q_abL, q_mnL, q_nn0, q_nn1, q_rr, q_b1, q_b0, q_T, q_F, q_iT, q_iF, q_d, q_in, q_wi, q_hC, q_hM, pT_i, pU_i, pS_i, pS_j, pS_0, Sum.elim_inl, Sum.elim_inr, if_pos, if_neg]
theorem tm_prod {σ : am_H} {m kc M : Nat} {kw kt : Nat → Int} {p : Nat → Nat} (hm : m < 2) (KK : tn_K kc kw kt) (K : tm_K σ m kc kw kt) (hM : M = 2 ∨ M = 4) (P : tm_P σ kc M p) : f_X12_product (Int32.ofInt m) (Int32.ofInt 0) (Int32.ofInt M) σ = some (Int64.ofInt (tn_dr kt M p)) ∧ f_X12_product (Int32.ofInt m) (Int32.ofInt 1) (Int32.ofInt M) σ = some (Int64.ofInt (tn_dn kt M p)) := by
  have k10 := KK.1
  have st : ∀ (i : Nat) (v : Int), i < M → f_X12_product_6 (Int32.ofInt m) (Int32.ofInt M) (Int64.ofInt v) (Int32.ofInt i) σ = some (.inl (Int64.ofInt (v * kt (p i)), Int32.ofInt ((i : Int) + 2))) := by
    intro i v hi
    obtain ⟨a1, a2⟩ := P i hi
    have t := (tm_teeth hm k10 K a2).1
    have kx := (KK.2 _ a2).2
    simp (disch := omega) only [f_X12_product_6, a1, t, Option.bind_some, qi, ql, qI_lt, qI_le, qI_eq, qI_L, qI_ix, qL_lt, qL_eq, q_nat, q_cs, ← Int32.ofInt_add, ← Int32.ofInt_sub, ← Int32.ofInt_mul, ← Int32.ofInt_neg, ← Int64.ofInt_add, ← Int64.ofInt_sub, ← Int64.ofInt_mul, ← Int64.ofInt_neg, pL_I, q_mx, q_mn, q_ab, q_abL, q_mnL, q_nn0, q_nn1, q_rr, q_b1, q_b0, q_T, q_F, q_iT, q_iF, q_d, q_in, q_wi, q_hC, q_hM, pT_i, pU_i, pS_i, pS_j, pS_0, Sum.elim_inl, Sum.elim_inr, if_pos, if_neg]
  have ed : ∀ (i : Nat) (v : Int), M ≤ i → i < 10 → f_X12_product_6 (Int32.ofInt m) (Int32.ofInt M) (Int64.ofInt v) (Int32.ofInt i) σ = some (.inr (Int64.ofInt v)) := by
    intro i v hi h10
    simp (disch := omega) only [f_X12_product_6, Option.bind_some, qi, ql, qI_lt, qI_le, qI_eq, qI_L, qI_ix, qL_lt, qL_eq, q_nat, q_cs, ← Int32.ofInt_add, ← Int32.ofInt_sub, ← Int32.ofInt_mul, ← Int32.ofInt_neg, ← Int64.ofInt_add, ← Int64.ofInt_sub, ← Int64.ofInt_mul, ← Int64.ofInt_neg, pL_I, q_mx, q_mn, q_ab, q_abL, q_mnL, q_nn0, q_nn1, q_rr, q_b1, q_b0, q_T, q_F, q_iT, q_iF, q_d, q_in, q_wi, q_hC, q_hM, pT_i, pU_i, pS_i, pS_j, pS_0, Sum.elim_inl, Sum.elim_inr, if_pos, if_neg]
  rcases hM with rfl | rfl
  · have l0 : am_loop (fun s : Int64 × Int32 => f_X12_product_6 (Int32.ofInt m) (Int32.ofInt (2 : Nat)) s.1 s.2 σ) (Int64.ofInt 1, Int32.ofInt 0) = some (Int64.ofInt (tn_dr kt 2 p)) := by
      refine (am_loop_in (s' := (Int64.ofInt (1 * kt (p 0)), Int32.ofInt 2)) (st 0 1 (by omega))).trans (am_loop_out ?_)
      rw [show tn_dr kt 2 p = 1 * kt (p 0) by unfold tn_dr; rw [if_neg (by omega), Int.one_mul]]
      exact ed 2 _ (by omega) (by omega)
    have l1 : am_loop (fun s : Int64 × Int32 => f_X12_product_6 (Int32.ofInt m) (Int32.ofInt (2 : Nat)) s.1 s.2 σ) (Int64.ofInt 1, Int32.ofInt 1) = some (Int64.ofInt (tn_dn kt 2 p)) := by
      refine (am_loop_in (s' := (Int64.ofInt (1 * kt (p 1)), Int32.ofInt 3)) (st 1 1 (by omega))).trans (am_loop_out ?_)
      rw [show tn_dn kt 2 p = 1 * kt (p 1) by unfold tn_dn; rw [if_neg (by omega), Int.one_mul]]
      exact ed 3 _ (by omega) (by omega)
    constructor
    · unfold f_X12_product
      rw [show ((1 : Int64), Int32.ofInt 0) = (Int64.ofInt 1, Int32.ofInt 0) from rfl, l0]
      rfl
    · unfold f_X12_product
      rw [show ((1 : Int64), Int32.ofInt 1) = (Int64.ofInt 1, Int32.ofInt 1) from rfl, l1]
      rfl
  · have l0 : am_loop (fun s : Int64 × Int32 => f_X12_product_6 (Int32.ofInt m) (Int32.ofInt (4 : Nat)) s.1 s.2 σ) (Int64.ofInt 1, Int32.ofInt 0) = some (Int64.ofInt (tn_dr kt 4 p)) := by
      refine (am_loop_in (s' := (Int64.ofInt (1 * kt (p 0)), Int32.ofInt 2)) (st 0 1 (by omega))).trans ((am_loop_in (s' := (Int64.ofInt (1 * kt (p 0) * kt (p 2)), Int32.ofInt 4)) (st 2 _ (by omega))).trans (am_loop_out ?_))
      rw [show tn_dr kt 4 p = 1 * kt (p 0) * kt (p 2) by unfold tn_dr; rw [if_pos rfl, Int.one_mul]]
      exact ed 4 _ (by omega) (by omega)
    have l1 : am_loop (fun s : Int64 × Int32 => f_X12_product_6 (Int32.ofInt m) (Int32.ofInt (4 : Nat)) s.1 s.2 σ) (Int64.ofInt 1, Int32.ofInt 1) = some (Int64.ofInt (tn_dn kt 4 p)) := by
      refine (am_loop_in (s' := (Int64.ofInt (1 * kt (p 1)), Int32.ofInt 3)) (st 1 1 (by omega))).trans ((am_loop_in (s' := (Int64.ofInt (1 * kt (p 1) * kt (p 3)), Int32.ofInt 5)) (st 3 _ (by omega))).trans (am_loop_out ?_))
      rw [show tn_dn kt 4 p = 1 * kt (p 1) * kt (p 3) by unfold tn_dn; rw [if_pos rfl, Int.one_mul]]
      exact ed 5 _ (by omega) (by omega)
    constructor
    · unfold f_X12_product
      rw [show ((1 : Int64), Int32.ofInt 0) = (Int64.ofInt 1, Int32.ofInt 0) from rfl, l0]
      rfl
    · unfold f_X12_product
      rw [show ((1 : Int64), Int32.ofInt 1) = (Int64.ofInt 1, Int32.ofInt 1) from rfl, l1]
      rfl
/-- the next row of kinds -/
theorem tm_goes {σ : am_H} {m kc M : Nat} {kw kt : Nat → Int} {p : Nat → Nat} (hm : m < 2) (k10 : kc ≤ 10) (k0 : 0 < kc) (K : tm_K σ m kc kw kt) (hM0 : 0 < M) (hM : M ≤ 6) (P : tm_P σ kc M p) : ∃ (b : Bool) (τ : am_H), f_X12_goesOn (Int32.ofInt m) (Int32.ofInt M) σ = some (b, τ) ∧ qf [(1377, 999)] σ τ ∧ ((b = false ∧ ∀ j, j < M → p j = kc - 1) ∨ (b = true ∧ ∃ (i : Nat) (q : Nat → Nat), i < M ∧ p i < kc - 1 ∧ q i = p i + 1 ∧ (∀ j, j < i → q j = p j) ∧ (∀ j, i < j → j < M → p j = kc - 1 ∧ q j = 0) ∧ tm_P τ kc M q)) := by
  obtain ⟨w, k1, k2⟩ := am_loop_1 (B := fun s : Int32 × am_H => f_X12_goesOn_4 (Int32.ofInt m) s.1 s.2) (fun N s => ∃ (i : Nat) (ρ : am_H), s = (Int32.ofInt ((i : Int) - 1), ρ) ∧ i ≤ M ∧ qf [(1377, 999)] σ ρ ∧ (∀ j, j < i → ρ.1 1377 0 j = Int32.ofInt (p j)) ∧ (∀ j, i ≤ j → j < M → p j = kc - 1 ∧ ρ.1 1377 0 j = Int32.ofInt 0) ∧ N = i) (fun w => ∃ (i : Nat) (ρ : am_H), w = (Int32.ofInt ((i : Int) - 1), ρ) ∧ i ≤ M ∧ qf [(1377, 999)] σ ρ ∧ (∀ j, j < i → ρ.1 1377 0 j = Int32.ofInt (p j)) ∧ (∀ j, i ≤ j → j < M → p j = kc - 1 ∧ ρ.1 1377 0 j = Int32.ofInt 0) ∧ (0 < i → p (i - 1) < kc - 1)) (by
    rintro N s ⟨i, ρ, rfl, hi, q, h1, h2, hN⟩
    by_cases c0 : i = 0
    · left
      subst c0
      refine ⟨_, ?_, 0, ρ, rfl, by omega, q, h1, h2, fun z => by omega⟩
      simp (disch := omega) only [f_X12_goesOn_4, Option.bind_some, qi, ql, qI_lt, qI_le, qI_eq, qI_L, qI_ix, qL_lt, qL_eq, q_nat, q_cs, ← Int32.ofInt_add, ← Int32.ofInt_sub, ← Int32.ofInt_mul, ← Int32.ofInt_neg, ← Int64.ofInt_add, ← Int64.ofInt_sub, ← Int64.ofInt_mul, ← Int64.ofInt_neg, pL_I, q_mx, q_mn, q_ab, q_abL, q_mnL, q_nn0, q_nn1, q_rr, q_b1, q_b0, q_T, q_F, q_iT, q_iF, q_d, q_in, q_wi, q_hC, q_hM, pT_i, pU_i, pS_i, pS_j, pS_0, Sum.elim_inl, Sum.elim_inr, if_pos, if_neg]
    · have e1 := h1 (i - 1) (by omega)
      have b := (P (i - 1) (by omega)).2
      have kk : ρ.1 1321 0 m = Int32.ofInt kc := by rw [(q 1321 0 m rfl).1]; exact K.1
      have ix : ((i : Int) - 1).toNat = i - 1 := by omega
      by_cases c : p (i - 1) = kc - 1
      · right
        refine ⟨(Int32.ofInt ((i : Int) - 1 + -1), am_wI ρ 1377 0 (i - 1) (Int32.ofInt 0)), i - 1, ?_, by omega, i - 1, _, by rw [show (((i - 1 : Nat) : Int) - 1) = (i : Int) - 1 + -1 by omega], by omega, q.wI rfl, fun j hj => ?_, fun j hj hjM => ?_, rfl⟩
        · simp (disch := omega) only [f_X12_goesOn_4, ix, e1, kk, Option.bind_some, qi, ql, qI_lt, qI_le, qI_eq, qI_L, qI_ix, qL_lt, qL_eq, q_nat, q_cs, ← Int32.ofInt_add, ← Int32.ofInt_sub, ← Int32.ofInt_mul, ← Int32.ofInt_neg, ← Int64.ofInt_add, ← Int64.ofInt_sub, ← Int64.ofInt_mul, ← Int64.ofInt_neg, pL_I, q_mx, q_mn, q_ab, q_abL, q_mnL, q_nn0, q_nn1, q_rr, q_b1, q_b0, q_T, q_F, q_iT, q_iF, q_d, q_in, q_wi, q_hC, q_hM, pT_i, pU_i, pS_i, pS_j, pS_0, Sum.elim_inl, Sum.elim_inr, if_pos, if_neg]
        · rw [am_wI_r, if_neg (by omega)]
          exact h1 j (by omega)
        · rw [am_wI_r]
          by_cases cj : j = i - 1
          · rw [if_pos ⟨rfl, rfl, cj⟩, cj]
            exact ⟨c, rfl⟩
          · rw [if_neg (by omega)]
            exact h2 j (by omega) hjM
      · left
        refine ⟨_, ?_, i, ρ, rfl, hi, q, h1, h2, fun _ => by omega⟩
        simp (disch := omega) only [f_X12_goesOn_4, ix, e1, kk, Option.bind_some, qi, ql, qI_lt, qI_le, qI_eq, qI_L, qI_ix, qL_lt, qL_eq, q_nat, q_cs, ← Int32.ofInt_add, ← Int32.ofInt_sub, ← Int32.ofInt_mul, ← Int32.ofInt_neg, ← Int64.ofInt_add, ← Int64.ofInt_sub, ← Int64.ofInt_mul, ← Int64.ofInt_neg, pL_I, q_mx, q_mn, q_ab, q_abL, q_mnL, q_nn0, q_nn1, q_rr, q_b1, q_b0, q_T, q_F, q_iT, q_iF, q_d, q_in, q_wi, q_hC, q_hM, pT_i, pU_i, pS_i, pS_j, pS_0, Sum.elim_inl, Sum.elim_inr, if_pos, if_neg]) M (Int32.ofInt ((M : Int) - 1), σ) ⟨M, σ, rfl, by omega, qf.rf, fun j hj => (P j hj).1, fun j hj hj2 => by omega, rfl⟩
  obtain ⟨i, ρ, rfl, hi, q, h1, h2, h3⟩ := k2
  by_cases c0 : i = 0
  · subst c0
    refine ⟨false, ρ, ?_, q, Or.inl ⟨rfl, fun j hj => (h2 j (by omega) hj).1⟩⟩
    simp (disch := omega) only [f_X12_goesOn, k1, Option.bind_some, qi, ql, qI_lt, qI_le, qI_eq, qI_L, qI_ix, qL_lt, qL_eq, q_nat, q_cs, ← Int32.ofInt_add, ← Int32.ofInt_sub, ← Int32.ofInt_mul, ← Int32.ofInt_neg, ← Int64.ofInt_add, ← Int64.ofInt_sub, ← Int64.ofInt_mul, ← Int64.ofInt_neg, pL_I, q_mx, q_mn, q_ab, q_abL, q_mnL, q_nn0, q_nn1, q_rr, q_b1, q_b0, q_T, q_F, q_iT, q_iF, q_d, q_in, q_wi, q_hC, q_hM, pT_i, pU_i, pS_i, pS_j, pS_0, Sum.elim_inl, Sum.elim_inr, if_pos, if_neg]
  · have e1 := h1 (i - 1) (by omega)
    have b := h3 (by omega)
    have ix : ((i : Int) - 1).toNat = i - 1 := by omega
    refine ⟨true, am_wI ρ 1377 0 (i - 1) (Int32.ofInt ((p (i - 1) : Int) + 1)), ?_, q.wI rfl, Or.inr ⟨rfl, i - 1, fun j => if j = i - 1 then p (i - 1) + 1 else if i - 1 < j then 0 else p j, by omega, b, if_pos rfl, fun j hj => ?_, fun j hj hjM => ⟨(h2 j (by omega) hjM).1, ?_⟩, fun j hj => ?_⟩⟩
    · simp (disch := omega) only [f_X12_goesOn, k1, ix, e1, Option.bind_some, qi, ql, qI_lt, qI_le, qI_eq, qI_L, qI_ix, qL_lt, qL_eq, q_nat, q_cs, ← Int32.ofInt_add, ← Int32.ofInt_sub, ← Int32.ofInt_mul, ← Int32.ofInt_neg, ← Int64.ofInt_add, ← Int64.ofInt_sub, ← Int64.ofInt_mul, ← Int64.ofInt_neg, pL_I, q_mx, q_mn, q_ab, q_abL, q_mnL, q_nn0, q_nn1, q_rr, q_b1, q_b0, q_T, q_F, q_iT, q_iF, q_d, q_in, q_wi, q_hC, q_hM, pT_i, pU_i, pS_i, pS_j, pS_0, Sum.elim_inl, Sum.elim_inr, if_pos, if_neg]
    · show (if j = i - 1 then p (i - 1) + 1 else if i - 1 < j then 0 else p j) = p j
      rw [if_neg (by omega), if_neg (by omega)]
    · show (if j = i - 1 then p (i - 1) + 1 else if i - 1 < j then 0 else p j) = 0
      rw [if_neg (by omega), if_pos hj]
    · show (am_wI ρ 1377 0 (i - 1) (Int32.ofInt ((p (i - 1) : Int) + 1))).1 1377 0 j = Int32.ofInt ((if j = i - 1 then p (i - 1) + 1 else if i - 1 < j then 0 else p j : Nat) : Int) ∧ (if j = i - 1 then p (i - 1) + 1 else if i - 1 < j then 0 else p j) < kc
      rw [am_wI_r]
      by_cases cj : j = i - 1
      · rw [if_pos ⟨rfl, rfl, cj⟩, if_pos cj]
        exact ⟨rfl, by omega⟩
      · rw [if_neg (by omega), if_neg cj]
        by_cases cj2 : i - 1 < j
        · rw [if_pos cj2]
          exact ⟨(h2 j (by omega) hj).2, k0⟩
        · rw [if_neg cj2]
          exact ⟨h1 j (by omega), (P j hj).2⟩
/-- a row as a number -/
def en_v (c : Nat) : Nat → Nat → (Nat → Nat) → Nat
  | 0, _, _ => 0
  | r + 1, k, p => p k * c ^ r + en_v c r (k + 1) p
theorem en_vb {c : Nat} : ∀ (r k : Nat) (p : Nat → Nat), (∀ j, k ≤ j → j < k + r → p j < c) → en_v c r k p < c ^ r := by
  intro r
  induction r with
  | zero => intro k p h; exact Nat.one_pos
  | succ r ih =>
    intro k p h
    have h1 := ih (k + 1) p (fun j h1 h2 => h j (by omega) (by omega))
    have h2 := h k (by omega) (by omega)
    show p k * c ^ r + en_v c r (k + 1) p < c ^ (r + 1)
    have h3 : (p k + 1) * c ^ r ≤ c * c ^ r := Nat.mul_le_mul_right _ (by omega)
    rw [Nat.pow_succ, Nat.mul_comm (c ^ r) c]
    rw [Nat.add_mul, Nat.one_mul] at h3
    omega
theorem en_vs {c : Nat} : ∀ (r k : Nat) (p q : Nat → Nat) (i : Nat), k ≤ i → i < k + r → (∀ j, k ≤ j → j < k + r → p j < c) → q i = p i + 1 → (∀ j, j < i → q j = p j) → en_v c r k p < en_v c r k q := by
  intro r
  induction r with
  | zero => intro k p q i h1 h2; omega
  | succ r ih =>
    intro k p q i h1 h2 h3 h4 h5
    show p k * c ^ r + en_v c r (k + 1) p < q k * c ^ r + en_v c r (k + 1) q
    by_cases ci : i = k
    · subst ci
      have h6 := en_vb r (i + 1) p (fun j j1 j2 => h3 j (by omega) (by omega))
      rw [h4, Nat.add_mul, Nat.one_mul]
      omega
    · have := ih (k + 1) p q i (by omega) (by omega) (fun j j1 j2 => h3 j (by omega) (by omega)) h4 h5
      rw [h5 k (by omega)]
      omega
