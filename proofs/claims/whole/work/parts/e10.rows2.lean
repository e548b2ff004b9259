/-! ===== SETTINGS: the rows of the reference ===== -/
theorem sm_part {σ : am_H} {m i1 i2 c : Nat} {w1 w2 : Nat → Int} {h : Int} (hm : m < 3) (h1 : i1 < 6) (h2 : i2 < 6) (hc : c < 5) (o1 : pw_ok w1) (M1 : pw_M σ m i1 w1) (o2 : pw_ok w2) (M2 : pw_M σ m i2 w2) (b0 : 0 ≤ h) (b1 : h ≤ 99999) : f_X12_partOf (Int32.ofInt (m : Int)) (Int32.ofInt (i1 : Int)) (Int32.ofInt (i2 : Int)) (Int32.ofInt (c : Int)) (Int32.ofInt h) σ = some (Int32.ofInt (sc w1 w2 h c)) := by
  have t1 := pm_trueFrom o1 M1 hm h1 b0 (by omega : h ≤ 200000)
  have t2 := pm_trueFrom o2 M2 hm h2 b0 (by omega : h ≤ 200000)
  have p1 := pw_tg_b o1 b0 (by omega : h ≤ 200000)
  have p2 := pw_tg_b o2 b0 (by omega : h ≤ 200000)
  have key : ∀ p : Int, 0 ≤ p → p ≤ 24 * 9999 * 200000 → f_X12_cosine (Int32.ofInt (p.tmod 24)) σ = some (Int32.ofInt (pc_cos p)) ∧ f_X12_sine (Int32.ofInt (p.tmod 24)) σ = some (Int32.ofInt (pc_cos (p - 6))) := by
    intro p q1 q2
    have em : p.tmod 24 = p % 24 := Int.tmod_eq_emod_of_nonneg q1
    rw [em]
    have e2 : (p % 24 + 18).tmod 24 = (p % 24 + 18) % 24 := Int.tmod_eq_emod_of_nonneg (by omega)
    have e3 : f_X12_cosine (Int32.ofInt ((p % 24 + 18) % 24)) σ = some (Int32.ofInt (pc_cos (p - 6))) := by
      rw [pm_cosine (by omega) (by omega), show (p % 24 + 18) % 24 = (p - 6) % 24 by omega, pc_mod]
    constructor
    · rw [pm_cosine (by omega) (by omega), pc_mod]
    · simp (disch := omega) only [f_X12_sine, qI_rem, e2, e3, Option.bind_some, qi, ql, qI_lt, qI_le, qI_eq, qI_L, qI_ix, qL_lt, qL_eq, q_nat, q_cs, ← Int32.ofInt_add, ← Int32.ofInt_sub, ← Int32.ofInt_mul, ← Int32.ofInt_neg, ← Int64.ofInt_add, ← Int64.ofInt_sub, ← Int64.ofInt_mul, ← Int64.ofInt_neg, pL_I, q_mx, q_mn, q_ab, q_abL, q_mnL, q_nn0, q_nn1, q_rr, q_b1, q_b0, q_T, q_F, q_iT, q_iF, q_d, q_in, q_wi, q_hC, q_hM, pT_i, pU_i, pS_i, pS_j, pS_0, Sum.elim_inl, Sum.elim_inr, if_pos, if_neg]
  obtain ⟨a1, a2⟩ := key _ p1.2.2.1 p1.2.2.2
  obtain ⟨a3, a4⟩ := key _ p2.2.2.1 p2.2.2.2
  have m1 : (1 : Int).tmod 2 = 1 := rfl
  have m2 : (2 : Int).tmod 2 = 0 := rfl
  have m3 : (3 : Int).tmod 2 = 1 := rfl
  have m4 : (4 : Int).tmod 2 = 0 := rfl
  rcases (by omega : c = 0 ∨ c = 1 ∨ c = 2 ∨ c = 3 ∨ c = 4) with rfl | rfl | rfl | rfl | rfl
  · show f_X12_partOf _ _ _ (Int32.ofInt 0) _ σ = some (Int32.ofInt 1)
    simp (disch := omega) only [f_X12_partOf, Option.bind_some, qi, ql, qI_lt, qI_le, qI_eq, qI_L, qI_ix, qL_lt, qL_eq, q_nat, q_cs, ← Int32.ofInt_add, ← Int32.ofInt_sub, ← Int32.ofInt_mul, ← Int32.ofInt_neg, ← Int64.ofInt_add, ← Int64.ofInt_sub, ← Int64.ofInt_mul, ← Int64.ofInt_neg, pL_I, q_mx, q_mn, q_ab, q_abL, q_mnL, q_nn0, q_nn1, q_rr, q_b1, q_b0, q_T, q_F, q_iT, q_iF, q_d, q_in, q_wi, q_hC, q_hM, pT_i, pU_i, pS_i, pS_j, pS_0, Sum.elim_inl, Sum.elim_inr, if_pos, if_neg]
  · show f_X12_partOf _ _ _ (Int32.ofInt 1) _ σ = some (Int32.ofInt (pc_cos (pw_tg w1 h)))
    simp (disch := omega) only [f_X12_partOf, f_X12_partOf_20, t1, a1, qI_rem, m1, Option.bind_some, qi, ql, qI_lt, qI_le, qI_eq, qI_L, qI_ix, qL_lt, qL_eq, q_nat, q_cs, ← Int32.ofInt_add, ← Int32.ofInt_sub, ← Int32.ofInt_mul, ← Int32.ofInt_neg, ← Int64.ofInt_add, ← Int64.ofInt_sub, ← Int64.ofInt_mul, ← Int64.ofInt_neg, pL_I, q_mx, q_mn, q_ab, q_abL, q_mnL, q_nn0, q_nn1, q_rr, q_b1, q_b0, q_T, q_F, q_iT, q_iF, q_d, q_in, q_wi, q_hC, q_hM, pT_i, pU_i, pS_i, pS_j, pS_0, Sum.elim_inl, Sum.elim_inr, if_pos, if_neg]
  · show f_X12_partOf _ _ _ (Int32.ofInt 2) _ σ = some (Int32.ofInt (pc_cos (pw_tg w1 h - 6)))
    simp (disch := omega) only [f_X12_partOf, f_X12_partOf_20, t1, a2, qI_rem, m2, Option.bind_some, qi, ql, qI_lt, qI_le, qI_eq, qI_L, qI_ix, qL_lt, qL_eq, q_nat, q_cs, ← Int32.ofInt_add, ← Int32.ofInt_sub, ← Int32.ofInt_mul, ← Int32.ofInt_neg, ← Int64.ofInt_add, ← Int64.ofInt_sub, ← Int64.ofInt_mul, ← Int64.ofInt_neg, pL_I, q_mx, q_mn, q_ab, q_abL, q_mnL, q_nn0, q_nn1, q_rr, q_b1, q_b0, q_T, q_F, q_iT, q_iF, q_d, q_in, q_wi, q_hC, q_hM, pT_i, pU_i, pS_i, pS_j, pS_0, Sum.elim_inl, Sum.elim_inr, if_pos, if_neg]
  · show f_X12_partOf _ _ _ (Int32.ofInt 3) _ σ = some (Int32.ofInt (pc_cos (pw_tg w2 h)))
    simp (disch := omega) only [f_X12_partOf, f_X12_partOf_20, t2, a3, qI_rem, m3, Option.bind_some, qi, ql, qI_lt, qI_le, qI_eq, qI_L, qI_ix, qL_lt, qL_eq, q_nat, q_cs, ← Int32.ofInt_add, ← Int32.ofInt_sub, ← Int32.ofInt_mul, ← Int32.ofInt_neg, ← Int64.ofInt_add, ← Int64.ofInt_sub, ← Int64.ofInt_mul, ← Int64.ofInt_neg, pL_I, q_mx, q_mn, q_ab, q_abL, q_mnL, q_nn0, q_nn1, q_rr, q_b1, q_b0, q_T, q_F, q_iT, q_iF, q_d, q_in, q_wi, q_hC, q_hM, pT_i, pU_i, pS_i, pS_j, pS_0, Sum.elim_inl, Sum.elim_inr, if_pos, if_neg]
  · show f_X12_partOf _ _ _ (Int32.ofInt 4) _ σ = some (Int32.ofInt (pc_cos (pw_tg w2 h - 6)))
    simp (disch := omega) only [f_X12_partOf, f_X12_partOf_20, t2, a4, qI_rem, m4, Option.bind_some, qi, ql, qI_lt, qI_le, qI_eq, qI_L, qI_ix, qL_lt, qL_eq, q_nat, q_cs, ← Int32.ofInt_add, ← Int32.ofInt_sub, ← Int32.ofInt_mul, ← Int32.ofInt_neg, ← Int64.ofInt_add, ← Int64.ofInt_sub, ← Int64.ofInt_mul, ← Int64.ofInt_neg, pL_I, q_mx, q_mn, q_ab, q_abL, q_mnL, q_nn0, q_nn1, q_rr, q_b1, q_b0, q_T, q_F, q_iT, q_iF, q_d, q_in, q_wi, q_hC, q_hM, pT_i, pU_i, pS_i, pS_j, pS_0, Sum.elim_inl, Sum.elim_inr, if_pos, if_neg]
theorem sm_z1 {σ : am_H} {v1 v2 v3 v4 v5 v6 : Int32} : ∃ τ : am_H, am_loop (fun s : Int32 × am_H => f_X12_square_17 v1 v2 v3 v4 v5 v6 s.1 s.2) (Int32.ofInt 0, σ) = some τ ∧ (qf [(1379, 999)] σ τ ∧ ∀ j, j < 25 → τ.2.1 1379 0 j = Int64.ofInt 0) := by
  refine am_loop_1 (B := fun s : Int32 × am_H => f_X12_square_17 v1 v2 v3 v4 v5 v6 s.1 s.2) (fun n s => ∃ (c : Nat) (τ : am_H), s = (Int32.ofInt (c : Int), τ) ∧ c ≤ 25 ∧ qf [(1379, 999)] σ τ ∧ (∀ j, j < c → τ.2.1 1379 0 j = Int64.ofInt 0) ∧ n = 25 - c) (fun τ => qf [(1379, 999)] σ τ ∧ ∀ j, j < 25 → τ.2.1 1379 0 j = Int64.ofInt 0) ?_ 25 _ ⟨0, σ, rfl, by omega, qf.rf, fun j hj => by omega, rfl⟩
  rintro n s ⟨c, τ, rfl, hc, hq, hi, rfl⟩
  by_cases ce : c < 25
  · right
    refine ⟨(Int32.ofInt ((c : Int) + 1), am_wL τ 1379 0 c (Int64.ofInt 0)), 25 - (c + 1), ?_, by omega, c + 1, _, rfl, by omega, hq.wL rfl, fun j hj => ?_, rfl⟩
    · simp (disch := omega) only [f_X12_square_17, Option.bind_some, qi, ql, qI_lt, qI_le, qI_eq, qI_L, qI_ix, qL_lt, qL_eq, q_nat, q_cs, ← Int32.ofInt_add, ← Int32.ofInt_sub, ← Int32.ofInt_mul, ← Int32.ofInt_neg, ← Int64.ofInt_add, ← Int64.ofInt_sub, ← Int64.ofInt_mul, ← Int64.ofInt_neg, pL_I, q_mx, q_mn, q_ab, q_abL, q_mnL, q_nn0, q_nn1, q_rr, q_b1, q_b0, q_T, q_F, q_iT, q_iF, q_d, q_in, q_wi, q_hC, q_hM, pT_i, pU_i, pS_i, pS_j, pS_0, Sum.elim_inl, Sum.elim_inr, if_pos, if_neg]
    · rw [am_wL_r]
      by_cases e : j = c
      · rw [if_pos ⟨rfl, rfl, e⟩]
      · rw [if_neg (by omega), hi j (by omega)]
  · left
    have c5 : c = 25 := by omega
    subst c5
    refine ⟨τ, ?_, hq, hi⟩
    simp (disch := omega) only [f_X12_square_17, Option.bind_some, qi, ql, qI_lt, qI_le, qI_eq, qI_L, qI_ix, qL_lt, qL_eq, q_nat, q_cs, ← Int32.ofInt_add, ← Int32.ofInt_sub, ← Int32.ofInt_mul, ← Int32.ofInt_neg, ← Int64.ofInt_add, ← Int64.ofInt_sub, ← Int64.ofInt_mul, ← Int64.ofInt_neg, pL_I, q_mx, q_mn, q_ab, q_abL, q_mnL, q_nn0, q_nn1, q_rr, q_b1, q_b0, q_T, q_F, q_iT, q_iF, q_d, q_in, q_wi, q_hC, q_hM, pT_i, pU_i, pS_i, pS_j, pS_0, Sum.elim_inl, Sum.elim_inr, if_pos, if_neg]
theorem sm_z2 {σ : am_H} {v1 v2 v3 v4 v5 v6 : Int32} : ∃ τ : am_H, am_loop (fun s : Int32 × am_H => f_X12_square_41 v1 v2 v3 v4 v5 v6 s.1 s.2) (Int32.ofInt 0, σ) = some τ ∧ (qf [(1380, 999)] σ τ ∧ ∀ j, j < 5 → τ.2.1 1380 0 j = Int64.ofInt 0) := by
  refine am_loop_1 (B := fun s : Int32 × am_H => f_X12_square_41 v1 v2 v3 v4 v5 v6 s.1 s.2) (fun n s => ∃ (c : Nat) (τ : am_H), s = (Int32.ofInt (c : Int), τ) ∧ c ≤ 5 ∧ qf [(1380, 999)] σ τ ∧ (∀ j, j < c → τ.2.1 1380 0 j = Int64.ofInt 0) ∧ n = 5 - c) (fun τ => qf [(1380, 999)] σ τ ∧ ∀ j, j < 5 → τ.2.1 1380 0 j = Int64.ofInt 0) ?_ 5 _ ⟨0, σ, rfl, by omega, qf.rf, fun j hj => by omega, rfl⟩
  rintro n s ⟨c, τ, rfl, hc, hq, hi, rfl⟩
  by_cases ce : c < 5
  · right
    refine ⟨(Int32.ofInt ((c : Int) + 1), am_wL τ 1380 0 c (Int64.ofInt 0)), 5 - (c + 1), ?_, by omega, c + 1, _, rfl, by omega, hq.wL rfl, fun j hj => ?_, rfl⟩
    · simp (disch := omega) only [f_X12_square_41, Option.bind_some, qi, ql, qI_lt, qI_le, qI_eq, qI_L, qI_ix, qL_lt, qL_eq, q_nat, q_cs, ← Int32.ofInt_add, ← Int32.ofInt_sub, ← Int32.ofInt_mul, ← Int32.ofInt_neg, ← Int64.ofInt_add, ← Int64.ofInt_sub, ← Int64.ofInt_mul, ← Int64.ofInt_neg, pL_I, q_mx, q_mn, q_ab, q_abL, q_mnL, q_nn0, q_nn1, q_rr, q_b1, q_b0, q_T, q_F, q_iT, q_iF, q_d, q_in, q_wi, q_hC, q_hM, pT_i, pU_i, pS_i, pS_j, pS_0, Sum.elim_inl, Sum.elim_inr, if_pos, if_neg]
    · rw [am_wL_r]
      by_cases e : j = c
      · rw [if_pos ⟨rfl, rfl, e⟩]
      · rw [if_neg (by omega), hi j (by omega)]
  · left
    have c5 : c = 5 := by omega
    subst c5
    refine ⟨τ, ?_, hq, hi⟩
    simp (disch := omega) only [f_X12_square_41, Option.bind_some, qi, ql, qI_lt, qI_le, qI_eq, qI_L, qI_ix, qL_lt, qL_eq, q_nat, q_cs, ← Int32.ofInt_add, ← Int32.ofInt_sub, ← Int32.ofInt_mul, ← Int32.ofInt_neg, ← Int64.ofInt_add, ← Int64.ofInt_sub, ← Int64.ofInt_mul, ← Int64.ofInt_neg, pL_I, q_mx, q_mn, q_ab, q_abL, q_mnL, q_nn0, q_nn1, q_rr, q_b1, q_b0, q_T, q_F, q_iT, q_iF, q_d, q_in, q_wi, q_hC, q_hM, pT_i, pU_i, pS_i, pS_j, pS_0, Sum.elim_inl, Sum.elim_inr, if_pos, if_neg]
theorem sm_1 {σ : am_H} {m i1 i2 th t d : Nat} {w1 w2 : Nat → Int} {h : Int} {v5 v6 : Int32} (hm : m < 3) (h1 : i1 < 6) (h2 : i2 < 6) (hth : th < 5) (ht : t < 24) (hd : d ≤ 5) (o1 : pw_ok w1) (M1 : pw_M σ m i1 w1) (o2 : pw_ok w2) (M2 : pw_M σ m i2 w2) (b0 : 0 ≤ h) (b1 : h ≤ 99999) (e81 : σ.1 12 0 81 = Int32.ofInt (d : Int)) (e : σ.2.1 1306 0 (60 * th + t) = Int64.ofInt h) : ∃ τ : am_H, am_loop (fun s : Int32 × am_H => f_X12_square_92 (Int32.ofInt (m : Int)) (Int32.ofInt (i1 : Int)) (Int32.ofInt (i2 : Int)) (Int32.ofInt (th : Int)) v5 v6 (Int32.ofInt (t : Int)) s.1 s.2) (Int32.ofInt 0, σ) = some τ ∧ (qf [(1383, 999)] σ τ ∧ ∀ j, j < d → τ.1 1383 0 j = Int32.ofInt (sc w1 w2 h j)) := by
  refine am_loop_1 (B := fun s : Int32 × am_H => f_X12_square_92 (Int32.ofInt (m : Int)) (Int32.ofInt (i1 : Int)) (Int32.ofInt (i2 : Int)) (Int32.ofInt (th : Int)) v5 v6 (Int32.ofInt (t : Int)) s.1 s.2) (fun n s => ∃ (c : Nat) (τ : am_H), s = (Int32.ofInt (c : Int), τ) ∧ c ≤ d ∧ qf [(1383, 999)] σ τ ∧ (∀ j, j < c → τ.1 1383 0 j = Int32.ofInt (sc w1 w2 h j)) ∧ n = d - c) (fun τ => qf [(1383, 999)] σ τ ∧ ∀ j, j < d → τ.1 1383 0 j = Int32.ofInt (sc w1 w2 h j)) ?_ d _ ⟨0, σ, rfl, by omega, qf.rf, fun j hj => by omega, rfl⟩
  rintro n s ⟨c, τ, rfl, hc, hq, hi, rfl⟩
  have d81 : τ.1 12 0 81 = Int32.ofInt (d : Int) := ((hq 12 0 81 rfl).1).trans e81
  by_cases ce : c < d
  · right
    have q1324 : τ.1 1324 0 = σ.1 1324 0 := funext fun j => (hq 1324 0 j rfl).1
    have P1 : pw_M τ m i1 w1 := by
      unfold pw_M at M1 ⊢
      rw [q1324]
      exact M1
    have P2 : pw_M τ m i2 w2 := by
      unfold pw_M at M2 ⊢
      rw [q1324]
      exact M2
    have nm := pg_num (σ := τ) hth (by omega : t < 60) (((hq 1306 0 (60 * th + t) rfl).2.1).trans e)
    have pt := sm_part (c := c) hm h1 h2 (by omega) o1 P1 o2 P2 b0 b1
    refine ⟨(Int32.ofInt ((c : Int) + 1), am_wI τ 1383 0 c (Int32.ofInt (sc w1 w2 h c))), d - (c + 1), ?_, by omega, c + 1, _, rfl, by omega, hq.wI rfl, fun j hj => ?_, rfl⟩
    · simp (disch := omega) only [f_X12_square_92, f_X12_hourOf, d81, nm, pt, Option.bind_some, qi, ql, qI_lt, qI_le, qI_eq, qI_L, qI_ix, qL_lt, qL_eq, q_nat, q_cs, ← Int32.ofInt_add, ← Int32.ofInt_sub, ← Int32.ofInt_mul, ← Int32.ofInt_neg, ← Int64.ofInt_add, ← Int64.ofInt_sub, ← Int64.ofInt_mul, ← Int64.ofInt_neg, pL_I, q_mx, q_mn, q_ab, q_abL, q_mnL, q_nn0, q_nn1, q_rr, q_b1, q_b0, q_T, q_F, q_iT, q_iF, q_d, q_in, q_wi, q_hC, q_hM, pT_i, pU_i, pS_i, pS_j, pS_0, Sum.elim_inl, Sum.elim_inr, if_pos, if_neg]
    · rw [am_wI_r]
      by_cases e : j = c
      · rw [if_pos ⟨rfl, rfl, e⟩, e]
      · rw [if_neg (by omega), hi j (by omega)]
  · left
    have c5 : c = d := by omega
    subst c5
    refine ⟨τ, ?_, hq, hi⟩
    simp (disch := omega) only [f_X12_square_92, d81, Option.bind_some, qi, ql, qI_lt, qI_le, qI_eq, qI_L, qI_ix, qL_lt, qL_eq, q_nat, q_cs, ← Int32.ofInt_add, ← Int32.ofInt_sub, ← Int32.ofInt_mul, ← Int32.ofInt_neg, ← Int64.ofInt_add, ← Int64.ofInt_sub, ← Int64.ofInt_mul, ← Int64.ofInt_neg, pL_I, q_mx, q_mn, q_ab, q_abL, q_mnL, q_nn0, q_nn1, q_rr, q_b1, q_b0, q_T, q_F, q_iT, q_iF, q_d, q_in, q_wi, q_hC, q_hM, pT_i, pU_i, pS_i, pS_j, pS_0, Sum.elim_inl, Sum.elim_inr, if_pos, if_neg]
theorem sm_2 {σ : am_H} {v d : Nat} {X : Nat → Int} {G : Nat → Nat → Int} {v1 v2 v3 v4 v5 v6 v7 : Int32} (hd : d ≤ 5) (hv : v < d) (e81 : σ.1 12 0 81 = Int32.ofInt (d : Int)) (hX : ∀ c, c < d → σ.1 1383 0 c = Int32.ofInt (X c)) (hb : ∀ c, -12 ≤ X c ∧ X c ≤ 12) (hG : ∀ i k, i < d → k < d → σ.2.1 1379 0 (5 * i + k) = Int64.ofInt (G i k)) : ∃ τ : am_H, am_loop (fun s : Int32 × am_H => f_X12_square_173 v1 v2 v3 v4 v5 v6 v7 (Int32.ofInt (v : Int)) s.1 s.2) (Int32.ofInt 0, σ) = some τ ∧ (qf [(1379, 999)] σ τ ∧ ∀ i k, i < d → k < d → τ.2.1 1379 0 (5 * i + k) = Int64.ofInt (G i k + if i = v then X i * X k else 0)) := by
  refine am_loop_1 (B := fun s : Int32 × am_H => f_X12_square_173 v1 v2 v3 v4 v5 v6 v7 (Int32.ofInt (v : Int)) s.1 s.2) (fun n s => ∃ (c : Nat) (τ : am_H), s = (Int32.ofInt (c : Int), τ) ∧ c ≤ d ∧ qf [(1379, 999)] σ τ ∧ (∀ i k, i < d → k < d → τ.2.1 1379 0 (5 * i + k) = Int64.ofInt (G i k + if i = v ∧ k < c then X i * X k else 0)) ∧ n = d - c) (fun τ => qf [(1379, 999)] σ τ ∧ ∀ i k, i < d → k < d → τ.2.1 1379 0 (5 * i + k) = Int64.ofInt (G i k + if i = v then X i * X k else 0)) ?_ d _ ⟨0, σ, rfl, by omega, qf.rf, fun i k hi hk => ?_, rfl⟩
  · rintro n s ⟨c, τ, rfl, hc, hq, hi, rfl⟩
    have d81 : τ.1 12 0 81 = Int32.ofInt (d : Int) := ((hq 12 0 81 rfl).1).trans e81
    by_cases ce : c < d
    · right
      have x1 : τ.1 1383 0 v = Int32.ofInt (X v) := ((hq 1383 0 v rfl).1).trans (hX v hv)
      have x2 : τ.1 1383 0 c = Int32.ofInt (X c) := ((hq 1383 0 c rfl).1).trans (hX c ce)
      have x3 : τ.2.1 1379 0 (5 * v + c) = Int64.ofInt (G v c) := by
        rw [hi v c hv ce, if_neg (by omega), Int.add_zero]
      have e5 : (5 * (v : Int) + (c : Int)).toNat = 5 * v + c := by omega
      have b1 := hb v
      have b2 := hb c
      refine ⟨(Int32.ofInt ((c : Int) + 1), am_wL τ 1379 0 (5 * v + c) (Int64.ofInt (G v c + X v * X c))), d - (c + 1), ?_, by omega, c + 1, _, rfl, by omega, hq.wL rfl, fun i k hi' hk => ?_, rfl⟩
      · simp (disch := omega) only [f_X12_square_173, d81, e5, x1, x2, x3, Option.bind_some, qi, ql, qI_lt, qI_le, qI_eq, qI_L, qI_ix, qL_lt, qL_eq, q_nat, q_cs, ← Int32.ofInt_add, ← Int32.ofInt_sub, ← Int32.ofInt_mul, ← Int32.ofInt_neg, ← Int64.ofInt_add, ← Int64.ofInt_sub, ← Int64.ofInt_mul, ← Int64.ofInt_neg, pL_I, q_mx, q_mn, q_ab, q_abL, q_mnL, q_nn0, q_nn1, q_rr, q_b1, q_b0, q_T, q_F, q_iT, q_iF, q_d, q_in, q_wi, q_hC, q_hM, pT_i, pU_i, pS_i, pS_j, pS_0, Sum.elim_inl, Sum.elim_inr, if_pos, if_neg]
      · rw [am_wL_r]
        by_cases e : i = v ∧ k = c
        · rw [if_pos ⟨rfl, rfl, by omega⟩, e.1, e.2, if_pos ⟨rfl, by omega⟩]
        · rw [if_neg (by omega), hi i k hi' hk]
          by_cases e2 : i = v ∧ k < c
          · rw [if_pos e2, if_pos (by omega)]
          · rw [if_neg e2, if_neg (by omega)]
    · left
      have c5 : c = d := by omega
      subst c5
      refine ⟨τ, ?_, hq, fun i k hi' hk => ?_⟩
      · simp (disch := omega) only [f_X12_square_173, d81, Option.bind_some, qi, ql, qI_lt, qI_le, qI_eq, qI_L, qI_ix, qL_lt, qL_eq, q_nat, q_cs, ← Int32.ofInt_add, ← Int32.ofInt_sub, ← Int32.ofInt_mul, ← Int32.ofInt_neg, ← Int64.ofInt_add, ← Int64.ofInt_sub, ← Int64.ofInt_mul, ← Int64.ofInt_neg, pL_I, q_mx, q_mn, q_ab, q_abL, q_mnL, q_nn0, q_nn1, q_rr, q_b1, q_b0, q_T, q_F, q_iT, q_iF, q_d, q_in, q_wi, q_hC, q_hM, pT_i, pU_i, pS_i, pS_j, pS_0, Sum.elim_inl, Sum.elim_inr, if_pos, if_neg]
      · rw [hi i k hi' hk]
        by_cases e : i = v
        · rw [if_pos ⟨e, hk⟩, if_pos e]
        · rw [if_neg (fun z => e z.1), if_neg e]
  · rw [hG i k hi hk, if_neg (by omega), Int.add_zero]
theorem sm_3 {σ : am_H} {tr t d : Nat} {X : Nat → Int} {y : Int} {G : Nat → Nat → Int} {R : Nat → Int} {v1 v2 v3 v4 v6 : Int32} (htr : tr < 5) (ht : t < 24) (hd : d ≤ 5) (e81 : σ.1 12 0 81 = Int32.ofInt (d : Int)) (e : σ.2.1 1306 0 (60 * tr + t) = Int64.ofInt y) (hX : ∀ c, c < d → σ.1 1383 0 c = Int32.ofInt (X c)) (hb : ∀ c, -12 ≤ X c ∧ X c ≤ 12) (hG : ∀ i k, i < d → k < d → σ.2.1 1379 0 (5 * i + k) = Int64.ofInt (G i k)) (hR : ∀ i, i < d → σ.2.1 1380 0 i = Int64.ofInt (R i)) : ∃ τ : am_H, am_loop (fun s : Int32 × am_H => f_X12_square_134 v1 v2 v3 v4 (Int32.ofInt (tr : Int)) v6 (Int32.ofInt (t : Int)) s.1 s.2) (Int32.ofInt 0, σ) = some τ ∧ (qf [(1379, 999), (1380, 999)] σ τ ∧ (∀ i k, i < d → k < d → τ.2.1 1379 0 (5 * i + k) = Int64.ofInt (G i k + X i * X k)) ∧ ∀ i, i < d → τ.2.1 1380 0 i = Int64.ofInt (R i + X i * y)) := by
  refine am_loop_1 (B := fun s : Int32 × am_H => f_X12_square_134 v1 v2 v3 v4 (Int32.ofInt (tr : Int)) v6 (Int32.ofInt (t : Int)) s.1 s.2) (fun n s => ∃ (v : Nat) (τ : am_H), s = (Int32.ofInt (v : Int), τ) ∧ v ≤ d ∧ qf [(1379, 999), (1380, 999)] σ τ ∧ (∀ i k, i < d → k < d → τ.2.1 1379 0 (5 * i + k) = Int64.ofInt (G i k + if i < v then X i * X k else 0)) ∧ (∀ i, i < d → τ.2.1 1380 0 i = Int64.ofInt (R i + if i < v then X i * y else 0)) ∧ n = d - v) (fun τ => qf [(1379, 999), (1380, 999)] σ τ ∧ (∀ i k, i < d → k < d → τ.2.1 1379 0 (5 * i + k) = Int64.ofInt (G i k + X i * X k)) ∧ ∀ i, i < d → τ.2.1 1380 0 i = Int64.ofInt (R i + X i * y)) ?_ d _ ⟨0, σ, rfl, by omega, qf.rf, fun i k hi hk => ?_, fun i hi => ?_, rfl⟩
  · rintro n s ⟨v, τ, rfl, hc, hq, hi, hr, rfl⟩
    have d81 : τ.1 12 0 81 = Int32.ofInt (d : Int) := ((hq 12 0 81 rfl).1).trans e81
    by_cases ce : v < d
    · right
      have x1 : τ.1 1383 0 v = Int32.ofInt (X v) := ((hq 1383 0 v rfl).1).trans (hX v ce)
      have nm := pg_num (σ := τ) htr (by omega : t < 60) (((hq 1306 0 (60 * tr + t) rfl).2.1).trans e)
      have x3 : τ.2.1 1380 0 v = Int64.ofInt (R v) := by
        rw [hr v ce, if_neg (by omega), Int.add_zero]
      have b1 := hb v
      obtain ⟨τ', l1, l2, l4⟩ := sm_2 (σ := am_wL τ 1380 0 v (Int64.ofInt (R v + X v * y))) (v := v) (d := d) (X := X) (G := fun i k => G i k + if i < v then X i * X k else 0) (v1 := v1) (v2 := v2) (v3 := v3) (v4 := v4) (v5 := Int32.ofInt (tr : Int)) (v6 := v6) (v7 := Int32.ofInt (t : Int)) hd ce d81 (fun c hc => ((hq 1383 0 c rfl).1).trans (hX c hc)) hb (fun i k hi' hk => hi i k hi' hk)
      refine ⟨(Int32.ofInt ((v : Int) + 1), τ'), d - (v + 1), ?_, by omega, v + 1, τ', rfl, by omega, (hq.wL rfl).tr (l2.mo (by simp)), fun i k hi' hk => ?_, fun i hi' => ?_, rfl⟩
      · simp (disch := omega) only [f_X12_square_134, d81, nm, x1, x3, l1, Option.bind_some, qi, ql, qI_lt, qI_le, qI_eq, qI_L, qI_ix, qL_lt, qL_eq, q_nat, q_cs, ← Int32.ofInt_add, ← Int32.ofInt_sub, ← Int32.ofInt_mul, ← Int32.ofInt_neg, ← Int64.ofInt_add, ← Int64.ofInt_sub, ← Int64.ofInt_mul, ← Int64.ofInt_neg, pL_I, q_mx, q_mn, q_ab, q_abL, q_mnL, q_nn0, q_nn1, q_rr, q_b1, q_b0, q_T, q_F, q_iT, q_iF, q_d, q_in, q_wi, q_hC, q_hM, pT_i, pU_i, pS_i, pS_j, pS_0, Sum.elim_inl, Sum.elim_inr, if_pos, if_neg]
      · rw [l4 i k hi' hk]
        by_cases e : i = v
        · rw [if_pos e, if_neg (by omega), if_pos (by omega), Int.add_zero]
        · rw [if_neg e, Int.add_zero]
          by_cases e3 : i < v
          · rw [if_pos e3, if_pos (by omega)]
          · rw [if_neg e3, if_neg (by omega)]
      · rw [(l2 1380 0 i rfl).2.1, am_wL_r]
        by_cases e : i = v
        · rw [if_pos ⟨rfl, rfl, e⟩, if_pos (by omega), e]
        · rw [if_neg (by omega), hr i hi']
          by_cases e3 : i < v
          · rw [if_pos e3, if_pos (by omega)]
          · rw [if_neg e3, if_neg (by omega)]
    · left
      have c5 : v = d := by omega
      subst c5
      refine ⟨τ, ?_, hq, fun i k hi' hk => ?_, fun i hi' => ?_⟩
      · simp (disch := omega) only [f_X12_square_134, d81, Option.bind_some, qi, ql, qI_lt, qI_le, qI_eq, qI_L, qI_ix, qL_lt, qL_eq, q_nat, q_cs, ← Int32.ofInt_add, ← Int32.ofInt_sub, ← Int32.ofInt_mul, ← Int32.ofInt_neg, ← Int64.ofInt_add, ← Int64.ofInt_sub, ← Int64.ofInt_mul, ← Int64.ofInt_neg, pL_I, q_mx, q_mn, q_ab, q_abL, q_mnL, q_nn0, q_nn1, q_rr, q_b1, q_b0, q_T, q_F, q_iT, q_iF, q_d, q_in, q_wi, q_hC, q_hM, pT_i, pU_i, pS_i, pS_j, pS_0, Sum.elim_inl, Sum.elim_inr, if_pos, if_neg]
      · rw [hi i k hi' hk, if_pos hi']
      · rw [hr i hi', if_pos hi']
  · rw [hG i k hi hk, if_neg (by omega), Int.add_zero]
  · rw [hR i hi, if_neg (by omega), Int.add_zero]
/-- the sums of the reference -/
theorem sm_4 {σ : am_H} {m i1 i2 th tr n d : Nat} {hs rd : Nat → Int} {w1 w2 : Nat → Int} (hm : m < 3) (h1 : i1 < 6) (h2 : i2 < 6) (hth : th < 5) (htr : tr < 5) (hn : n ≤ 24) (hd : d ≤ 5) (e81 : σ.1 12 0 81 = Int32.ofInt (d : Int)) (M : pg_M σ th tr n hs rd) (o1 : pw_ok w1) (M1 : pw_M σ m i1 w1) (o2 : pw_ok w2) (M2 : pw_M σ m i2 w2) (hG : ∀ j, j < 25 → σ.2.1 1379 0 j = Int64.ofInt 0) (hR : ∀ i, i < 5 → σ.2.1 1380 0 i = Int64.ofInt 0) : ∃ τ : am_H, am_loop (fun s : Int32 × am_H => f_X12_square_64 (Int32.ofInt (m : Int)) (Int32.ofInt (i1 : Int)) (Int32.ofInt (i2 : Int)) (Int32.ofInt (th : Int)) (Int32.ofInt (tr : Int)) (Int32.ofInt (n : Int)) s.1 s.2) (Int32.ofInt 0, σ) = some τ ∧ (qf [(1379, 999), (1380, 999), (1383, 999)] σ τ ∧ (∀ i k, i < d → k < d → τ.2.1 1379 0 (5 * i + k) = Int64.ofInt (gg n (sx w1 w2 hs rd) i k)) ∧ ∀ i, i < d → τ.2.1 1380 0 i = Int64.ofInt (ip n (sx w1 w2 hs rd i) (sy rd))) := by
  refine am_loop_1 (B := fun s : Int32 × am_H => f_X12_square_64 (Int32.ofInt (m : Int)) (Int32.ofInt (i1 : Int)) (Int32.ofInt (i2 : Int)) (Int32.ofInt (th : Int)) (Int32.ofInt (tr : Int)) (Int32.ofInt (n : Int)) s.1 s.2) (fun q s => ∃ (t : Nat) (τ : am_H), s = (Int32.ofInt (t : Int), τ) ∧ t ≤ n ∧ qf [(1379, 999), (1380, 999), (1383, 999)] σ τ ∧ (∀ i k, i < d → k < d → τ.2.1 1379 0 (5 * i + k) = Int64.ofInt (gg t (sx w1 w2 hs rd) i k)) ∧ (∀ i, i < d → τ.2.1 1380 0 i = Int64.ofInt (ip t (sx w1 w2 hs rd i) (sy rd))) ∧ q = n - t) (fun τ => qf [(1379, 999), (1380, 999), (1383, 999)] σ τ ∧ (∀ i k, i < d → k < d → τ.2.1 1379 0 (5 * i + k) = Int64.ofInt (gg n (sx w1 w2 hs rd) i k)) ∧ ∀ i, i < d → τ.2.1 1380 0 i = Int64.ofInt (ip n (sx w1 w2 hs rd i) (sy rd))) ?_ n _ ⟨0, σ, rfl, by omega, qf.rf, fun i k hi hk => hG _ (by omega), fun i hi => hR i (by omega), rfl⟩
  rintro q s ⟨t, τ, rfl, hc, hq, hi, hr, rfl⟩
  by_cases ce : t < n
  · right
    obtain ⟨u1, u2, u3, u4⟩ := M t ce
    have nm := pg_num (σ := τ) htr (by omega : t < 60) (((hq 1306 0 (60 * tr + t) rfl).2.1).trans u2)
    by_cases cg : rd t = 1000
    · refine ⟨(Int32.ofInt ((t : Int) + 1), τ), n - (t + 1), ?_, by omega, t + 1, τ, rfl, by omega, hq, fun i k hi' hk => ?_, fun i hi' => ?_, rfl⟩
      · simp (disch := omega) only [f_X12_square_64, nm, Option.bind_some, qi, ql, qI_lt, qI_le, qI_eq, qI_L, qI_ix, qL_lt, qL_eq, q_nat, q_cs, ← Int32.ofInt_add, ← Int32.ofInt_sub, ← Int32.ofInt_mul, ← Int32.ofInt_neg, ← Int64.ofInt_add, ← Int64.ofInt_sub, ← Int64.ofInt_mul, ← Int64.ofInt_neg, pL_I, q_mx, q_mn, q_ab, q_abL, q_mnL, q_nn0, q_nn1, q_rr, q_b1, q_b0, q_T, q_F, q_iT, q_iF, q_d, q_in, q_wi, q_hC, q_hM, pT_i, pU_i, pS_i, pS_j, pS_0, Sum.elim_inl, Sum.elim_inr, if_pos, if_neg]
      · rw [(sx_g (w1 := w1) (w2 := w2) (hs := hs) (i := i) (k := k) cg).1]
        exact hi i k hi' hk
      · rw [(sx_g (w1 := w1) (w2 := w2) (hs := hs) (i := i) (k := i) cg).2]
        exact hr i hi'
    · have q1324 : τ.1 1324 0 = σ.1 1324 0 := funext fun j => (hq 1324 0 j rfl).1
      have P1 : pw_M τ m i1 w1 := by
        unfold pw_M at M1 ⊢
        rw [q1324]
        exact M1
      have P2 : pw_M τ m i2 w2 := by
        unfold pw_M at M2 ⊢
        rw [q1324]
        exact M2
      have d81 : τ.1 12 0 81 = Int32.ofInt (d : Int) := ((hq 12 0 81 rfl).1).trans e81
      obtain ⟨τ1, l1, l2, l3⟩ := sm_1 (σ := τ) (t := t) (v5 := Int32.ofInt (tr : Int)) (v6 := Int32.ofInt (n : Int)) hm h1 h2 hth (by omega) hd o1 P1 o2 P2 u3.1 u3.2 d81 (((hq 1306 0 (60 * th + t) rfl).2.1).trans u1)
      obtain ⟨τ2, k1, k2, k3, k4⟩ := sm_3 (σ := τ1) (tr := tr) (t := t) (d := d) (X := sc w1 w2 (hs t)) (y := rd t) (G := gg t (sx w1 w2 hs rd)) (R := fun i => ip t (sx w1 w2 hs rd i) (sy rd)) (v1 := Int32.ofInt (m : Int)) (v2 := Int32.ofInt (i1 : Int)) (v3 := Int32.ofInt (i2 : Int)) (v4 := Int32.ofInt (th : Int)) (v6 := Int32.ofInt (n : Int)) htr (by omega) hd (((l2 12 0 81 rfl).1).trans d81) (((l2 1306 0 (60 * tr + t) rfl).2.1).trans (((hq 1306 0 (60 * tr + t) rfl).2.1).trans u2)) l3 (fun c => sc_b _ _ _ _) (fun i k hi' hk => ((l2 1379 0 (5 * i + k) rfl).2.1).trans (hi i k hi' hk)) (fun i hi' => ((l2 1380 0 i rfl).2.1).trans (hr i hi'))
      refine ⟨(Int32.ofInt ((t : Int) + 1), τ2), n - (t + 1), ?_, by omega, t + 1, τ2, rfl, by omega, (hq.tr (l2.mo (by simp))).tr (k2.mo (by simp)), fun i k hi' hk => ?_, fun i hi' => ?_, rfl⟩
      · simp (disch := omega) only [f_X12_square_64, nm, l1, k1, Option.bind_some, qi, ql, qI_lt, qI_le, qI_eq, qI_L, qI_ix, qL_lt, qL_eq, q_nat, q_cs, ← Int32.ofInt_add, ← Int32.ofInt_sub, ← Int32.ofInt_mul, ← Int32.ofInt_neg, ← Int64.ofInt_add, ← Int64.ofInt_sub, ← Int64.ofInt_mul, ← Int64.ofInt_neg, pL_I, q_mx, q_mn, q_ab, q_abL, q_mnL, q_nn0, q_nn1, q_rr, q_b1, q_b0, q_T, q_F, q_iT, q_iF, q_d, q_in, q_wi, q_hC, q_hM, pT_i, pU_i, pS_i, pS_j, pS_0, Sum.elim_inl, Sum.elim_inr, if_pos, if_neg]
      · rw [(sx_s (w1 := w1) (w2 := w2) (hs := hs) (i := i) (k := k) cg).1]
        exact k3 i k hi' hk
      · rw [(sx_s (w1 := w1) (w2 := w2) (hs := hs) (i := i) (k := i) cg).2]
        exact k4 i hi'
  · left
    have c5 : t = n := by omega
    subst c5
    refine ⟨τ, ?_, hq, hi, hr⟩
    simp (disch := omega) only [f_X12_square_64, Option.bind_some, qi, ql, qI_lt, qI_le, qI_eq, qI_L, qI_ix, qL_lt, qL_eq, q_nat, q_cs, ← Int32.ofInt_add, ← Int32.ofInt_sub, ← Int32.ofInt_mul, ← Int32.ofInt_neg, ← Int64.ofInt_add, ← Int64.ofInt_sub, ← Int64.ofInt_mul, ← Int64.ofInt_neg, pL_I, q_mx, q_mn, q_ab, q_abL, q_mnL, q_nn0, q_nn1, q_rr, q_b1, q_b0, q_T, q_F, q_iT, q_iF, q_d, q_in, q_wi, q_hC, q_hM, pT_i, pU_i, pS_i, pS_j, pS_0, Sum.elim_inl, Sum.elim_inr, if_pos, if_neg]
