/-! ===== what both sides ask of numbers, machines, waves, trays ===== -/
theorem q_in {σ : am_H} {a b c : Int} (h1 : -9223372036854775808 ≤ a) (h2 : a < 9223372036854775808) (h3 : -9223372036854775808 ≤ b) (h4 : b < 9223372036854775808) (h5 : -9223372036854775808 ≤ c) (h6 : c < 9223372036854775808) : f_X12_isIn (Int64.ofInt a) (Int64.ofInt b) (Int64.ofInt c) σ = some (decide (b ≤ a ∧ a ≤ c)) := pq_inM ⟨h1, h2⟩ ⟨h3, h4⟩ ⟨h5, h6⟩
theorem q_wi {σ : am_H} {a b c : Int} (h1 : -2147483648 ≤ a) (h2 : a < 2147483648) (h3 : -2147483648 ≤ b) (h4 : b < 2147483648) (h5 : -2147483648 ≤ c) (h6 : c < 2147483648) : f_X11_isWithin (Int32.ofInt a) (Int32.ofInt b) (Int32.ofInt c) σ = some (decide (b ≤ a ∧ a ≤ c)) := by
  unfold f_X11_isWithin
  simp only [qI_lt h1 h2 h3 h4, qI_lt h5 h6 h1 h2]
  by_cases e1 : a < b
  · rw [if_pos e1, decide_eq_false (by omega)]
  · rw [if_neg e1]
    by_cases e2 : c < a
    · rw [if_pos e2, decide_eq_false (by omega)]
    · rw [if_neg e2, decide_eq_true (by omega)]
theorem q_hC {σ : am_H} {x : Int} (h1 : -2147483648 ≤ x) (h2 : x < 2147483648) : f_X11_isHour (Int32.ofInt x) σ = some (decide (0 ≤ x ∧ x ≤ 99999)) := by
  have h := pq_hourC (σ := σ) (Int32.ofInt x)
  rwa [pI_to ⟨h1, h2⟩] at h
theorem q_hM {σ : am_H} {x : Int} (h1 : -2147483648 ≤ x) (h2 : x < 2147483648) : f_X12_isHour (Int32.ofInt x) σ = some (decide (0 ≤ x ∧ x ≤ 99999)) := by
  have h := pq_hourM (σ := σ) (Int32.ofInt x)
  rwa [pI_to ⟨h1, h2⟩] at h
theorem pr_m {σ1 σ2 : am_H} (x : pr_Core σ1 σ2) {v : Int} (h1 : -2147483648 ≤ v) (h2 : v < 2147483648) : (¬ (0 ≤ v ∧ v ≤ 1) ∧ f_X11_machineOf (Int32.ofInt v) σ1 = some none ∧ ∀ σ, f_X12_isMachine (Int32.ofInt v) σ = some false) ∨ ∃ m a : Nat, m < 2 ∧ a < 3 ∧ v = m ∧ σ1.2.2 1205 0 m = some a ∧ f_X11_machineOf (Int32.ofInt m) σ1 = some (some a) ∧ (∀ σ, f_X12_isMachine (Int32.ofInt m) σ = some true) ∧ pr_mach σ1 σ2 m a := by
  obtain ⟨a0, a1, a2, ⟨b0, b1, b2⟩, -, r0, r1, -, m0, m1⟩ := (show pr_machs σ1 σ2 from x 4 (by omega))
  have e1 := pq_machC r0 r1 b0 b1 (Int32.ofInt v)
  have e2 := fun σ => pq_machM (σ := σ) (Int32.ofInt v)
  rw [pI_to ⟨h1, h2⟩] at e1
  simp only [pI_to ⟨h1, h2⟩] at e2
  by_cases c : 0 ≤ v ∧ v ≤ 1
  · refine Or.inr ?_
    by_cases d : v = 0
    · subst d
      refine ⟨0, a0, by omega, b0, rfl, r0, ?_, fun σ => ?_, m0⟩
      · rw [if_pos rfl] at e1
        exact e1
      · have := e2 σ
        rw [decide_eq_true (by omega)] at this
        exact this
    · have d1 : v = 1 := by omega
      subst d1
      refine ⟨1, a1, by omega, b1, rfl, r1, ?_, fun σ => ?_, m1⟩
      · rw [if_neg (by omega), if_pos rfl] at e1
        exact e1
      · have := e2 σ
        rw [decide_eq_true (by omega)] at this
        exact this
  · refine Or.inl ⟨c, ?_, fun σ => ?_⟩
    · rw [if_neg (by omega), if_neg (by omega)] at e1
      exact e1
    · have := e2 σ
      rw [decide_eq_false c] at this
      exact this
theorem pr_w {σ1 σ2 : am_H} (x : pr_Core σ1 σ2) {v u : Int} (h1 : -2147483648 ≤ v) (h2 : v < 2147483648) (h3 : -2147483648 ≤ u) (h4 : u < 2147483648) : (f_X11_waveOf (Int32.ofInt v) (Int32.ofInt u) σ1 = some none ∧ f_X12_isWaveOf (Int32.ofInt v) (Int32.ofInt u) σ2 = some false) ∨ ∃ (m a i : Nat) (w : Nat → Int), m < 2 ∧ a < 3 ∧ i < 6 ∧ v = m ∧ u = i ∧ σ1.2.2 1205 0 m = some a ∧ f_X11_machineOf (Int32.ofInt m) σ1 = some (some a) ∧ (∀ σ, f_X12_isMachine (Int32.ofInt m) σ = some true) ∧ f_X3_waveAt a (Int32.ofInt i) σ1 = some (some (6 * a + i)) ∧ f_X11_waveOf (Int32.ofInt m) (Int32.ofInt i) σ1 = some (some (6 * a + i)) ∧ f_X12_isWaveOf (Int32.ofInt m) (Int32.ofInt i) σ2 = some true ∧ pw_ok w ∧ pw_tr w ∧ pw_C σ1 (6 * a + i) w ∧ pw_M σ2 m i w ∧ ∃ (wc : Nat) (ws : Nat → Nat → Int) (zr : Int), i < wc ∧ w = ws i ∧ ph_C σ1 a wc ws zr ∧ ph_M σ2 m wc ws (max zr 0) ∧ (∀ i, i < wc → pw_tr (ws i)) := by
  rcases pr_m x h1 h2 with ⟨c, e1, e2⟩ | ⟨m, a, hm, ha, rfl, hr, e1, e2, M⟩
  · left
    constructor
    · simp (disch := omega) only [f_X11_waveOf, e1, Option.bind_some, qi, ql, qI_lt, qI_le, qI_eq, qI_L, qI_ix, qL_lt, qL_eq, q_nat, q_cs, ← Int32.ofInt_add, ← Int32.ofInt_sub, ← Int32.ofInt_mul, ← Int32.ofInt_neg, ← Int64.ofInt_add, ← Int64.ofInt_sub, ← Int64.ofInt_mul, ← Int64.ofInt_neg, pL_I, q_mx, q_mn, q_ab, q_abL, q_mnL, q_nn0, q_nn1, q_rr, q_b1, q_b0, q_T, q_F, q_iT, q_iF, q_d, q_in, q_wi, q_hC, q_hM, pT_i, pU_i, pS_i, pS_j, pS_0, Sum.elim_inl, Sum.elim_inr, if_pos, if_neg]
    · simp (disch := omega) only [f_X12_isWaveOf, e2, Option.bind_some, qi, ql, qI_lt, qI_le, qI_eq, qI_L, qI_ix, qL_lt, qL_eq, q_nat, q_cs, ← Int32.ofInt_add, ← Int32.ofInt_sub, ← Int32.ofInt_mul, ← Int32.ofInt_neg, ← Int64.ofInt_add, ← Int64.ofInt_sub, ← Int64.ofInt_mul, ← Int64.ofInt_neg, pL_I, q_mx, q_mn, q_ab, q_abL, q_mnL, q_nn0, q_nn1, q_rr, q_b1, q_b0, q_T, q_F, q_iT, q_iF, q_d, q_in, q_wi, q_hC, q_hM, pT_i, pU_i, pS_i, pS_j, pS_0, Sum.elim_inl, Sum.elim_inr, if_pos, if_neg]
  · obtain ⟨wc, ws, zr, sl, kc, kw, kt, ⟨c1, c2, c3, c4, c5⟩, ⟨d1, d2, d3, d4, d5⟩, tr, -⟩ := id M
    by_cases hu : 0 ≤ u ∧ u < wc
    · right
      obtain ⟨i, rfl⟩ : ∃ i : Nat, u = i := ⟨u.toNat, by omega⟩
      have hi : i < wc := by omega
      have ea : f_X3_waveAt a (Int32.ofInt i) σ1 = some (some (6 * a + i)) := by
        simp (disch := omega) only [f_X3_waveAt, c2, Option.bind_some, qi, ql, qI_lt, qI_le, qI_eq, qI_L, qI_ix, qL_lt, qL_eq, q_nat, q_cs, ← Int32.ofInt_add, ← Int32.ofInt_sub, ← Int32.ofInt_mul, ← Int32.ofInt_neg, ← Int64.ofInt_add, ← Int64.ofInt_sub, ← Int64.ofInt_mul, ← Int64.ofInt_neg, pL_I, q_mx, q_mn, q_ab, q_abL, q_mnL, q_nn0, q_nn1, q_rr, q_b1, q_b0, q_T, q_F, q_iT, q_iF, q_d, q_in, q_wi, q_hC, q_hM, pT_i, pU_i, pS_i, pS_j, pS_0, Sum.elim_inl, Sum.elim_inr, if_pos, if_neg]
      refine ⟨m, a, i, ws i, hm, ha, by omega, rfl, rfl, hr, e1, e2, ea, ?_, ?_, (c5 i hi).1, tr i hi, (c5 i hi).2, (d5 i hi).2, wc, ws, zr, hi, rfl, ⟨c1, c2, c3, c4, c5⟩, ⟨d1, d2, d3, d4, d5⟩, tr⟩
      · simp (disch := omega) only [f_X11_waveOf, e1, ea, Option.bind_some, qi, ql, qI_lt, qI_le, qI_eq, qI_L, qI_ix, qL_lt, qL_eq, q_nat, q_cs, ← Int32.ofInt_add, ← Int32.ofInt_sub, ← Int32.ofInt_mul, ← Int32.ofInt_neg, ← Int64.ofInt_add, ← Int64.ofInt_sub, ← Int64.ofInt_mul, ← Int64.ofInt_neg, pL_I, q_mx, q_mn, q_ab, q_abL, q_mnL, q_nn0, q_nn1, q_rr, q_b1, q_b0, q_T, q_F, q_iT, q_iF, q_d, q_in, q_wi, q_hC, q_hM, pT_i, pU_i, pS_i, pS_j, pS_0, Sum.elim_inl, Sum.elim_inr, if_pos, if_neg]
      · simp (disch := omega) only [f_X12_isWaveOf, e2, d2, Option.bind_some, qi, ql, qI_lt, qI_le, qI_eq, qI_L, qI_ix, qL_lt, qL_eq, q_nat, q_cs, ← Int32.ofInt_add, ← Int32.ofInt_sub, ← Int32.ofInt_mul, ← Int32.ofInt_neg, ← Int64.ofInt_add, ← Int64.ofInt_sub, ← Int64.ofInt_mul, ← Int64.ofInt_neg, pL_I, q_mx, q_mn, q_ab, q_abL, q_mnL, q_nn0, q_nn1, q_rr, q_b1, q_b0, q_T, q_F, q_iT, q_iF, q_d, q_in, q_wi, q_hC, q_hM, pT_i, pU_i, pS_i, pS_j, pS_0, Sum.elim_inl, Sum.elim_inr, if_pos, if_neg]
    · left
      have hu' : u < 0 ∨ (wc : Int) ≤ u := by omega
      have ea : f_X3_waveAt a (Int32.ofInt u) σ1 = some none := by
        rcases hu' with z | z
        · simp (disch := omega) only [f_X3_waveAt, c2, Option.bind_some, qi, ql, qI_lt, qI_le, qI_eq, qI_L, qI_ix, qL_lt, qL_eq, q_nat, q_cs, ← Int32.ofInt_add, ← Int32.ofInt_sub, ← Int32.ofInt_mul, ← Int32.ofInt_neg, ← Int64.ofInt_add, ← Int64.ofInt_sub, ← Int64.ofInt_mul, ← Int64.ofInt_neg, pL_I, q_mx, q_mn, q_ab, q_abL, q_mnL, q_nn0, q_nn1, q_rr, q_b1, q_b0, q_T, q_F, q_iT, q_iF, q_d, q_in, q_wi, q_hC, q_hM, pT_i, pU_i, pS_i, pS_j, pS_0, Sum.elim_inl, Sum.elim_inr, if_pos, if_neg]
        · simp (disch := omega) only [f_X3_waveAt, c2, Option.bind_some, qi, ql, qI_lt, qI_le, qI_eq, qI_L, qI_ix, qL_lt, qL_eq, q_nat, q_cs, ← Int32.ofInt_add, ← Int32.ofInt_sub, ← Int32.ofInt_mul, ← Int32.ofInt_neg, ← Int64.ofInt_add, ← Int64.ofInt_sub, ← Int64.ofInt_mul, ← Int64.ofInt_neg, pL_I, q_mx, q_mn, q_ab, q_abL, q_mnL, q_nn0, q_nn1, q_rr, q_b1, q_b0, q_T, q_F, q_iT, q_iF, q_d, q_in, q_wi, q_hC, q_hM, pT_i, pU_i, pS_i, pS_j, pS_0, Sum.elim_inl, Sum.elim_inr, if_pos, if_neg]
      constructor
      · simp (disch := omega) only [f_X11_waveOf, e1, ea, Option.bind_some, qi, ql, qI_lt, qI_le, qI_eq, qI_L, qI_ix, qL_lt, qL_eq, q_nat, q_cs, ← Int32.ofInt_add, ← Int32.ofInt_sub, ← Int32.ofInt_mul, ← Int32.ofInt_neg, ← Int64.ofInt_add, ← Int64.ofInt_sub, ← Int64.ofInt_mul, ← Int64.ofInt_neg, pL_I, q_mx, q_mn, q_ab, q_abL, q_mnL, q_nn0, q_nn1, q_rr, q_b1, q_b0, q_T, q_F, q_iT, q_iF, q_d, q_in, q_wi, q_hC, q_hM, pT_i, pU_i, pS_i, pS_j, pS_0, Sum.elim_inl, Sum.elim_inr, if_pos, if_neg]
      · simp (disch := omega) only [f_X12_isWaveOf, e2, d2, Option.bind_some, qi, ql, qI_lt, qI_le, qI_eq, qI_L, qI_ix, qL_lt, qL_eq, q_nat, q_cs, ← Int32.ofInt_add, ← Int32.ofInt_sub, ← Int32.ofInt_mul, ← Int32.ofInt_neg, ← Int64.ofInt_add, ← Int64.ofInt_sub, ← Int64.ofInt_mul, ← Int64.ofInt_neg, pL_I, q_mx, q_mn, q_ab, q_abL, q_mnL, q_nn0, q_nn1, q_rr, q_b1, q_b0, q_T, q_F, q_iT, q_iF, q_d, q_in, q_wi, q_hC, q_hM, pT_i, pU_i, pS_i, pS_j, pS_0, Sum.elim_inl, Sum.elim_inr, if_pos, if_neg]
/-- no such tray; MISSING; a tray -/
theorem pr_t {σ1 σ2 : am_H} (x : pr_Core σ1 σ2) {v : Int} (h1 : -2147483648 ≤ v) (h2 : v < 2147483648) : (¬ (0 ≤ v ∧ v < 5) ∧ (∀ σ, f_X11_trayOf (Int32.ofInt v) σ = some none)) ∨ ∃ t : Nat, t < 5 ∧ v = t ∧ (∀ σ, f_X11_trayOf (Int32.ofInt t) σ = some (some t)) ∧ pr_tray σ1 σ2 t := by
  by_cases c : 0 ≤ v ∧ v < 5
  · right
    obtain ⟨t, rfl⟩ : ∃ i : Nat, v = i := ⟨v.toNat, by omega⟩
    refine ⟨t, by omega, rfl, fun σ => ?_, (show pr_trays σ1 σ2 from x 1 (by omega)) t (by omega)⟩
    simp (disch := omega) only [f_X11_trayOf, Option.bind_some, qi, ql, qI_lt, qI_le, qI_eq, qI_L, qI_ix, qL_lt, qL_eq, q_nat, q_cs, ← Int32.ofInt_add, ← Int32.ofInt_sub, ← Int32.ofInt_mul, ← Int32.ofInt_neg, ← Int64.ofInt_add, ← Int64.ofInt_sub, ← Int64.ofInt_mul, ← Int64.ofInt_neg, pL_I, q_mx, q_mn, q_ab, q_abL, q_mnL, q_nn0, q_nn1, q_rr, q_b1, q_b0, q_T, q_F, q_iT, q_iF, q_d, q_in, q_wi, q_hC, q_hM, pT_i, pU_i, pS_i, pS_j, pS_0, Sum.elim_inl, Sum.elim_inr, if_pos, if_neg]
  · left
    refine ⟨c, fun σ => ?_⟩
    by_cases z : v < 0
    · simp (disch := omega) only [f_X11_trayOf, Option.bind_some, qi, ql, qI_lt, qI_le, qI_eq, qI_L, qI_ix, qL_lt, qL_eq, q_nat, q_cs, ← Int32.ofInt_add, ← Int32.ofInt_sub, ← Int32.ofInt_mul, ← Int32.ofInt_neg, ← Int64.ofInt_add, ← Int64.ofInt_sub, ← Int64.ofInt_mul, ← Int64.ofInt_neg, pL_I, q_mx, q_mn, q_ab, q_abL, q_mnL, q_nn0, q_nn1, q_rr, q_b1, q_b0, q_T, q_F, q_iT, q_iF, q_d, q_in, q_wi, q_hC, q_hM, pT_i, pU_i, pS_i, pS_j, pS_0, Sum.elim_inl, Sum.elim_inr, if_pos, if_neg]
    · simp (disch := omega) only [f_X11_trayOf, Option.bind_some, qi, ql, qI_lt, qI_le, qI_eq, qI_L, qI_ix, qL_lt, qL_eq, q_nat, q_cs, ← Int32.ofInt_add, ← Int32.ofInt_sub, ← Int32.ofInt_mul, ← Int32.ofInt_neg, ← Int64.ofInt_add, ← Int64.ofInt_sub, ← Int64.ofInt_mul, ← Int64.ofInt_neg, pL_I, q_mx, q_mn, q_ab, q_abL, q_mnL, q_nn0, q_nn1, q_rr, q_b1, q_b0, q_T, q_F, q_iT, q_iF, q_d, q_in, q_wi, q_hC, q_hM, pT_i, pU_i, pS_i, pS_j, pS_0, Sum.elim_inl, Sum.elim_inr, if_pos, if_neg]
theorem st_qin {β : Type} {σ : am_H} {a b c : Int} {f : Bool → Option β} {o : Option β} (h1 : -9223372036854775808 ≤ a) (h2 : a < 9223372036854775808) (h3 : -9223372036854775808 ≤ b) (h4 : b < 9223372036854775808) (h5 : -9223372036854775808 ≤ c) (h6 : c < 9223372036854775808) (k : f (decide (b ≤ a ∧ a ≤ c)) = o) : (f_X12_isIn (Int64.ofInt a) (Int64.ofInt b) (Int64.ofInt c) σ).bind f = o := st_bd (q_in h1 h2 h3 h4 h5 h6) k
theorem st_qwi {β : Type} {σ : am_H} {a b c : Int} {f : Bool → Option β} {o : Option β} (h1 : -2147483648 ≤ a) (h2 : a < 2147483648) (h3 : -2147483648 ≤ b) (h4 : b < 2147483648) (h5 : -2147483648 ≤ c) (h6 : c < 2147483648) (k : f (decide (b ≤ a ∧ a ≤ c)) = o) : (f_X11_isWithin (Int32.ofInt a) (Int32.ofInt b) (Int32.ofInt c) σ).bind f = o := st_bd (q_wi h1 h2 h3 h4 h5 h6) k
theorem st_qhC {β : Type} {σ : am_H} {a : Int} {f : Bool → Option β} {o : Option β} (h1 : -2147483648 ≤ a) (h2 : a < 2147483648) (k : f (decide (0 ≤ a ∧ a ≤ 99999)) = o) : (f_X11_isHour (Int32.ofInt a) σ).bind f = o := st_bd (q_hC h1 h2) k
theorem st_qhM {β : Type} {σ : am_H} {a : Int} {f : Bool → Option β} {o : Option β} (h1 : -2147483648 ≤ a) (h2 : a < 2147483648) (k : f (decide (0 ≤ a ∧ a ≤ 99999)) = o) : (f_X12_isHour (Int32.ofInt a) σ).bind f = o := st_bd (q_hM h1 h2) k
