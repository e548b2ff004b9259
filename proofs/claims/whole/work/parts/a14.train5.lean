def tm_T (σ ρ : am_H) (M : Nat) (st : Int × Int × Int × (Nat → Int)) : Prop := (st.2.1 = 0 → ρ.1 12 0 29 = σ.1 12 0 29 ∧ ∀ j, ρ.1 1344 0 j = σ.1 1344 0 j) ∧ (st.2.1 ≠ 0 → ρ.1 12 0 29 = Int32.ofInt M ∧ ∀ j, j < M → ρ.1 1344 0 j = Int32.ofInt (st.2.2.2 j))
def tm_l : List (Nat × Nat) := [(1377, 999), (12, 29), (1344, 999)]
theorem tm_Kq {σ τ : am_H} {m kc : Nat} {kw kt : Nat → Int} (q : qa (pr_fM 4) σ τ) (K : tm_K σ m kc kw kt) : tm_K τ m kc kw kt := by
  unfold tm_K at K ⊢
  rw [q.I (k := 1321) (fun j => rfl), q.I (k := 1325) (fun j => rfl)]
  exact K
theorem tm_te {kt : Nat → Int} {M : Nat} {p : Nat → Nat} (hM : M = 2 ∨ M = 4) : ps_sum (fun j => kt (p j)) M = tn_te kt M p := by
  unfold tn_te
  rcases hM with rfl | rfl
  · rw [if_neg (by omega)]
    show 0 + kt (p 0) + kt (p 1) = _
    omega
  · rw [if_pos rfl]
    show 0 + kt (p 0) + kt (p 1) + kt (p 2) + kt (p 3) = _
    omega
theorem tm_leaf {σ ρ : am_H} {m i kc M : Nat} {w kw kt : Nat → Int} {p : Nat → Nat} {st : Int × Int × Int × (Nat → Int)} (hm : m < 2) (hi : i < 6) (ok : pw_ok w) (Mw : pw_M ρ m i w) (KK : tn_K kc kw kt) (K : tm_K ρ m kc kw kt) (hM : M = 2 ∨ M = 4) (P : tm_P ρ kc M p) (so : tn_ok M st) (T : tm_T σ ρ M st) : ∃ ρ' : am_H, f_X12_train_97 (Int32.ofInt m) (Int32.ofInt i) (Int32.ofInt M) (Int64.ofInt st.1) (Int64.ofInt st.2.1) (Int32.ofInt st.2.2.1) true ρ = f_X12_train_249 (Int32.ofInt m) (Int32.ofInt i) (Int32.ofInt M) (Int64.ofInt (tn_leaf w kw kt M p st).1) (Int64.ofInt (tn_leaf w kw kt M p st).2.1) (Int32.ofInt (tn_leaf w kw kt M p st).2.2.1) ρ' ∧ qf [(12, 29), (1344, 999)] ρ ρ' ∧ tm_T σ ρ' M (tn_leaf w kw kt M p st) ∧ tn_ok M (tn_leaf w kw kt M p st) := by
  have k10 := KK.1
  have hp : ∀ j, j < M → p j < kc := fun j hj => (P j hj).2
  have b := tn_pb KK hM hp
  obtain ⟨hb, a1, a2⟩ := tm_hasAll hm KK K (by omega) P
  cases hb with
  | false =>
    have nok : ¬ en_ok kw p M := fun z => by have := a2.mpr z; cases this
    have eL : tn_leaf w kw kt M p st = st := if_neg nok
    rw [eL]
    refine ⟨ρ, ?_, qf.rf, T, so⟩
    simp (disch := omega) only [f_X12_train_97, a1, Option.bind_some, qi, ql, qI_lt, qI_le, qI_eq, qI_L, qI_ix, qL_lt, qL_eq, q_nat, q_cs, ← Int32.ofInt_add, ← Int32.ofInt_sub, ← Int32.ofInt_mul, ← Int32.ofInt_neg, ← Int64.ofInt_add, ← Int64.ofInt_sub, ← Int64.ofInt_mul, ← Int64.ofInt_neg, pL_I, q_mx, q_mn, q_ab, q_abL, q_mnL, q_nn0, q_nn1, q_rr, q_b1, q_b0, q_T, q_F, q_iT, q_iF, q_d, q_in, q_wi, q_hC, q_hM, pT_i, pU_i, pS_i, pS_j, pS_0, Sum.elim_inl, Sum.elim_inr, if_pos, if_neg]
  | true =>
    have eok := a2.mp rfl
    have eL : tn_leaf w kw kt M p st = tn_w w kt M p st := if_pos eok
    have wok := tn_wok (st := st) ok KK hM hp so
    rw [eL]
    obtain ⟨p0, p1⟩ := tm_prod hm KK K hM P
    have te := tm_teethOf hm k10 K (by omega : M ≤ 6) P
    rw [tm_te hM] at te
    have of := pm_offOf ok Mw (by omega) hi (a := tn_dr kt M p) (b := tn_dn kt M p) (by omega) (by omega) (by omega) (by omega)
    have ob := pw_off_r ok (a := tn_dr kt M p) (b := tn_dn kt M p) (by omega) (by omega) (by omega) (by omega)
    obtain ⟨o1, o2, o3⟩ := so
    by_cases c : tn_lt st (pw_off w (tn_dr kt M p) (tn_dn kt M p)) (tn_dn kt M p) (tn_te kt M p)
    · have eW : tn_w w kt M p st = (pw_off w (tn_dr kt M p) (tn_dn kt M p), tn_dn kt M p, tn_te kt M p, fun j => if j < M then kt (p j) else 0) := if_pos c
      obtain ⟨ρ', l1, q1, h1⟩ := am_loop_1 (B := fun s : Int32 × am_H => f_X12_train_217 (Int32.ofInt m) (Int32.ofInt i) (Int32.ofInt M) (Int64.ofInt (pw_off w (tn_dr kt M p) (tn_dn kt M p))) (Int64.ofInt (tn_dn kt M p)) (Int32.ofInt (tn_te kt M p)) s.1 s.2) (fun N s => ∃ (j : Nat) (π : am_H), s = (Int32.ofInt j, π) ∧ j ≤ M ∧ qf [(1344, 999)] (am_wI ρ 12 0 29 (Int32.ofInt M)) π ∧ (∀ x, x < j → π.1 1344 0 x = Int32.ofInt (kt (p x))) ∧ N = M - j) (fun π => qf [(1344, 999)] (am_wI ρ 12 0 29 (Int32.ofInt M)) π ∧ ∀ x, x < M → π.1 1344 0 x = Int32.ofInt (kt (p x))) (by
        rintro N s ⟨j, π, rfl, hj, q, h, rfl⟩
        by_cases cj : j < M
        · right
          have Q : qf [(12, 29), (1344, 999)] ρ π := (qf.rf.wI rfl).tr (q.mo (by decide))
          have t := (tm_teeth hm k10 (tm_Kq (Q.a (by decide +kernel)) K) (P j cj).2).1
          have e1 : π.1 1377 0 j = Int32.ofInt (p j) := by rw [(Q 1377 0 j rfl).1]; exact (P j cj).1
          refine ⟨(Int32.ofInt ((j : Int) + 1), am_wI π 1344 0 j (Int32.ofInt (kt (p j)))), M - (j + 1), ?_, by omega, j + 1, _, rfl, by omega, q.wI rfl, fun x hx => ?_, rfl⟩
          · simp (disch := omega) only [f_X12_train_217, e1, t, Option.bind_some, qi, ql, qI_lt, qI_le, qI_eq, qI_L, qI_ix, qL_lt, qL_eq, q_nat, q_cs, ← Int32.ofInt_add, ← Int32.ofInt_sub, ← Int32.ofInt_mul, ← Int32.ofInt_neg, ← Int64.ofInt_add, ← Int64.ofInt_sub, ← Int64.ofInt_mul, ← Int64.ofInt_neg, pL_I, q_mx, q_mn, q_ab, q_abL, q_mnL, q_nn0, q_nn1, q_rr, q_b1, q_b0, q_T, q_F, q_iT, q_iF, q_d, q_in, q_wi, q_hC, q_hM, pT_i, pU_i, pS_i, pS_j, pS_0, Sum.elim_inl, Sum.elim_inr, if_pos, if_neg]
          · rw [am_wI_r]
            by_cases cx : x = j
            · rw [if_pos ⟨rfl, rfl, cx⟩, cx]
            · rw [if_neg (by omega)]
              exact h x (by omega)
        · left
          have : j = M := by omega
          subst this
          refine ⟨π, ?_, q, h⟩
          simp (disch := omega) only [f_X12_train_217, Option.bind_some, qi, ql, qI_lt, qI_le, qI_eq, qI_L, qI_ix, qL_lt, qL_eq, q_nat, q_cs, ← Int32.ofInt_add, ← Int32.ofInt_sub, ← Int32.ofInt_mul, ← Int32.ofInt_neg, ← Int64.ofInt_add, ← Int64.ofInt_sub, ← Int64.ofInt_mul, ← Int64.ofInt_neg, pL_I, q_mx, q_mn, q_ab, q_abL, q_mnL, q_nn0, q_nn1, q_rr, q_b1, q_b0, q_T, q_F, q_iT, q_iF, q_d, q_in, q_wi, q_hC, q_hM, pT_i, pU_i, pS_i, pS_j, pS_0, Sum.elim_inl, Sum.elim_inr, if_pos, if_neg]) M (Int32.ofInt 0, am_wI ρ 12 0 29 (Int32.ofInt M)) ⟨0, _, rfl, by omega, qf.rf, fun x hx => by omega, rfl⟩
      have r196 : f_X12_train_196 (Int32.ofInt m) (Int32.ofInt i) (Int32.ofInt M) (Int64.ofInt (tn_dn kt M p)) (Int64.ofInt (pw_off w (tn_dr kt M p) (tn_dn kt M p))) (Int32.ofInt (tn_te kt M p)) ρ = f_X12_train_249 (Int32.ofInt m) (Int32.ofInt i) (Int32.ofInt M) (Int64.ofInt (pw_off w (tn_dr kt M p) (tn_dn kt M p))) (Int64.ofInt (tn_dn kt M p)) (Int32.ofInt (tn_te kt M p)) ρ' := by
        simp (disch := omega) only [f_X12_train_196, l1, Option.bind_some, qi, ql, qI_lt, qI_le, qI_eq, qI_L, qI_ix, qL_lt, qL_eq, q_nat, q_cs, ← Int32.ofInt_add, ← Int32.ofInt_sub, ← Int32.ofInt_mul, ← Int32.ofInt_neg, ← Int64.ofInt_add, ← Int64.ofInt_sub, ← Int64.ofInt_mul, ← Int64.ofInt_neg, pL_I, q_mx, q_mn, q_ab, q_abL, q_mnL, q_nn0, q_nn1, q_rr, q_b1, q_b0, q_T, q_F, q_iT, q_iF, q_d, q_in, q_wi, q_hC, q_hM, pT_i, pU_i, pS_i, pS_j, pS_0, Sum.elim_inl, Sum.elim_inr, if_pos, if_neg]
      rw [eW] at wok ⊢
      refine ⟨ρ', ?_, (qf.rf.wI rfl).tr (q1.mo (by decide)), ⟨fun z => ?_, fun _ => ⟨by rw [(q1 12 0 29 rfl).1]; rfl, fun j hj => ?_⟩⟩, wok⟩
      · rw [← r196]
        by_cases c0 : st.2.1 = 0
        · simp (disch := omega) only [f_X12_train_97, f_X12_train_173, a1, p0, p1, of, te, Option.bind_some, qi, ql, qI_lt, qI_le, qI_eq, qI_L, qI_ix, qL_lt, qL_eq, q_nat, q_cs, ← Int32.ofInt_add, ← Int32.ofInt_sub, ← Int32.ofInt_mul, ← Int32.ofInt_neg, ← Int64.ofInt_add, ← Int64.ofInt_sub, ← Int64.ofInt_mul, ← Int64.ofInt_neg, pL_I, q_mx, q_mn, q_ab, q_abL, q_mnL, q_nn0, q_nn1, q_rr, q_b1, q_b0, q_T, q_F, q_iT, q_iF, q_d, q_in, q_wi, q_hC, q_hM, pT_i, pU_i, pS_i, pS_j, pS_0, Sum.elim_inl, Sum.elim_inr, if_pos, if_neg]
        · have m1 : 0 ≤ pw_off w (tn_dr kt M p) (tn_dn kt M p) * st.2.1 := Int.mul_nonneg (by omega) (by omega)
          have m2 : pw_off w (tn_dr kt M p) (tn_dn kt M p) * st.2.1 ≤ 239976000000 * 40000 := Int.mul_le_mul ob.2 o2.2 (by omega) (by omega)
          have m3 : 0 ≤ st.1 * tn_dn kt M p := Int.mul_nonneg (by omega) (by omega)
          have m4 : st.1 * tn_dn kt M p ≤ 240000000000 * 40000 := Int.mul_le_mul o1.2 b.2.1.2 (by omega) (by omega)
          unfold tn_lt at c
          by_cases c1 : pw_off w (tn_dr kt M p) (tn_dn kt M p) * st.2.1 - st.1 * tn_dn kt M p < 0
          · simp (disch := omega) only [f_X12_train_97, f_X12_train_173, a1, p0, p1, of, te, Option.bind_some, qi, ql, qI_lt, qI_le, qI_eq, qI_L, qI_ix, qL_lt, qL_eq, q_nat, q_cs, ← Int32.ofInt_add, ← Int32.ofInt_sub, ← Int32.ofInt_mul, ← Int32.ofInt_neg, ← Int64.ofInt_add, ← Int64.ofInt_sub, ← Int64.ofInt_mul, ← Int64.ofInt_neg, pL_I, q_mx, q_mn, q_ab, q_abL, q_mnL, q_nn0, q_nn1, q_rr, q_b1, q_b0, q_T, q_F, q_iT, q_iF, q_d, q_in, q_wi, q_hC, q_hM, pT_i, pU_i, pS_i, pS_j, pS_0, Sum.elim_inl, Sum.elim_inr, if_pos, if_neg]
          · simp (disch := omega) only [f_X12_train_97, f_X12_train_173, a1, p0, p1, of, te, Option.bind_some, qi, ql, qI_lt, qI_le, qI_eq, qI_L, qI_ix, qL_lt, qL_eq, q_nat, q_cs, ← Int32.ofInt_add, ← Int32.ofInt_sub, ← Int32.ofInt_mul, ← Int32.ofInt_neg, ← Int64.ofInt_add, ← Int64.ofInt_sub, ← Int64.ofInt_mul, ← Int64.ofInt_neg, pL_I, q_mx, q_mn, q_ab, q_abL, q_mnL, q_nn0, q_nn1, q_rr, q_b1, q_b0, q_T, q_F, q_iT, q_iF, q_d, q_in, q_wi, q_hC, q_hM, pT_i, pU_i, pS_i, pS_j, pS_0, Sum.elim_inl, Sum.elim_inr, if_pos, if_neg]
      · have : tn_dn kt M p = 0 := z
        omega
      · show ρ'.1 1344 0 j = Int32.ofInt (if j < M then kt (p j) else 0)
        rw [if_pos hj]
        exact h1 j hj
    · have eW : tn_w w kt M p st = st := if_neg c
      rw [eW] at wok ⊢
      refine ⟨ρ, ?_, qf.rf, T, wok⟩
      have c0 : st.2.1 ≠ 0 := fun z => c (Or.inl z)
      have m1 : 0 ≤ pw_off w (tn_dr kt M p) (tn_dn kt M p) * st.2.1 := Int.mul_nonneg (by omega) (by omega)
      have m2 : pw_off w (tn_dr kt M p) (tn_dn kt M p) * st.2.1 ≤ 239976000000 * 40000 := Int.mul_le_mul ob.2 o2.2 (by omega) (by omega)
      have m3 : 0 ≤ st.1 * tn_dn kt M p := Int.mul_nonneg (by omega) (by omega)
      have m4 : st.1 * tn_dn kt M p ≤ 240000000000 * 40000 := Int.mul_le_mul o1.2 b.2.1.2 (by omega) (by omega)
      unfold tn_lt at c
      by_cases c1 : pw_off w (tn_dr kt M p) (tn_dn kt M p) * st.2.1 - st.1 * tn_dn kt M p = 0
      · simp (disch := omega) only [f_X12_train_97, f_X12_train_173, a1, p0, p1, of, te, Option.bind_some, qi, ql, qI_lt, qI_le, qI_eq, qI_L, qI_ix, qL_lt, qL_eq, q_nat, q_cs, ← Int32.ofInt_add, ← Int32.ofInt_sub, ← Int32.ofInt_mul, ← Int32.ofInt_neg, ← Int64.ofInt_add, ← Int64.ofInt_sub, ← Int64.ofInt_mul, ← Int64.ofInt_neg, pL_I, q_mx, q_mn, q_ab, q_abL, q_mnL, q_nn0, q_nn1, q_rr, q_b1, q_b0, q_T, q_F, q_iT, q_iF, q_d, q_in, q_wi, q_hC, q_hM, pT_i, pU_i, pS_i, pS_j, pS_0, Sum.elim_inl, Sum.elim_inr, if_pos, if_neg]
      · simp (disch := omega) only [f_X12_train_97, f_X12_train_173, a1, p0, p1, of, te, Option.bind_some, qi, ql, qI_lt, qI_le, qI_eq, qI_L, qI_ix, qL_lt, qL_eq, q_nat, q_cs, ← Int32.ofInt_add, ← Int32.ofInt_sub, ← Int32.ofInt_mul, ← Int32.ofInt_neg, ← Int64.ofInt_add, ← Int64.ofInt_sub, ← Int64.ofInt_mul, ← Int64.ofInt_neg, pL_I, q_mx, q_mn, q_ab, q_abL, q_mnL, q_nn0, q_nn1, q_rr, q_b1, q_b0, q_T, q_F, q_iT, q_iF, q_d, q_in, q_wi, q_hC, q_hM, pT_i, pU_i, pS_i, pS_j, pS_0, Sum.elim_inl, Sum.elim_inr, if_pos, if_neg]
theorem tm_all {σ : am_H} {m i kc M : Nat} {w kw kt : Nat → Int} (hm : m < 2) (hi : i < 6) (ok : pw_ok w) (Mw : pw_M σ m i w) (KK : tn_K kc kw kt) (k0 : 0 < kc) (K : tm_K σ m kc kw kt) (hM : M = 2 ∨ M = 4) (P : tm_P σ kc M (fun _ => 0)) : ∃ τ : am_H, am_loop (fun s : Int64 × Int64 × Int32 × Bool × am_H => f_X12_train_97 (Int32.ofInt m) (Int32.ofInt i) (Int32.ofInt M) s.1 s.2.1 s.2.2.1 s.2.2.2.1 s.2.2.2.2) (Int64.ofInt 0, Int64.ofInt 0, Int32.ofInt 0, true, σ) = some (Int64.ofInt (en_F (tn_leaf w kw kt M) kc M 0 (fun _ => 0) (0, 0, 0, fun _ => 0)).1, Int64.ofInt (en_F (tn_leaf w kw kt M) kc M 0 (fun _ => 0) (0, 0, 0, fun _ => 0)).2.1, Int32.ofInt (en_F (tn_leaf w kw kt M) kc M 0 (fun _ => 0) (0, 0, 0, fun _ => 0)).2.2.1, τ) ∧ qf tm_l σ τ ∧ tm_T σ τ M (en_F (tn_leaf w kw kt M) kc M 0 (fun _ => 0) (0, 0, 0, fun _ => 0)) := by
  have k10 := KK.1
  have hl := tn_leaf_c (w := w) (kw := kw) (kt := kt) hM
  obtain ⟨r, e1, τ, e2, e3, e4⟩ := am_loop_1 (B := fun s : Int64 × Int64 × Int32 × Bool × am_H => f_X12_train_97 (Int32.ofInt m) (Int32.ofInt i) (Int32.ofInt M) s.1 s.2.1 s.2.2.1 s.2.2.2.1 s.2.2.2.2) (fun N s => ∃ (st : Int × Int × Int × (Nat → Int)) (ρ : am_H) (more : Bool), s = (Int64.ofInt st.1, Int64.ofInt st.2.1, Int32.ofInt st.2.2.1, more, ρ) ∧ tn_ok M st ∧ qf tm_l σ ρ ∧ tm_T σ ρ M st ∧ ((more = true ∧ ∃ p : Nat → Nat, tm_P ρ kc M p ∧ st = en_L (tn_leaf w kw kt M) kc M 0 p (0, 0, 0, fun _ => 0) ∧ N = kc ^ M - en_v kc M 0 p) ∨ (more = false ∧ st = en_F (tn_leaf w kw kt M) kc M 0 (fun _ => 0) (0, 0, 0, fun _ => 0) ∧ N = 0))) (fun r => ∃ τ : am_H, r = (Int64.ofInt (en_F (tn_leaf w kw kt M) kc M 0 (fun _ => 0) (0, 0, 0, fun _ => 0)).1, Int64.ofInt (en_F (tn_leaf w kw kt M) kc M 0 (fun _ => 0) (0, 0, 0, fun _ => 0)).2.1, Int32.ofInt (en_F (tn_leaf w kw kt M) kc M 0 (fun _ => 0) (0, 0, 0, fun _ => 0)).2.2.1, τ) ∧ qf tm_l σ τ ∧ tm_T σ τ M (en_F (tn_leaf w kw kt M) kc M 0 (fun _ => 0) (0, 0, 0, fun _ => 0))) (by
    rintro N s ⟨st, ρ, more, rfl, so, q, T, h⟩
    rcases h with ⟨rfl, p, P', est, rfl⟩ | ⟨rfl, est, rfl⟩
    · right
      have qa4 := q.a (r := pr_fM 4) (by decide +kernel)
      have Mw' : pw_M ρ m i w := by
        unfold pw_M at Mw ⊢
        rw [qa4.I (k := 1324) (fun j => rfl)]
        exact Mw
      have K' := tm_Kq qa4 K
      obtain ⟨ρ', f1, q1, T1, so1⟩ := tm_leaf (σ := σ) hm hi ok Mw' KK K' hM P' so T
      have P1 : tm_P ρ' kc M p := fun j hj => ⟨by rw [(q1 1377 0 j rfl).1]; exact (P' j hj).1, (P' j hj).2⟩
      obtain ⟨b, τ, f2, q2, h2⟩ := tm_goes hm k10 k0 (tm_Kq (q1.a (by decide +kernel)) K') (by omega : 0 < M) (by omega) P1
      have T2 : tm_T σ τ M (tn_leaf w kw kt M p st) := by
        unfold tm_T
        rw [(q2 12 0 29 rfl).1, show τ.1 1344 0 = ρ'.1 1344 0 from funext fun j => (q2 1344 0 j rfl).1]
        exact T1
      have vb := en_vb M 0 p (fun j _ hj => (P' j (by omega)).2)
      have Q : qf tm_l σ τ := (q.tr (q1.mo (by decide))).tr (q2.mo (by decide))
      have step : f_X12_train_97 (Int32.ofInt m) (Int32.ofInt i) (Int32.ofInt M) (Int64.ofInt st.1) (Int64.ofInt st.2.1) (Int32.ofInt st.2.2.1) true ρ = some (.inl (Int64.ofInt (tn_leaf w kw kt M p st).1, Int64.ofInt (tn_leaf w kw kt M p st).2.1, Int32.ofInt (tn_leaf w kw kt M p st).2.2.1, b, τ)) := by
        rw [f1]
        simp (disch := omega) only [f_X12_train_249, f2, Option.bind_some, qi, ql, qI_lt, qI_le, qI_eq, qI_L, qI_ix, qL_lt, qL_eq, q_nat, q_cs, ← Int32.ofInt_add, ← Int32.ofInt_sub, ← Int32.ofInt_mul, ← Int32.ofInt_neg, ← Int64.ofInt_add, ← Int64.ofInt_sub, ← Int64.ofInt_mul, ← Int64.ofInt_neg, pL_I, q_mx, q_mn, q_ab, q_abL, q_mnL, q_nn0, q_nn1, q_rr, q_b1, q_b0, q_T, q_F, q_iT, q_iF, q_d, q_in, q_wi, q_hC, q_hM, pT_i, pU_i, pS_i, pS_j, pS_0, Sum.elim_inl, Sum.elim_inr, if_pos, if_neg]
      rcases h2 with ⟨rfl, hall⟩ | ⟨rfl, y, qq, hy, h3, h4, h5, h6, P2⟩
      · refine ⟨_, 0, step, by omega, _, τ, false, rfl, so1, Q, T2, Or.inr ⟨rfl, ?_, rfl⟩⟩
        rw [est, en_Lc hl k0 M 0 p _ (by omega) (fun j _ hj => hall j (by omega))]
        exact en_Fc hl M 0 _ _ _ (by omega) (fun j hj => by omega)
      · have vs := en_vs (c := kc) M 0 p qq y (by omega) (by omega) (fun j _ hj => (P' j (by omega)).2) h4 h5
        refine ⟨_, kc ^ M - en_v kc M 0 qq, step, by omega, _, τ, true, rfl, so1, Q, T2, Or.inl ⟨rfl, qq, P2, ?_, rfl⟩⟩
        rw [est]
        exact (en_Ls hl k0 M 0 p qq y _ (by omega) (by omega) (by omega) h3 h4 h5 (fun j j1 j2 => h6 j j1 (by omega))).symm
    · left
      refine ⟨_, ?_, ρ, rfl, q, by rw [← est]; exact T⟩
      rw [est]
      simp (disch := omega) only [f_X12_train_97, Option.bind_some, qi, ql, qI_lt, qI_le, qI_eq, qI_L, qI_ix, qL_lt, qL_eq, q_nat, q_cs, ← Int32.ofInt_add, ← Int32.ofInt_sub, ← Int32.ofInt_mul, ← Int32.ofInt_neg, ← Int64.ofInt_add, ← Int64.ofInt_sub, ← Int64.ofInt_mul, ← Int64.ofInt_neg, pL_I, q_mx, q_mn, q_ab, q_abL, q_mnL, q_nn0, q_nn1, q_rr, q_b1, q_b0, q_T, q_F, q_iT, q_iF, q_d, q_in, q_wi, q_hC, q_hM, pT_i, pU_i, pS_i, pS_j, pS_0, Sum.elim_inl, Sum.elim_inr, if_pos, if_neg]) _ (Int64.ofInt 0, Int64.ofInt 0, Int32.ofInt 0, true, σ) ⟨(0, 0, 0, fun _ => 0), σ, true, rfl, ⟨by decide, by decide, by decide⟩, qf.rf, ⟨fun _ => ⟨rfl, fun j => rfl⟩, fun z => absurd rfl z⟩, Or.inl ⟨rfl, fun _ => 0, P, (en_L0 M 0 _ _ (fun j _ _ => rfl)).symm, rfl⟩⟩
  subst e2
  exact ⟨τ, e1, e3, e4⟩
theorem po_17 : am_op_17 pr_Rel := by
  intro σ1 σ2 h v1 v2 v3
  obtain ⟨x, x1, x2, rfl⟩ := q_ex v1
  obtain ⟨y, y1, y2, rfl⟩ := q_ex v2
  obtain ⟨c, c1, c2, rfl⟩ := q_ex v3
  rcases pr_w (h.2.S 0) x1 x2 y1 y2 with ⟨e1, e2⟩ | ⟨m, a, i, w, hm, ha, hi, rfl, rfl, hr, em, eM, ea, e1, e2, ok, tr, C, M, -⟩
  · refine pr_ro h (Int32.ofInt (-1)) 2 ?_ ?_
    · rcases pr_m (h.2.S 0) x1 x2 with ⟨c, f1, f2⟩ | ⟨m, a, hm, ha, rfl, hr, f1, f2, M⟩
      · simp (disch := omega) only [f_X11_train, f_X11_train_25, f_X11_none, f1, e1, Option.bind_some, qi, ql, qI_lt, qI_le, qI_eq, qI_L, qI_ix, qL_lt, qL_eq, q_nat, q_cs, ← Int32.ofInt_add, ← Int32.ofInt_sub, ← Int32.ofInt_mul, ← Int32.ofInt_neg, ← Int64.ofInt_add, ← Int64.ofInt_sub, ← Int64.ofInt_mul, ← Int64.ofInt_neg, pL_I, q_mx, q_mn, q_ab, q_abL, q_mnL, q_nn0, q_nn1, q_rr, q_b1, q_b0, q_T, q_F, q_iT, q_iF, q_d, q_in, q_wi, q_hC, q_hM, pT_i, pU_i, pS_i, pS_j, pS_0, Sum.elim_inl, Sum.elim_inr, if_pos, if_neg]
      · simp (disch := omega) only [f_X11_train, f_X11_train_25, f_X11_none, f1, e1, Option.bind_some, qi, ql, qI_lt, qI_le, qI_eq, qI_L, qI_ix, qL_lt, qL_eq, q_nat, q_cs, ← Int32.ofInt_add, ← Int32.ofInt_sub, ← Int32.ofInt_mul, ← Int32.ofInt_neg, ← Int64.ofInt_add, ← Int64.ofInt_sub, ← Int64.ofInt_mul, ← Int64.ofInt_neg, pL_I, q_mx, q_mn, q_ab, q_abL, q_mnL, q_nn0, q_nn1, q_rr, q_b1, q_b0, q_T, q_F, q_iT, q_iF, q_d, q_in, q_wi, q_hC, q_hM, pT_i, pU_i, pS_i, pS_j, pS_0, Sum.elim_inl, Sum.elim_inr, if_pos, if_neg]
    · simp (disch := omega) only [f_X12_train, f_X12_refuse, e2, Option.bind_some, qi, ql, qI_lt, qI_le, qI_eq, qI_L, qI_ix, qL_lt, qL_eq, q_nat, q_cs, ← Int32.ofInt_add, ← Int32.ofInt_sub, ← Int32.ofInt_mul, ← Int32.ofInt_neg, ← Int64.ofInt_add, ← Int64.ofInt_sub, ← Int64.ofInt_mul, ← Int64.ofInt_neg, pL_I, q_mx, q_mn, q_ab, q_abL, q_mnL, q_nn0, q_nn1, q_rr, q_b1, q_b0, q_T, q_F, q_iT, q_iF, q_d, q_in, q_wi, q_hC, q_hM, pT_i, pU_i, pS_i, pS_j, pS_0, Sum.elim_inl, Sum.elim_inr, if_pos, if_neg]
  · by_cases cc : 1 ≤ c ∧ c ≤ 2
    · obtain ⟨MM, hMM⟩ : ∃ MM : Nat, (MM : Int) = 2 * c := ⟨(2 * c).toNat, by omega⟩
      have hM : MM = 2 ∨ MM = 4 := by omega
      rcases pr_m (h.2.S 0) x1 x2 with ⟨z, -, -⟩ | ⟨m', a', hm', ha', em', hr', em2, eM2, X⟩
      · exact absurd ⟨by omega, by omega⟩ z
      · have : m' = m := by omega
        subst this
        have : a' = a := by
          rw [hr] at hr'
          exact (Option.some.inj hr').symm
        subst this
        obtain ⟨wc, ws, zr, sl, kc, kw, kt, -, -, -, -, -, -, k1, k2, k3, k4⟩ := X
        have KK : tn_K kc kw kt := ⟨k1, fun x hx => ⟨(k4 x hx).1, (k4 x hx).2.1⟩⟩
        have K : tm_K (pS σ2 0) m' kc kw kt := ⟨k3, fun x hx => ⟨(k4 x hx).2.2.2.2.1, (k4 x hx).2.2.2.2.2⟩⟩
        obtain ⟨b, τ1, f1, q1, hb, hbf, hbt⟩ := tn_find (c := c) ha' (by omega : 6 * a' + i < 18) ok C KK hM hMM k2 (fun x hx => ⟨(k4 x hx).2.2.1, (k4 x hx).2.2.2.1⟩)
        have z76 : ∀ bb : Bool, ∃ τ : am_H, am_loop (fun s : Int32 × am_H => f_X12_train_76 (Int32.ofInt m') (Int32.ofInt i) (Int32.ofInt (2 * c)) (Int64.ofInt 0) (Int64.ofInt 0) bb s.1 s.2) (Int32.ofInt 0, pS σ2 0) = some τ ∧ qf [(1377, 999)] (pS σ2 0) τ ∧ ∀ j, j < 6 → τ.1 1377 0 j = Int32.ofInt 0 := by
          intro bb
          refine am_loop_1 (B := fun s : Int32 × am_H => f_X12_train_76 (Int32.ofInt m') (Int32.ofInt i) (Int32.ofInt (2 * c)) (Int64.ofInt 0) (Int64.ofInt 0) bb s.1 s.2) (fun N s => ∃ (j : Nat) (ρ : am_H), s = (Int32.ofInt j, ρ) ∧ j ≤ 6 ∧ qf [(1377, 999)] (pS σ2 0) ρ ∧ (∀ x, x < j → ρ.1 1377 0 x = Int32.ofInt 0) ∧ N = 6 - j) _ ?_ 6 (Int32.ofInt 0, pS σ2 0) ⟨0, _, rfl, by omega, qf.rf, fun x hx => by omega, rfl⟩
          rintro N s ⟨j, ρ, rfl, hj, q, h, rfl⟩
          by_cases cj : j < 6
          · right
            refine ⟨(Int32.ofInt ((j : Int) + 1), am_wI ρ 1377 0 j (Int32.ofInt 0)), 6 - (j + 1), ?_, by omega, j + 1, _, rfl, by omega, q.wI rfl, fun x hx => ?_, rfl⟩
            · simp (disch := omega) only [f_X12_train_76, Option.bind_some, qi, ql, qI_lt, qI_le, qI_eq, qI_L, qI_ix, qL_lt, qL_eq, q_nat, q_cs, ← Int32.ofInt_add, ← Int32.ofInt_sub, ← Int32.ofInt_mul, ← Int32.ofInt_neg, ← Int64.ofInt_add, ← Int64.ofInt_sub, ← Int64.ofInt_mul, ← Int64.ofInt_neg, pL_I, q_mx, q_mn, q_ab, q_abL, q_mnL, q_nn0, q_nn1, q_rr, q_b1, q_b0, q_T, q_F, q_iT, q_iF, q_d, q_in, q_wi, q_hC, q_hM, pT_i, pU_i, pS_i, pS_j, pS_0, Sum.elim_inl, Sum.elim_inr, if_pos, if_neg]
            · rw [am_wI_r]
              by_cases cx : x = j
              · rw [if_pos ⟨rfl, rfl, cx⟩]
              · rw [if_neg (by omega)]
                exact h x (by omega)
          · left
            have : j = 6 := by omega
            subst this
            refine ⟨ρ, ?_, q, h⟩
            simp (disch := omega) only [f_X12_train_76, Option.bind_some, qi, ql, qI_lt, qI_le, qI_eq, qI_L, qI_ix, qL_lt, qL_eq, q_nat, q_cs, ← Int32.ofInt_add, ← Int32.ofInt_sub, ← Int32.ofInt_mul, ← Int32.ofInt_neg, ← Int64.ofInt_add, ← Int64.ofInt_sub, ← Int64.ofInt_mul, ← Int64.ofInt_neg, pL_I, q_mx, q_mn, q_ab, q_abL, q_mnL, q_nn0, q_nn1, q_rr, q_b1, q_b0, q_T, q_F, q_iT, q_iF, q_d, q_in, q_wi, q_hC, q_hM, pT_i, pU_i, pS_i, pS_j, pS_0, Sum.elim_inl, Sum.elim_inr, if_pos, if_neg]
        by_cases ck : kc = 0
        · obtain ⟨τ2, f2, q2, -⟩ := z76 false
          have eE : (en_F (tn_leaf w kw kt MM) kc MM 0 (fun _ => 0) (0, 0, 0, fun _ => 0)) = (0, 0, 0, fun _ => 0) := by
            subst ck
            rcases hM with rfl | rfl <;> rfl
          have bf : b = false := by
            cases b with
            | false => rfl
            | true =>
              have := hb.mp rfl
              rw [eE] at this
              exact absurd rfl this
          subst bf
          have lp : am_loop (fun s : Int64 × Int64 × Int32 × Bool × am_H => f_X12_train_97 (Int32.ofInt m') (Int32.ofInt i) (Int32.ofInt (2 * c)) s.1 s.2.1 s.2.2.1 s.2.2.2.1 s.2.2.2.2) (Int64.ofInt 0, Int64.ofInt 0, Int32.ofInt 0, false, τ2) = some (Int64.ofInt 0, Int64.ofInt 0, Int32.ofInt 0, τ2) := by
            refine am_loop_out ?_
            simp (disch := omega) only [f_X12_train_97, Option.bind_some, qi, ql, qI_lt, qI_le, qI_eq, qI_L, qI_ix, qL_lt, qL_eq, q_nat, q_cs, ← Int32.ofInt_add, ← Int32.ofInt_sub, ← Int32.ofInt_mul, ← Int32.ofInt_neg, ← Int64.ofInt_add, ← Int64.ofInt_sub, ← Int64.ofInt_mul, ← Int64.ofInt_neg, pL_I, q_mx, q_mn, q_ab, q_abL, q_mnL, q_nn0, q_nn1, q_rr, q_b1, q_b0, q_T, q_F, q_iT, q_iF, q_d, q_in, q_wi, q_hC, q_hM, pT_i, pU_i, pS_i, pS_j, pS_0, Sum.elim_inl, Sum.elim_inr, if_pos, if_neg]
          refine ⟨Int32.ofInt (-1), pT τ1 9, am_wI τ2 12 0 0 (Int32.ofInt 9), ?_, ?_, rfl, ?_⟩
          · simp (disch := omega) only [f_X11_train, f_X11_none, em, e1, f1, Option.bind_some, qi, ql, qI_lt, qI_le, qI_eq, qI_L, qI_ix, qL_lt, qL_eq, q_nat, q_cs, ← Int32.ofInt_add, ← Int32.ofInt_sub, ← Int32.ofInt_mul, ← Int32.ofInt_neg, ← Int64.ofInt_add, ← Int64.ofInt_sub, ← Int64.ofInt_mul, ← Int64.ofInt_neg, pL_I, q_mx, q_mn, q_ab, q_abL, q_mnL, q_nn0, q_nn1, q_rr, q_b1, q_b0, q_T, q_F, q_iT, q_iF, q_d, q_in, q_wi, q_hC, q_hM, pT_i, pU_i, pS_i, pS_j, pS_0, Sum.elim_inl, Sum.elim_inr, if_pos, if_neg]
          · simp (disch := omega) only [f_X12_train, f_X12_refuse, e2, k3, f2, lp, Option.bind_some, qi, ql, qI_lt, qI_le, qI_eq, qI_L, qI_ix, qL_lt, qL_eq, q_nat, q_cs, ← Int32.ofInt_add, ← Int32.ofInt_sub, ← Int32.ofInt_mul, ← Int32.ofInt_neg, ← Int64.ofInt_add, ← Int64.ofInt_sub, ← Int64.ofInt_mul, ← Int64.ofInt_neg, pL_I, q_mx, q_mn, q_ab, q_abL, q_mnL, q_nn0, q_nn1, q_rr, q_b1, q_b0, q_T, q_F, q_iT, q_iF, q_d, q_in, q_wi, q_hC, q_hM, pT_i, pU_i, pS_i, pS_j, pS_0, Sum.elim_inl, Sum.elim_inr, if_pos, if_neg]
          · exact (h.2.S 0).st [(11, 0), (7, 0), (803, 999)] [(1377, 999), (12, 0)] [] (by decide +kernel) (((hbf rfl).mo (by decide)).wI rfl) ((q2.mo (by decide)).wI rfl) (by simp)
        · obtain ⟨τ2, f2, q2, z2⟩ := z76 true
          have qa4 := q2.a (r := pr_fM 4) (by decide +kernel)
          have Mw' : pw_M τ2 m' i w := by
            unfold pw_M at M ⊢
            rw [qa4.I (k := 1324) (fun j => rfl)]
            exact M
          obtain ⟨τ3, f3, q3, T3⟩ := tm_all hm hi ok Mw' KK (by omega) (tm_Kq qa4 K) hM (fun j hj => ⟨z2 j (by omega), by show 0 < kc; omega⟩)
          have f3' := f3
          rw [hMM] at f3'
          generalize hE : en_F (tn_leaf w kw kt MM) kc MM 0 (fun _ => 0) (0, 0, 0, fun _ => 0) = E at *
          cases b with
          | false =>
            have e0 : E.2.1 = 0 := by
              apply Classical.byContradiction
              intro z
              have := hb.mpr z
              cases this
            rw [e0] at f3'
            obtain ⟨t1, t2⟩ := T3.1 e0
            have Q : qf tm_l (pS σ2 0) τ3 := (q2.mo (by decide)).tr q3
            refine ⟨Int32.ofInt (-1), pT τ1 9, am_wI τ3 12 0 0 (Int32.ofInt 9), ?_, ?_, rfl, ?_⟩
            · simp (disch := omega) only [f_X11_train, f_X11_none, em, e1, f1, Option.bind_some, qi, ql, qI_lt, qI_le, qI_eq, qI_L, qI_ix, qL_lt, qL_eq, q_nat, q_cs, ← Int32.ofInt_add, ← Int32.ofInt_sub, ← Int32.ofInt_mul, ← Int32.ofInt_neg, ← Int64.ofInt_add, ← Int64.ofInt_sub, ← Int64.ofInt_mul, ← Int64.ofInt_neg, pL_I, q_mx, q_mn, q_ab, q_abL, q_mnL, q_nn0, q_nn1, q_rr, q_b1, q_b0, q_T, q_F, q_iT, q_iF, q_d, q_in, q_wi, q_hC, q_hM, pT_i, pU_i, pS_i, pS_j, pS_0, Sum.elim_inl, Sum.elim_inr, if_pos, if_neg]
            · simp (disch := omega) only [f_X12_train, f_X12_refuse, e2, k3, f2, f3', Option.bind_some, qi, ql, qI_lt, qI_le, qI_eq, qI_L, qI_ix, qL_lt, qL_eq, q_nat, q_cs, ← Int32.ofInt_add, ← Int32.ofInt_sub, ← Int32.ofInt_mul, ← Int32.ofInt_neg, ← Int64.ofInt_add, ← Int64.ofInt_sub, ← Int64.ofInt_mul, ← Int64.ofInt_neg, pL_I, q_mx, q_mn, q_ab, q_abL, q_mnL, q_nn0, q_nn1, q_rr, q_b1, q_b0, q_T, q_F, q_iT, q_iF, q_d, q_in, q_wi, q_hC, q_hM, pT_i, pU_i, pS_i, pS_j, pS_0, Sum.elim_inl, Sum.elim_inr, if_pos, if_neg]
            · refine (h.2.S 0).st [(11, 0), (7, 0), (803, 999)] [(1377, 999), (12, 0), (12, 29), (1344, 999)] [6] (by decide +kernel) (((hbf rfl).mo (by decide)).wI rfl) ((Q.mo (by decide)).wI rfl) ?_
              intro N hN
              rw [List.mem_singleton] at hN
              subst hN
              obtain ⟨n, n0, n1, n2, n3⟩ := (show pr_train σ1 (pS σ2 0) from h.2.S 0 6 (by omega))
              refine ⟨n, n0, ?_, ?_, fun j hj => ?_⟩
              · show τ1.1 7 0 12 = _
                rw [((hbf rfl) 7 0 12 rfl).1]
                exact n1
              · show τ3.1 12 0 29 = _
                rw [t1, (q2 12 0 29 rfl).1]
                exact n2
              · show τ1.1 811 0 j = τ3.1 1344 0 j
                rw [t2 j, (q2 1344 0 j rfl).1, ((hbf rfl) 811 0 j rfl).1]
                exact n3 j hj
          | true =>
            have nz := hb.mp rfl
            obtain ⟨u12, u811, uS, uo⟩ := hbt rfl
            obtain ⟨u10, uR⟩ := uS
            obtain ⟨u9, u8, -⟩ := uR nz
            obtain ⟨t1, t2⟩ := T3.2 nz
            obtain ⟨oo1, oo2, oo3⟩ := uo
            have okk := ok
            obtain ⟨⟨p1, p2⟩, ⟨w1, w2⟩, -⟩ := ok
            have C' : pw_C τ1 (6 * a' + i) w := by
              have qa5 := q1.a (r := pr_fC 4) (by decide +kernel)
              unfold pw_C at C ⊢
              rw [qa5.I (k := 10) (fun j => rfl), qa5.L (k := 10) (fun j => rfl), qa5.I (k := 1106) (fun j => rfl)]
              exact C
            have ob := pw_offBottom okk C' (b := E.2.1)
            have Q : qf tm_l (pS σ2 0) τ3 := (q2.mo (by decide)).tr q3
            have o1 : f_X12_of (Int32.ofInt m') (Int32.ofInt i) (Int32.ofInt 1) τ3 = some (Int32.ofInt (w 1)) := by
              have qa6 := Q.a (r := pr_fM 4) (by decide +kernel)
              have M3 : pw_M τ3 m' i w := by
                unfold pw_M at M ⊢
                rw [qa6.I (k := 1324) (fun j => rfl)]
                exact M
              exact (pm_o M3 (by omega) hi).2.1
            have mb : 1 * 1 ≤ E.2.1 * w 1 := Int.mul_le_mul (by omega) w1 (by omega) (by omega)
            have mb2 : E.2.1 * w 1 ≤ 40000 * 9999 := Int.mul_le_mul oo2.2 w2 (by omega) (by omega)
            obtain ⟨A, B, t3, t4⟩ := pf_tell (σ1 := τ1) (σ2 := τ3) (t := E.1 * 24) (b := E.2.1 * w 1) (by omega) (by omega) (by omega) (by omega)
            have u8' : (am_wL (am_wL τ1 11 0 1 A) 11 0 2 B).1 7 0 8 = Int32.ofInt E.2.2.1 := u8
            refine ⟨Int32.ofInt E.2.2.1, pT (am_wL (am_wL τ1 11 0 1 A) 11 0 2 B) 0, am_wL (am_wL τ3 12 0 2 A) 12 0 3 B, ?_, ?_, ?_, ?_⟩
            · simp (disch := omega) only [f_X11_train, f_X11_answer, em, e1, f1, u10, u9, ob, t3, u8', Option.bind_some, qi, ql, qI_lt, qI_le, qI_eq, qI_L, qI_ix, qL_lt, qL_eq, q_nat, q_cs, ← Int32.ofInt_add, ← Int32.ofInt_sub, ← Int32.ofInt_mul, ← Int32.ofInt_neg, ← Int64.ofInt_add, ← Int64.ofInt_sub, ← Int64.ofInt_mul, ← Int64.ofInt_neg, pL_I, q_mx, q_mn, q_ab, q_abL, q_mnL, q_nn0, q_nn1, q_rr, q_b1, q_b0, q_T, q_F, q_iT, q_iF, q_d, q_in, q_wi, q_hC, q_hM, pT_i, pU_i, pS_i, pS_j, pS_0, Sum.elim_inl, Sum.elim_inr, if_pos, if_neg]
            · simp (disch := omega) only [f_X12_train, e2, k3, f2, f3', o1, t4, Option.bind_some, qi, ql, qI_lt, qI_le, qI_eq, qI_L, qI_ix, qL_lt, qL_eq, q_nat, q_cs, ← Int32.ofInt_add, ← Int32.ofInt_sub, ← Int32.ofInt_mul, ← Int32.ofInt_neg, ← Int64.ofInt_add, ← Int64.ofInt_sub, ← Int64.ofInt_mul, ← Int64.ofInt_neg, pL_I, q_mx, q_mn, q_ab, q_abL, q_mnL, q_nn0, q_nn1, q_rr, q_b1, q_b0, q_T, q_F, q_iT, q_iF, q_d, q_in, q_wi, q_hC, q_hM, pT_i, pU_i, pS_i, pS_j, pS_0, Sum.elim_inl, Sum.elim_inr, if_pos, if_neg]
            · show Int32.ofInt 0 = τ3.1 12 0 0
              exact ((Q 12 0 0 rfl).1).symm
            · refine (h.2.S 0).st [(11, 0), (11, 1), (11, 2), (7, 0), (7, 1), (7, 2), (803, 999), (804, 999), (805, 999), (7, 8), (7, 9), (7, 10), (811, 999), (7, 12)] [(1377, 999), (12, 29), (1344, 999), (12, 2), (12, 3)] [0, 6] (by decide +kernel) ((((q1.mo (by decide)).wL rfl).wL rfl).wI rfl) (((Q.mo (by decide)).wL rfl).wL rfl) ?_
              intro N hN
              rcases (by simpa using hN : N = 0 ∨ N = 6) with rfl | rfl
              · exact ⟨rfl, rfl⟩
              · refine ⟨MM, by omega, u12, t1, fun j hj => ?_⟩
                show τ1.1 811 0 j = τ3.1 1344 0 j
                rw [u811 j (by omega), t2 j (by omega)]
    · refine pr_ro h (Int32.ofInt (-1)) 5 ?_ ?_
      · simp (disch := omega) only [f_X11_train, f_X11_none, em, e1, Option.bind_some, qi, ql, qI_lt, qI_le, qI_eq, qI_L, qI_ix, qL_lt, qL_eq, q_nat, q_cs, ← Int32.ofInt_add, ← Int32.ofInt_sub, ← Int32.ofInt_mul, ← Int32.ofInt_neg, ← Int64.ofInt_add, ← Int64.ofInt_sub, ← Int64.ofInt_mul, ← Int64.ofInt_neg, pL_I, q_mx, q_mn, q_ab, q_abL, q_mnL, q_nn0, q_nn1, q_rr, q_b1, q_b0, q_T, q_F, q_iT, q_iF, q_d, q_in, q_wi, q_hC, q_hM, pT_i, pU_i, pS_i, pS_j, pS_0, Sum.elim_inl, Sum.elim_inr, if_pos, if_neg]
      · simp (disch := omega) only [f_X12_train, f_X12_refuse, e2, Option.bind_some, qi, ql, qI_lt, qI_le, qI_eq, qI_L, qI_ix, qL_lt, qL_eq, q_nat, q_cs, ← Int32.ofInt_add, ← Int32.ofInt_sub, ← Int32.ofInt_mul, ← Int32.ofInt_neg, ← Int64.ofInt_add, ← Int64.ofInt_sub, ← Int64.ofInt_mul, ← Int64.ofInt_neg, pL_I, q_mx, q_mn, q_ab, q_abL, q_mnL, q_nn0, q_nn1, q_rr, q_b1, q_b0, q_T, q_F, q_iT, q_iF, q_d, q_in, q_wi, q_hC, q_hM, pT_i, pU_i, pS_i, pS_j, pS_0, Sum.elim_inl, Sum.elim_inr, if_pos, if_neg]
