/-! ===== SETTINGS: the rows of the class ===== -/
theorem st_n0 {β : Type} {n : Nat} {z : Option β} {f : Nat → Option β} {o : Option β} (k : z = o) : am_nn n none z f = o := k
/-- all but what lies at place r is as it was -/
def qo (r : Nat) (σ σ' : am_H) : Prop := ∀ k i j, i ≠ r → σ'.1 k i j = σ.1 k i j ∧ σ'.2.1 k i j = σ.2.1 k i j ∧ σ'.2.2 k i j = σ.2.2 k i j
theorem qo.rf {r : Nat} {σ : am_H} : qo r σ σ := fun _ _ _ _ => ⟨rfl, rfl, rfl⟩
theorem qo.tr {r : Nat} {σ σ1 σ2 : am_H} (h : qo r σ σ1) (h2 : qo r σ1 σ2) : qo r σ σ2 := fun k i j hl => ⟨(h2 k i j hl).1.trans (h k i j hl).1, (h2 k i j hl).2.1.trans (h k i j hl).2.1, (h2 k i j hl).2.2.trans (h k i j hl).2.2⟩
theorem qo.wI {σ σ1 : am_H} {k r j : Nat} {v : Int32} (h : qo r σ σ1) : qo r σ (am_wI σ1 k r j v) := fun a b c hl => ⟨by
  rw [am_wI_r, if_neg (fun z => hl z.2.1)]
  exact (h a b c hl).1, (h a b c hl).2.1, (h a b c hl).2.2⟩
theorem qo.wL {σ σ1 : am_H} {k r j : Nat} {v : Int64} (h : qo r σ σ1) : qo r σ (am_wL σ1 k r j v) := fun a b c hl => ⟨(h a b c hl).1, by
  rw [am_wL_r, if_neg (fun z => hl z.2.1)]
  exact (h a b c hl).2.1, (h a b c hl).2.2⟩
/-- column c at an HOUR -/
def sc (w1 w2 : Nat → Int) (h : Int) (c : Nat) : Int := if c = 0 then 1 else if c = 1 then pc_cos (pw_tg w1 h) else if c = 2 then pc_cos (pw_tg w1 h - 6) else if c = 3 then pc_cos (pw_tg w2 h) else pc_cos (pw_tg w2 h - 6)
theorem sc_b (w1 w2 : Nat → Int) (h : Int) (c : Nat) : -12 ≤ sc w1 w2 h c ∧ sc w1 w2 h c ≤ 12 := by
  unfold sc
  by_cases c0 : c = 0
  · rw [if_pos c0]
    omega
  rw [if_neg c0]
  by_cases c1 : c = 1
  · rw [if_pos c1]
    exact pc_b _
  rw [if_neg c1]
  by_cases c2 : c = 2
  · rw [if_pos c2]
    exact pc_b _
  rw [if_neg c2]
  by_cases c3 : c = 3
  · rw [if_pos c3]
    exact pc_b _
  rw [if_neg c3]
  exact pc_b _
theorem sa_1 {σ : am_H} {r v : Nat} {t : Int32} {X : Nat → Int} {G : Nat → Nat → Int} (hv : v < 5) (hX : ∀ c, c < 5 → σ.2.1 204 r c = Int64.ofInt (X c)) (hG : ∀ i k, i < 5 → k < 5 → σ.2.1 205 r (5 * i + k) = Int64.ofInt (G i k)) : ∃ τ : am_H, am_loop (fun s : Int32 × am_H => f_X1_addReading_126 r t (Int32.ofInt (v : Int)) s.1 s.2) (Int32.ofInt 0, σ) = some τ ∧ (qf [(205, 999)] σ τ ∧ qo r σ τ ∧ ∀ i k, i < 5 → k < 5 → τ.2.1 205 r (5 * i + k) = Int64.ofInt (G i k + if i = v then X i * X k else 0)) := by
  refine am_loop_1 (B := fun s : Int32 × am_H => f_X1_addReading_126 r t (Int32.ofInt (v : Int)) s.1 s.2) (fun n s => ∃ (c : Nat) (τ : am_H), s = (Int32.ofInt (c : Int), τ) ∧ c ≤ 5 ∧ qf [(205, 999)] σ τ ∧ qo r σ τ ∧ (∀ i k, i < 5 → k < 5 → τ.2.1 205 r (5 * i + k) = Int64.ofInt (G i k + if i = v ∧ k < c then X i * X k else 0)) ∧ n = 5 - c) (fun τ => qf [(205, 999)] σ τ ∧ qo r σ τ ∧ ∀ i k, i < 5 → k < 5 → τ.2.1 205 r (5 * i + k) = Int64.ofInt (G i k + if i = v then X i * X k else 0)) ?_ 5 _ ⟨0, σ, rfl, by omega, qf.rf, qo.rf, fun i k hi hk => ?_, rfl⟩
  · rintro n s ⟨c, τ, rfl, hc, hq, ho, hi, rfl⟩
    by_cases ce : c < 5
    · right
      have x1 : τ.2.1 204 r v = Int64.ofInt (X v) := ((hq 204 r v rfl).2.1).trans (hX v hv)
      have x2 : τ.2.1 204 r c = Int64.ofInt (X c) := ((hq 204 r c rfl).2.1).trans (hX c ce)
      have x3 : τ.2.1 205 r (5 * v + c) = Int64.ofInt (G v c) := by
        rw [hi v c hv ce, if_neg (by omega), Int.add_zero]
      have e5 : ((v : Int) * 5 + (c : Int)).toNat = 5 * v + c := by omega
      refine ⟨(Int32.ofInt ((c : Int) + 1), am_wL τ 205 r (5 * v + c) (Int64.ofInt (G v c + X v * X c))), 5 - (c + 1), ?_, by omega, c + 1, _, rfl, by omega, hq.wL rfl, ho.wL, fun i k hi' hk => ?_, rfl⟩
      · simp (disch := omega) only [f_X1_addReading_126, e5, x1, x2, x3, Option.bind_some, qi, ql, qI_lt, qI_le, qI_eq, qI_L, qI_ix, qL_lt, qL_eq, q_nat, q_cs, ← Int32.ofInt_add, ← Int32.ofInt_sub, ← Int32.ofInt_mul, ← Int32.ofInt_neg, ← Int64.ofInt_add, ← Int64.ofInt_sub, ← Int64.ofInt_mul, ← Int64.ofInt_neg, pL_I, q_mx, q_mn, q_ab, q_abL, q_mnL, q_nn0, q_nn1, q_rr, q_b1, q_b0, q_T, q_F, q_iT, q_iF, q_d, q_in, q_wi, q_hC, q_hM, pT_i, pU_i, pS_i, pS_j, pS_0, Sum.elim_inl, Sum.elim_inr, if_pos, if_neg]
      · rw [am_wL_r]
        by_cases e : i = v ∧ k = c
        · rw [if_pos ⟨rfl, rfl, by omega⟩, e.1, e.2, if_pos ⟨rfl, by omega⟩]
        · rw [if_neg (by omega), hi i k hi' hk]
          by_cases e2 : i = v ∧ k < c
          · rw [if_pos e2, if_pos (by omega)]
          · rw [if_neg e2, if_neg (by omega)]
    · left
      have c5 : c = 5 := by omega
      subst c5
      refine ⟨τ, ?_, hq, ho, fun i k hi' hk => ?_⟩
      · simp (disch := omega) only [f_X1_addReading_126, Option.bind_some, qi, ql, qI_lt, qI_le, qI_eq, qI_L, qI_ix, qL_lt, qL_eq, q_nat, q_cs, ← Int32.ofInt_add, ← Int32.ofInt_sub, ← Int32.ofInt_mul, ← Int32.ofInt_neg, ← Int64.ofInt_add, ← Int64.ofInt_sub, ← Int64.ofInt_mul, ← Int64.ofInt_neg, pL_I, q_mx, q_mn, q_ab, q_abL, q_mnL, q_nn0, q_nn1, q_rr, q_b1, q_b0, q_T, q_F, q_iT, q_iF, q_d, q_in, q_wi, q_hC, q_hM, pT_i, pU_i, pS_i, pS_j, pS_0, Sum.elim_inl, Sum.elim_inr, if_pos, if_neg]
      · rw [hi i k hi' hk]
        by_cases e : i = v
        · rw [if_pos ⟨e, hk⟩, if_pos e]
        · rw [if_neg (fun z => e z.1), if_neg e]
  · rw [hG i k hi hk, if_neg (by omega), Int.add_zero]
theorem sa_2 {σ : am_H} {r t : Nat} {X : Nat → Int} {y : Int} {G : Nat → Nat → Int} {R : Nat → Int} (ht : t < 24) (hy : -999 ≤ y ∧ y ≤ 1000) (e2 : σ.1 202 r t = Int32.ofInt y) (hX : ∀ c, c < 5 → σ.2.1 204 r c = Int64.ofInt (X c)) (hG : ∀ i k, i < 5 → k < 5 → σ.2.1 205 r (5 * i + k) = Int64.ofInt (G i k)) (hR : ∀ i, i < 5 → σ.2.1 206 r i = Int64.ofInt (R i)) : ∃ τ : am_H, am_loop (fun s : Int32 × am_H => f_X1_addReading_92 r (Int32.ofInt (t : Int)) s.1 s.2) (Int32.ofInt 0, σ) = some τ ∧ (qf [(205, 999), (206, 999)] σ τ ∧ qo r σ τ ∧ (∀ i k, i < 5 → k < 5 → τ.2.1 205 r (5 * i + k) = Int64.ofInt (G i k + X i * X k)) ∧ ∀ i, i < 5 → τ.2.1 206 r i = Int64.ofInt (R i + X i * y)) := by
  refine am_loop_1 (B := fun s : Int32 × am_H => f_X1_addReading_92 r (Int32.ofInt (t : Int)) s.1 s.2) (fun n s => ∃ (v : Nat) (τ : am_H), s = (Int32.ofInt (v : Int), τ) ∧ v ≤ 5 ∧ qf [(205, 999), (206, 999)] σ τ ∧ qo r σ τ ∧ (∀ i k, i < 5 → k < 5 → τ.2.1 205 r (5 * i + k) = Int64.ofInt (G i k + if i < v then X i * X k else 0)) ∧ (∀ i, i < 5 → τ.2.1 206 r i = Int64.ofInt (R i + if i < v then X i * y else 0)) ∧ n = 5 - v) (fun τ => qf [(205, 999), (206, 999)] σ τ ∧ qo r σ τ ∧ (∀ i k, i < 5 → k < 5 → τ.2.1 205 r (5 * i + k) = Int64.ofInt (G i k + X i * X k)) ∧ ∀ i, i < 5 → τ.2.1 206 r i = Int64.ofInt (R i + X i * y)) ?_ 5 _ ⟨0, σ, rfl, by omega, qf.rf, qo.rf, fun i k hi hk => ?_, fun i hi => ?_, rfl⟩
  · rintro n s ⟨v, τ, rfl, hc, hq, ho, hi, hr, rfl⟩
    by_cases ce : v < 5
    · right
      have x1 : τ.2.1 204 r v = Int64.ofInt (X v) := ((hq 204 r v rfl).2.1).trans (hX v ce)
      have x2 : τ.1 202 r t = Int32.ofInt y := ((hq 202 r t rfl).1).trans e2
      have x3 : τ.2.1 206 r v = Int64.ofInt (R v) := by
        rw [hr v ce, if_neg (by omega), Int.add_zero]
      obtain ⟨τ', l1, l2, l3, l4⟩ := sa_1 (σ := am_wL τ 206 r v (Int64.ofInt (R v + X v * y))) (r := r) (v := v) (t := Int32.ofInt (t : Int)) (X := X) (G := fun i k => G i k + if i < v then X i * X k else 0) ce (fun c hc => ((hq 204 r c rfl).2.1).trans (hX c hc)) (fun i k hi' hk => hi i k hi' hk)
      refine ⟨(Int32.ofInt ((v : Int) + 1), τ'), 5 - (v + 1), ?_, by omega, v + 1, τ', rfl, by omega, (hq.wL rfl).tr (l2.mo (by simp)), ho.wL.tr l3, fun i k hi' hk => ?_, fun i hi' => ?_, rfl⟩
      · simp (disch := omega) only [f_X1_addReading_92, x1, x2, x3, l1, Option.bind_some, qi, ql, qI_lt, qI_le, qI_eq, qI_L, qI_ix, qL_lt, qL_eq, q_nat, q_cs, ← Int32.ofInt_add, ← Int32.ofInt_sub, ← Int32.ofInt_mul, ← Int32.ofInt_neg, ← Int64.ofInt_add, ← Int64.ofInt_sub, ← Int64.ofInt_mul, ← Int64.ofInt_neg, pL_I, q_mx, q_mn, q_ab, q_abL, q_mnL, q_nn0, q_nn1, q_rr, q_b1, q_b0, q_T, q_F, q_iT, q_iF, q_d, q_in, q_wi, q_hC, q_hM, pT_i, pU_i, pS_i, pS_j, pS_0, Sum.elim_inl, Sum.elim_inr, if_pos, if_neg]
      · rw [l4 i k hi' hk]
        by_cases e : i = v
        · rw [if_pos e, if_neg (by omega), if_pos (by omega), Int.add_zero]
        · rw [if_neg e, Int.add_zero]
          by_cases e3 : i < v
          · rw [if_pos e3, if_pos (by omega)]
          · rw [if_neg e3, if_neg (by omega)]
      · rw [(l2 206 r i rfl).2.1, am_wL_r]
        by_cases e : i = v
        · rw [if_pos ⟨rfl, rfl, e⟩, if_pos (by omega), e]
        · rw [if_neg (by omega), hr i hi']
          by_cases e3 : i < v
          · rw [if_pos e3, if_pos (by omega)]
          · rw [if_neg e3, if_neg (by omega)]
    · left
      have c5 : v = 5 := by omega
      subst c5
      refine ⟨τ, ?_, hq, ho, fun i k hi' hk => ?_, fun i hi' => ?_⟩
      · simp (disch := omega) only [f_X1_addReading_92, Option.bind_some, qi, ql, qI_lt, qI_le, qI_eq, qI_L, qI_ix, qL_lt, qL_eq, q_nat, q_cs, ← Int32.ofInt_add, ← Int32.ofInt_sub, ← Int32.ofInt_mul, ← Int32.ofInt_neg, ← Int64.ofInt_add, ← Int64.ofInt_sub, ← Int64.ofInt_mul, ← Int64.ofInt_neg, pL_I, q_mx, q_mn, q_ab, q_abL, q_mnL, q_nn0, q_nn1, q_rr, q_b1, q_b0, q_T, q_F, q_iT, q_iF, q_d, q_in, q_wi, q_hC, q_hM, pT_i, pU_i, pS_i, pS_j, pS_0, Sum.elim_inl, Sum.elim_inr, if_pos, if_neg]
      · rw [hi i k hi' hk, if_pos hi']
      · rw [hr i hi', if_pos hi']
  · rw [hG i k hi hk, if_neg (by omega), Int.add_zero]
  · rw [hR i hi, if_neg (by omega), Int.add_zero]
theorem sa_3 {σ : am_H} {r t a b n : Nat} {hs rd : Nat → Int} {w1 w2 : Nat → Int} {G : Nat → Nat → Int} {R : Nat → Int} (ht : t < n) (hn : n ≤ 24) (C : pg_C σ r n hs rd) (hb : (0 ≤ hs t ∧ hs t ≤ 99999) ∧ (-999 ≤ rd t ∧ rd t ≤ 1000)) (o1 : pw_ok w1) (C1 : pw_C σ a w1) (o2 : pw_ok w2) (C2 : pw_C σ b w2) (hG : ∀ i k, i < 5 → k < 5 → σ.2.1 205 r (5 * i + k) = Int64.ofInt (G i k)) (hR : ∀ i, i < 5 → σ.2.1 206 r i = Int64.ofInt (R i)) : ∃ τ : am_H, f_X1_addReading r (Int32.ofInt (t : Int)) a b σ = some τ ∧ qf [(204, 999), (205, 999), (206, 999)] σ τ ∧ qo r σ τ ∧ (∀ i k, i < 5 → k < 5 → τ.2.1 205 r (5 * i + k) = Int64.ofInt (G i k + sc w1 w2 (hs t) i * sc w1 w2 (hs t) k)) ∧ ∀ i, i < 5 → τ.2.1 206 r i = Int64.ofInt (R i + sc w1 w2 (hs t) i * rd t) := by
  have h1 := hb.1.1
  have h2 : hs t ≤ 200000 := by omega
  have g1 := pw_trueGone o1 C1 h1 h2
  have g2 := pw_trueGone o2 C2 h1 h2
  have b1 := pw_tg_b o1 h1 h2
  have b2 := pw_tg_b o2 h1 h2
  have e1 := (C.2 t ht).1
  have z0 : (0 : Int).toNat = 0 := rfl
  have z1 : (1 : Int).toNat = 1 := rfl
  have z2 : (2 : Int).toNat = 2 := rfl
  have z3 : (3 : Int).toNat = 3 := rfl
  have z4 : (4 : Int).toNat = 4 := rfl
  have k1 := pc_b (pw_tg w1 (hs t))
  have k2 := pc_b (pw_tg w1 (hs t) - 6)
  have k3 := pc_b (pw_tg w2 (hs t))
  have k4 := pc_b (pw_tg w2 (hs t) - 6)
  obtain ⟨τ, l1, l2, l3, l4, l5⟩ := sa_2 (σ := am_wL (am_wL (am_wL (am_wL (am_wL σ 204 r 0 (Int64.ofInt 1)) 204 r 1 (Int64.ofInt (pc_cos (pw_tg w1 (hs t))))) 204 r 2 (Int64.ofInt (pc_cos (pw_tg w1 (hs t) - 6)))) 204 r 3 (Int64.ofInt (pc_cos (pw_tg w2 (hs t))))) 204 r 4 (Int64.ofInt (pc_cos (pw_tg w2 (hs t) - 6)))) (r := r) (t := t) (X := sc w1 w2 (hs t)) (y := rd t) (G := G) (R := R) (by omega) hb.2 (C.2 t ht).2 (fun c hc => by
    rcases (by omega : c = 0 ∨ c = 1 ∨ c = 2 ∨ c = 3 ∨ c = 4) with rfl | rfl | rfl | rfl | rfl <;> simp [am_wL, am_u3, sc]) hG hR
  refine ⟨τ, ?_, ((((((qf.rf.wL rfl).wL rfl).wL rfl).wL rfl).wL rfl).tr (l2.mo (by simp))), (qo.rf.wL.wL.wL.wL.wL.tr l3), l4, l5⟩
  simp (disch := omega) only [f_X1_addReading, e1, g1, g2, q_cos, z0, z1, z2, z3, z4, l1, Option.bind_some, qi, ql, qI_lt, qI_le, qI_eq, qI_L, qI_ix, qL_lt, qL_eq, q_nat, q_cs, ← Int32.ofInt_add, ← Int32.ofInt_sub, ← Int32.ofInt_mul, ← Int32.ofInt_neg, ← Int64.ofInt_add, ← Int64.ofInt_sub, ← Int64.ofInt_mul, ← Int64.ofInt_neg, pL_I, q_mx, q_mn, q_ab, q_abL, q_mnL, q_nn0, q_nn1, q_rr, q_b1, q_b0, q_T, q_F, q_iT, q_iF, q_d, q_in, q_wi, q_hC, q_hM, pT_i, pU_i, pS_i, pS_j, pS_0, Sum.elim_inl, Sum.elim_inr, if_pos, if_neg]
theorem sa_z1 {σ : am_H} {r a b : Nat} : ∃ τ : am_H, am_loop (fun s : Int32 × am_H => f_X1_partsWaves_16 r a b s.1 s.2) (Int32.ofInt 0, σ) = some τ ∧ (qf [(205, 999)] σ τ ∧ qo r σ τ ∧ ∀ j, j < 25 → τ.2.1 205 r j = Int64.ofInt 0) := by
  refine am_loop_1 (B := fun s : Int32 × am_H => f_X1_partsWaves_16 r a b s.1 s.2) (fun n s => ∃ (c : Nat) (τ : am_H), s = (Int32.ofInt (c : Int), τ) ∧ c ≤ 25 ∧ qf [(205, 999)] σ τ ∧ qo r σ τ ∧ (∀ j, j < c → τ.2.1 205 r j = Int64.ofInt 0) ∧ n = 25 - c) (fun τ => qf [(205, 999)] σ τ ∧ qo r σ τ ∧ ∀ j, j < 25 → τ.2.1 205 r j = Int64.ofInt 0) ?_ 25 _ ⟨0, σ, rfl, by omega, qf.rf, qo.rf, fun j hj => by omega, rfl⟩
  rintro n s ⟨c, τ, rfl, hc, hq, ho, hi, rfl⟩
  by_cases ce : c < 25
  · right
    refine ⟨(Int32.ofInt ((c : Int) + 1), am_wL τ 205 r c (Int64.ofInt 0)), 25 - (c + 1), ?_, by omega, c + 1, _, rfl, by omega, hq.wL rfl, ho.wL, fun j hj => ?_, rfl⟩
    · simp (disch := omega) only [f_X1_partsWaves_16, Option.bind_some, qi, ql, qI_lt, qI_le, qI_eq, qI_L, qI_ix, qL_lt, qL_eq, q_nat, q_cs, ← Int32.ofInt_add, ← Int32.ofInt_sub, ← Int32.ofInt_mul, ← Int32.ofInt_neg, ← Int64.ofInt_add, ← Int64.ofInt_sub, ← Int64.ofInt_mul, ← Int64.ofInt_neg, pL_I, q_mx, q_mn, q_ab, q_abL, q_mnL, q_nn0, q_nn1, q_rr, q_b1, q_b0, q_T, q_F, q_iT, q_iF, q_d, q_in, q_wi, q_hC, q_hM, pT_i, pU_i, pS_i, pS_j, pS_0, Sum.elim_inl, Sum.elim_inr, if_pos, if_neg]
    · rw [am_wL_r]
      by_cases e : j = c
      · rw [if_pos ⟨rfl, rfl, e⟩]
      · rw [if_neg (by omega), hi j (by omega)]
  · left
    have c5 : c = 25 := by omega
    subst c5
    refine ⟨τ, ?_, hq, ho, hi⟩
    simp (disch := omega) only [f_X1_partsWaves_16, Option.bind_some, qi, ql, qI_lt, qI_le, qI_eq, qI_L, qI_ix, qL_lt, qL_eq, q_nat, q_cs, ← Int32.ofInt_add, ← Int32.ofInt_sub, ← Int32.ofInt_mul, ← Int32.ofInt_neg, ← Int64.ofInt_add, ← Int64.ofInt_sub, ← Int64.ofInt_mul, ← Int64.ofInt_neg, pL_I, q_mx, q_mn, q_ab, q_abL, q_mnL, q_nn0, q_nn1, q_rr, q_b1, q_b0, q_T, q_F, q_iT, q_iF, q_d, q_in, q_wi, q_hC, q_hM, pT_i, pU_i, pS_i, pS_j, pS_0, Sum.elim_inl, Sum.elim_inr, if_pos, if_neg]
theorem sa_z2 {σ : am_H} {r a b : Nat} : ∃ τ : am_H, am_loop (fun s : Int32 × am_H => f_X1_partsWaves_40 r a b s.1 s.2) (Int32.ofInt 0, σ) = some τ ∧ (qf [(206, 999)] σ τ ∧ qo r σ τ ∧ ∀ j, j < 5 → τ.2.1 206 r j = Int64.ofInt 0) := by
  refine am_loop_1 (B := fun s : Int32 × am_H => f_X1_partsWaves_40 r a b s.1 s.2) (fun n s => ∃ (c : Nat) (τ : am_H), s = (Int32.ofInt (c : Int), τ) ∧ c ≤ 5 ∧ qf [(206, 999)] σ τ ∧ qo r σ τ ∧ (∀ j, j < c → τ.2.1 206 r j = Int64.ofInt 0) ∧ n = 5 - c) (fun τ => qf [(206, 999)] σ τ ∧ qo r σ τ ∧ ∀ j, j < 5 → τ.2.1 206 r j = Int64.ofInt 0) ?_ 5 _ ⟨0, σ, rfl, by omega, qf.rf, qo.rf, fun j hj => by omega, rfl⟩
  rintro n s ⟨c, τ, rfl, hc, hq, ho, hi, rfl⟩
  by_cases ce : c < 5
  · right
    refine ⟨(Int32.ofInt ((c : Int) + 1), am_wL τ 206 r c (Int64.ofInt 0)), 5 - (c + 1), ?_, by omega, c + 1, _, rfl, by omega, hq.wL rfl, ho.wL, fun j hj => ?_, rfl⟩
    · simp (disch := omega) only [f_X1_partsWaves_40, Option.bind_some, qi, ql, qI_lt, qI_le, qI_eq, qI_L, qI_ix, qL_lt, qL_eq, q_nat, q_cs, ← Int32.ofInt_add, ← Int32.ofInt_sub, ← Int32.ofInt_mul, ← Int32.ofInt_neg, ← Int64.ofInt_add, ← Int64.ofInt_sub, ← Int64.ofInt_mul, ← Int64.ofInt_neg, pL_I, q_mx, q_mn, q_ab, q_abL, q_mnL, q_nn0, q_nn1, q_rr, q_b1, q_b0, q_T, q_F, q_iT, q_iF, q_d, q_in, q_wi, q_hC, q_hM, pT_i, pU_i, pS_i, pS_j, pS_0, Sum.elim_inl, Sum.elim_inr, if_pos, if_neg]
    · rw [am_wL_r]
      by_cases e : j = c
      · rw [if_pos ⟨rfl, rfl, e⟩]
      · rw [if_neg (by omega), hi j (by omega)]
  · left
    have c5 : c = 5 := by omega
    subst c5
    refine ⟨τ, ?_, hq, ho, hi⟩
    simp (disch := omega) only [f_X1_partsWaves_40, Option.bind_some, qi, ql, qI_lt, qI_le, qI_eq, qI_L, qI_ix, qL_lt, qL_eq, q_nat, q_cs, ← Int32.ofInt_add, ← Int32.ofInt_sub, ← Int32.ofInt_mul, ← Int32.ofInt_neg, ← Int64.ofInt_add, ← Int64.ofInt_sub, ← Int64.ofInt_mul, ← Int64.ofInt_neg, pL_I, q_mx, q_mn, q_ab, q_abL, q_mnL, q_nn0, q_nn1, q_rr, q_b1, q_b0, q_T, q_F, q_iT, q_iF, q_d, q_in, q_wi, q_hC, q_hM, pT_i, pU_i, pS_i, pS_j, pS_0, Sum.elim_inl, Sum.elim_inr, if_pos, if_neg]
/-- column i of all READINGS, a GAP counts nothing -/
def sx (w1 w2 : Nat → Int) (hs rd : Nat → Int) (i t : Nat) : Int := if rd t = 1000 then 0 else sc w1 w2 (hs t) i
def sy (rd : Nat → Int) (t : Nat) : Int := if rd t = 1000 then 0 else rd t
theorem sx_s {w1 w2 : Nat → Int} {hs rd : Nat → Int} {i k t : Nat} (h : ¬ rd t = 1000) : gg (t + 1) (sx w1 w2 hs rd) i k = gg t (sx w1 w2 hs rd) i k + sc w1 w2 (hs t) i * sc w1 w2 (hs t) k ∧ ip (t + 1) (sx w1 w2 hs rd i) (sy rd) = ip t (sx w1 w2 hs rd i) (sy rd) + sc w1 w2 (hs t) i * rd t := by
  constructor
  · show gg t (sx w1 w2 hs rd) i k + sx w1 w2 hs rd i t * sx w1 w2 hs rd k t = _
    unfold sx
    rw [if_neg h, if_neg h]
  · show ip t (sx w1 w2 hs rd i) (sy rd) + sx w1 w2 hs rd i t * sy rd t = _
    unfold sx sy
    rw [if_neg h, if_neg h]
theorem sx_g {w1 w2 : Nat → Int} {hs rd : Nat → Int} {i k t : Nat} (h : rd t = 1000) : gg (t + 1) (sx w1 w2 hs rd) i k = gg t (sx w1 w2 hs rd) i k ∧ ip (t + 1) (sx w1 w2 hs rd i) (sy rd) = ip t (sx w1 w2 hs rd i) (sy rd) := by
  constructor
  · show gg t (sx w1 w2 hs rd) i k + sx w1 w2 hs rd i t * sx w1 w2 hs rd k t = _
    unfold sx
    rw [if_pos h, if_pos h]
    omega
  · show ip t (sx w1 w2 hs rd i) (sy rd) + sx w1 w2 hs rd i t * sy rd t = _
    unfold sx sy
    rw [if_pos h, if_pos h]
    omega
/-- the sums of the class -/
theorem sa_4 {σ : am_H} {r a b n : Nat} {hs rd : Nat → Int} {w1 w2 : Nat → Int} (hn : n ≤ 24) (C : pg_C σ r n hs rd) (hb : ∀ t, t < n → (0 ≤ hs t ∧ hs t ≤ 99999) ∧ (-999 ≤ rd t ∧ rd t ≤ 1000)) (o1 : pw_ok w1) (C1 : pw_C σ a w1) (o2 : pw_ok w2) (C2 : pw_C σ b w2) (hG : ∀ j, j < 25 → σ.2.1 205 r j = Int64.ofInt 0) (hR : ∀ i, i < 5 → σ.2.1 206 r i = Int64.ofInt 0) : ∃ τ : am_H, am_loop (fun s : Int32 × am_H => f_X1_partsWaves_63 r a b s.1 s.2) (Int32.ofInt 0, σ) = some τ ∧ (qf [(204, 999), (205, 999), (206, 999)] σ τ ∧ qo r σ τ ∧ (∀ i k, i < 5 → k < 5 → τ.2.1 205 r (5 * i + k) = Int64.ofInt (gg n (sx w1 w2 hs rd) i k)) ∧ ∀ i, i < 5 → τ.2.1 206 r i = Int64.ofInt (ip n (sx w1 w2 hs rd i) (sy rd))) := by
  refine am_loop_1 (B := fun s : Int32 × am_H => f_X1_partsWaves_63 r a b s.1 s.2) (fun q s => ∃ (t : Nat) (τ : am_H), s = (Int32.ofInt (t : Int), τ) ∧ t ≤ n ∧ qf [(204, 999), (205, 999), (206, 999)] σ τ ∧ qo r σ τ ∧ (∀ i k, i < 5 → k < 5 → τ.2.1 205 r (5 * i + k) = Int64.ofInt (gg t (sx w1 w2 hs rd) i k)) ∧ (∀ i, i < 5 → τ.2.1 206 r i = Int64.ofInt (ip t (sx w1 w2 hs rd i) (sy rd))) ∧ q = n - t) (fun τ => qf [(204, 999), (205, 999), (206, 999)] σ τ ∧ qo r σ τ ∧ (∀ i k, i < 5 → k < 5 → τ.2.1 205 r (5 * i + k) = Int64.ofInt (gg n (sx w1 w2 hs rd) i k)) ∧ ∀ i, i < 5 → τ.2.1 206 r i = Int64.ofInt (ip n (sx w1 w2 hs rd i) (sy rd))) ?_ n _ ⟨0, σ, rfl, by omega, qf.rf, qo.rf, fun i k hi hk => hG _ (by omega), fun i hi => hR i hi, rfl⟩
  rintro q s ⟨t, τ, rfl, hc, hq, ho, hi, hr, rfl⟩
  have n0 : τ.1 1 r 0 = Int32.ofInt n := ((hq 1 r 0 rfl).1).trans C.1
  by_cases ce : t < n
  · right
    have x2 : τ.1 202 r t = Int32.ofInt (rd t) := ((hq 202 r t rfl).1).trans (C.2 t ce).2
    have bb := hb t ce
    by_cases cg : rd t = 1000
    · have gp : f_X1_isGap r (Int32.ofInt (t : Int)) τ = some true := by
        simp (disch := omega) only [f_X1_isGap, x2, Option.bind_some, qi, ql, qI_lt, qI_le, qI_eq, qI_L, qI_ix, qL_lt, qL_eq, q_nat, q_cs, ← Int32.ofInt_add, ← Int32.ofInt_sub, ← Int32.ofInt_mul, ← Int32.ofInt_neg, ← Int64.ofInt_add, ← Int64.ofInt_sub, ← Int64.ofInt_mul, ← Int64.ofInt_neg, pL_I, q_mx, q_mn, q_ab, q_abL, q_mnL, q_nn0, q_nn1, q_rr, q_b1, q_b0, q_T, q_F, q_iT, q_iF, q_d, q_in, q_wi, q_hC, q_hM, pT_i, pU_i, pS_i, pS_j, pS_0, Sum.elim_inl, Sum.elim_inr, if_pos, if_neg]
      refine ⟨(Int32.ofInt ((t : Int) + 1), τ), n - (t + 1), ?_, by omega, t + 1, τ, rfl, by omega, hq, ho, fun i k hi' hk => ?_, fun i hi' => ?_, rfl⟩
      · simp (disch := omega) only [f_X1_partsWaves_63, n0, gp, Option.bind_some, qi, ql, qI_lt, qI_le, qI_eq, qI_L, qI_ix, qL_lt, qL_eq, q_nat, q_cs, ← Int32.ofInt_add, ← Int32.ofInt_sub, ← Int32.ofInt_mul, ← Int32.ofInt_neg, ← Int64.ofInt_add, ← Int64.ofInt_sub, ← Int64.ofInt_mul, ← Int64.ofInt_neg, pL_I, q_mx, q_mn, q_ab, q_abL, q_mnL, q_nn0, q_nn1, q_rr, q_b1, q_b0, q_T, q_F, q_iT, q_iF, q_d, q_in, q_wi, q_hC, q_hM, pT_i, pU_i, pS_i, pS_j, pS_0, Sum.elim_inl, Sum.elim_inr, if_pos, if_neg]
      · rw [(sx_g (w1 := w1) (w2 := w2) (hs := hs) (i := i) (k := k) cg).1]
        exact hi i k hi' hk
      · rw [(sx_g (w1 := w1) (w2 := w2) (hs := hs) (i := i) (k := i) cg).2]
        exact hr i hi'
    · have gp : f_X1_isGap r (Int32.ofInt (t : Int)) τ = some false := by
        simp (disch := omega) only [f_X1_isGap, x2, Option.bind_some, qi, ql, qI_lt, qI_le, qI_eq, qI_L, qI_ix, qL_lt, qL_eq, q_nat, q_cs, ← Int32.ofInt_add, ← Int32.ofInt_sub, ← Int32.ofInt_mul, ← Int32.ofInt_neg, ← Int64.ofInt_add, ← Int64.ofInt_sub, ← Int64.ofInt_mul, ← Int64.ofInt_neg, pL_I, q_mx, q_mn, q_ab, q_abL, q_mnL, q_nn0, q_nn1, q_rr, q_b1, q_b0, q_T, q_F, q_iT, q_iF, q_d, q_in, q_wi, q_hC, q_hM, pT_i, pU_i, pS_i, pS_j, pS_0, Sum.elim_inl, Sum.elim_inr, if_pos, if_neg]
      have P : pg_C τ r n hs rd := ⟨n0, fun j hj => ⟨((hq 201 r j rfl).1).trans (C.2 j hj).1, ((hq 202 r j rfl).1).trans (C.2 j hj).2⟩⟩
      have qI10 : ∀ i, τ.1 10 i = σ.1 10 i := fun i => funext fun j => (hq 10 i j rfl).1
      have qL10 : ∀ i, τ.2.1 10 i = σ.2.1 10 i := fun i => funext fun j => (hq 10 i j rfl).2.1
      have q1106 : ∀ i, τ.1 1106 i = σ.1 1106 i := fun i => funext fun j => (hq 1106 i j rfl).1
      have P1 : pw_C τ a w1 := by
        unfold pw_C at C1 ⊢
        rw [qI10, qL10, q1106]
        exact C1
      have P2 : pw_C τ b w2 := by
        unfold pw_C at C2 ⊢
        rw [qI10, qL10, q1106]
        exact C2
      obtain ⟨τ', l1, l2, l3, l4, l5⟩ := sa_3 (t := t) (G := gg t (sx w1 w2 hs rd)) (R := fun i => ip t (sx w1 w2 hs rd i) (sy rd)) ce hn P bb o1 P1 o2 P2 hi hr
      refine ⟨(Int32.ofInt ((t : Int) + 1), τ'), n - (t + 1), ?_, by omega, t + 1, τ', rfl, by omega, hq.tr l2, ho.tr l3, fun i k hi' hk => ?_, fun i hi' => ?_, rfl⟩
      · simp (disch := omega) only [f_X1_partsWaves_63, n0, gp, l1, Option.bind_some, qi, ql, qI_lt, qI_le, qI_eq, qI_L, qI_ix, qL_lt, qL_eq, q_nat, q_cs, ← Int32.ofInt_add, ← Int32.ofInt_sub, ← Int32.ofInt_mul, ← Int32.ofInt_neg, ← Int64.ofInt_add, ← Int64.ofInt_sub, ← Int64.ofInt_mul, ← Int64.ofInt_neg, pL_I, q_mx, q_mn, q_ab, q_abL, q_mnL, q_nn0, q_nn1, q_rr, q_b1, q_b0, q_T, q_F, q_iT, q_iF, q_d, q_in, q_wi, q_hC, q_hM, pT_i, pU_i, pS_i, pS_j, pS_0, Sum.elim_inl, Sum.elim_inr, if_pos, if_neg]
      · rw [(sx_s (w1 := w1) (w2 := w2) (hs := hs) (i := i) (k := k) cg).1]
        exact l4 i k hi' hk
      · rw [(sx_s (w1 := w1) (w2 := w2) (hs := hs) (i := i) (k := i) cg).2]
        exact l5 i hi'
  · left
    have c5 : t = n := by omega
    subst c5
    refine ⟨τ, ?_, hq, ho, hi, hr⟩
    simp (disch := omega) only [f_X1_partsWaves_63, n0, Option.bind_some, qi, ql, qI_lt, qI_le, qI_eq, qI_L, qI_ix, qL_lt, qL_eq, q_nat, q_cs, ← Int32.ofInt_add, ← Int32.ofInt_sub, ← Int32.ofInt_mul, ← Int32.ofInt_neg, ← Int64.ofInt_add, ← Int64.ofInt_sub, ← Int64.ofInt_mul, ← Int64.ofInt_neg, pL_I, q_mx, q_mn, q_ab, q_abL, q_mnL, q_nn0, q_nn1, q_rr, q_b1, q_b0, q_T, q_F, q_iT, q_iF, q_d, q_in, q_wi, q_hC, q_hM, pT_i, pU_i, pS_i, pS_j, pS_0, Sum.elim_inl, Sum.elim_inr, if_pos, if_neg]
