/-- the box, the wave and the number of wheels stand in the class -/
def tn_B (σ : am_H) (a rw kc M : Nat) (w kt : Nat → Int) : Prop := σ.2.2 7 0 0 = some a ∧ σ.2.2 7 0 1 = some rw ∧ pw_C σ rw w ∧ σ.1 3 a 4 = Int32.ofInt kc ∧ (∀ x, x < kc → σ.1 403 a x = Int32.ofInt (kt x)) ∧ σ.1 7 0 2 = Int32.ofInt M
theorem tn_Bq {σ τ : am_H} {a rw kc M : Nat} {w kt : Nat → Int} (q : qf tn_l σ τ) (B : tn_B σ a rw kc M w kt) : tn_B τ a rw kc M w kt := by
  obtain ⟨b1, b2, b3, b4, b5, b6⟩ := B
  have qa4 := q.a (r := pr_fC 4) (by decide +kernel)
  refine ⟨by rw [(q 7 0 0 rfl).2.2]; exact b1, by rw [(q 7 0 1 rfl).2.2]; exact b2, ?_, by rw [(q 3 a 4 rfl).1]; exact b4, fun x hx => by rw [(q 403 a x rfl).1]; exact b5 x hx, by rw [(q 7 0 2 rfl).1]; exact b6⟩
  unfold pw_C at b3 ⊢
  rw [qa4.I (k := 10) (fun j => rfl), qa4.L (k := 10) (fun j => rfl), qa4.I (k := 1106) (fun j => rfl)]
  exact b3
theorem tn_leaf_c {w kw kt : Nat → Int} {M : Nat} (hM : M = 2 ∨ M = 4) : ∀ p q : Nat → Nat, (∀ j, j < M → p j = q j) → ∀ s, tn_leaf w kw kt M p s = tn_leaf w kw kt M q s := by
  intro p q h s
  have e0 := h 0 (by omega)
  have e1 := h 1 (by omega)
  have en : en_ok kw p M ↔ en_ok kw q M := by
    unfold en_ok
    constructor
    · intro z k hk
      have := z k hk
      rw [h k hk, en_nc h] at this
      exact this
    · intro z k hk
      have := z k hk
      rw [← h k hk, ← en_nc h] at this
      exact this
  have d1 : tn_dr kt M p = tn_dr kt M q := by
    unfold tn_dr
    rcases hM with rfl | rfl
    · rw [if_neg (by omega), if_neg (by omega), e0]
    · rw [if_pos rfl, if_pos rfl, e0, h 2 (by omega)]
  have d2 : tn_dn kt M p = tn_dn kt M q := by
    unfold tn_dn
    rcases hM with rfl | rfl
    · rw [if_neg (by omega), if_neg (by omega), e1]
    · rw [if_pos rfl, if_pos rfl, e1, h 3 (by omega)]
  have d3 : tn_te kt M p = tn_te kt M q := by
    unfold tn_te
    rcases hM with rfl | rfl
    · rw [if_neg (by omega), if_neg (by omega), e0, e1]
    · rw [if_pos rfl, if_pos rfl, e0, e1, h 2 (by omega), h 3 (by omega)]
  have d4 : (fun j => if j < M then kt (p j) else 0) = (fun j => if j < M then kt (q j) else 0) := funext fun j => by
    by_cases c : j < M
    · rw [if_pos c, if_pos c, h j c]
    · rw [if_neg c, if_neg c]
  unfold tn_leaf tn_w
  rw [d1, d2, d3, d4]
  by_cases c : en_ok kw p M
  · rw [if_pos c, if_pos (en.mp c)]
  · rw [if_neg c, if_neg (fun z => c (en.mpr z))]
theorem tn_leaf_bad {w kw kt : Nat → Int} {M : Nat} : ∀ p, ¬ en_ok kw p M → ∀ s, tn_leaf w kw kt M p s = s := fun p h s => if_neg h
theorem tn_try {a rw kc M : Nat} {w kw kt : Nat → Int} (ha : a < 3) (hrw : rw < 18) (ok : pw_ok w) (K : tn_K kc kw kt) (hM : M = 2 ∨ M = 4) : ∀ (r k d : Nat) (σ : am_H) (p : Nat → Nat) (st : Int × Int × Int × (Nat → Int)), k + r = M → r < d → tn_B σ a rw kc M w kt → (∀ x, x < kc → σ.1 803 0 x = Int32.ofInt (kw x - en_n p k x) ∧ (en_n p k x : Int) ≤ kw x) → (∀ j, j < k → σ.1 804 0 j = Int32.ofInt (kt (p j)) ∧ p j < kc) → tn_S σ M st → tn_ok M st → ∃ τ : am_H, f_X7_tryWheel d (Int32.ofInt k) σ = some τ ∧ qf tn_l σ τ ∧ (∀ x, x < kc → τ.1 803 0 x = σ.1 803 0 x) ∧ (∀ j, j < k → τ.1 804 0 j = σ.1 804 0 j) ∧ tn_S τ M (en_F (tn_leaf w kw kt M) kc r k p st) ∧ tn_ok M (en_F (tn_leaf w kw kt M) kc r k p st) := by
  intro r
  induction r with
  | zero =>
    intro k d σ p st hk hd B hl ht S so
    obtain ⟨d, rfl⟩ : ∃ d', d = d' + 1 := ⟨d - 1, by omega⟩
    have hkM : k = M := by omega
    subst hkM
    obtain ⟨τ, f, q, S', h3⟩ := tn_weigh (st := st) hrw ok B.2.2.1 K hM (fun j hj => (ht j hj).2) B.2.2.2.2.2 B.2.1 (fun j hj => (ht j hj).1) S so
    have eok : en_ok kw p k := fun j hj => (hl (p j) (ht j hj).2).2
    have eF : en_F (tn_leaf w kw kt k) kc 0 k p st = tn_w w kt k p st := if_pos eok
    rw [eF]
    refine ⟨τ, ?_, q, fun x _ => (h3 x).1, fun j _ => (h3 j).2, S', tn_wok ok K hM (fun j hj => (ht j hj).2) so⟩
    have b6 := B.2.2.2.2.2
    show f_X7_tryWheel_0 (f_X7_tryWheel d) (Int32.ofInt k) σ = some τ
    simp (disch := omega) only [f_X7_tryWheel_0, f_X7_tryWheel_13, b6, f, Option.bind_some, qi, ql, qI_lt, qI_le, qI_eq, qI_L, qI_ix, qL_lt, qL_eq, q_nat, q_cs, ← Int32.ofInt_add, ← Int32.ofInt_sub, ← Int32.ofInt_mul, ← Int32.ofInt_neg, ← Int64.ofInt_add, ← Int64.ofInt_sub, ← Int64.ofInt_mul, ← Int64.ofInt_neg, pL_I, q_mx, q_mn, q_ab, q_abL, q_mnL, q_nn0, q_nn1, q_rr, q_b1, q_b0, q_T, q_F, q_iT, q_iF, q_d, q_in, q_wi, q_hC, q_hM, pT_i, pU_i, pS_i, pS_j, pS_0, Sum.elim_inl, Sum.elim_inr, if_pos, if_neg]
  | succ r ih =>
    intro k d σ p st hk hd B hl ht S so
    obtain ⟨d, rfl⟩ : ∃ d', d = d' + 1 := ⟨d - 1, by omega⟩
    obtain ⟨K1, K2⟩ := K
    have key : ∃ τ : am_H, am_loop (fun s : Int32 × am_H => f_X7_tryWheel_20 (f_X7_tryWheel d) (Int32.ofInt k) s.1 s.2) (Int32.ofInt 0, σ) = some τ ∧ qf tn_l σ τ ∧ (∀ x, x < kc → τ.1 803 0 x = σ.1 803 0 x) ∧ (∀ j, j < k → τ.1 804 0 j = σ.1 804 0 j) ∧ tn_S τ M (en_F (tn_leaf w kw kt M) kc (r + 1) k p st) ∧ tn_ok M (en_F (tn_leaf w kw kt M) kc (r + 1) k p st) := by
      refine am_loop_1 (B := fun s : Int32 × am_H => f_X7_tryWheel_20 (f_X7_tryWheel d) (Int32.ofInt k) s.1 s.2) (fun N s => ∃ (x : Nat) (ρ : am_H), s = (Int32.ofInt x, ρ) ∧ x ≤ kc ∧ qf tn_l σ ρ ∧ (∀ x, x < kc → ρ.1 803 0 x = σ.1 803 0 x) ∧ (∀ j, j < k → ρ.1 804 0 j = σ.1 804 0 j) ∧ tn_S ρ M (en_fo (fun a => en_F (tn_leaf w kw kt M) kc r (k + 1) (en_u p k a)) x st) ∧ tn_ok M (en_fo (fun a => en_F (tn_leaf w kw kt M) kc r (k + 1) (en_u p k a)) x st) ∧ N = kc - x) _ ?_ kc (Int32.ofInt 0, σ) ⟨0, σ, rfl, by omega, qf.rf, fun x _ => rfl, fun j _ => rfl, S, so, rfl⟩
      rintro N s ⟨x, ρ, rfl, hx, q, h3, h4, S', so', rfl⟩
      obtain ⟨b1, b2, b3, b4, b5, b6⟩ := tn_Bq q B
      have rr : am_rr 3 (ρ.2.2 7 0 0) = some a := by rw [b1]; exact q_rr ha
      by_cases ce : x < kc
      · right
        obtain ⟨l1, l2⟩ := hl x ce
        have l1' : ρ.1 803 0 x = Int32.ofInt (kw x - en_n p k x) := by rw [h3 x ce]; exact l1
        have kx := K2 x ce
        have nx := en_nb (p := p) (m := k) (x := x)
        by_cases cl : 0 < kw x - en_n p k x
        · have Q1 : qf tn_l σ (am_wI (am_wI ρ 803 0 x (Int32.ofInt (kw x - en_n p k x - 1))) 804 0 k (Int32.ofInt (kt x))) := (q.wI rfl).wI rfl
          obtain ⟨π, f, q2, g3, g4, g5, g6⟩ := ih (k + 1) d (am_wI (am_wI ρ 803 0 x (Int32.ofInt (kw x - en_n p k x - 1))) 804 0 k (Int32.ofInt (kt x))) (en_u p k x) (en_fo (fun a => en_F (tn_leaf w kw kt M) kc r (k + 1) (en_u p k a)) x st) (by omega) (by omega) (tn_Bq Q1 B) (fun y hy => by
            have e1 : en_n (en_u p k x) (k + 1) y = en_n p k y + (if x = y then 1 else 0) := by
              show en_n (en_u p k x) k y + (if en_u p k x k = y then 1 else 0) = _
              rw [en_uk, en_nc (q := p) (fun j hj => en_un (by omega))]
            obtain ⟨m1, m2⟩ := hl y hy
            rw [e1]
            by_cases cy : y = x
            · subst cy
              rw [if_pos rfl]
              refine ⟨?_, by omega⟩
              rw [am_wI_r, if_neg (by omega), am_wI_r, if_pos ⟨rfl, rfl, rfl⟩]
              rw [show kw y - ((en_n p k y + 1 : Nat) : Int) = kw y - en_n p k y - 1 by omega]
            · rw [if_neg (fun e => cy e.symm), Nat.add_zero]
              refine ⟨?_, m2⟩
              rw [am_wI_r, if_neg (by omega), am_wI_r, if_neg (by omega), h3 y hy]
              exact m1) (fun j hj => by
            by_cases cj : j = k
            · subst cj
              refine ⟨?_, by rw [en_uk]; exact ce⟩
              rw [am_wI_r, if_pos ⟨rfl, rfl, rfl⟩, en_uk]
            · rw [en_un cj]
              refine ⟨?_, (ht j (by omega)).2⟩
              rw [am_wI_r, if_neg (by omega), am_wI_r, if_neg (by omega), h4 j (by omega)]
              exact (ht j (by omega)).1) ⟨S'.1, S'.2⟩ so'
          have f' : f_X7_tryWheel d (Int32.ofInt ((k : Int) + 1)) (am_wI (am_wI ρ 803 0 x (Int32.ofInt (kw x - en_n p k x - 1))) 804 0 k (Int32.ofInt (kt x))) = some π := f
          have c403 : (am_wI ρ 803 0 x (Int32.ofInt (kw x - en_n p k x - 1))).1 403 a x = Int32.ofInt (kt x) := b5 x ce
          have rr2 : am_rr 3 ((am_wI ρ 803 0 x (Int32.ofInt (kw x - en_n p k x - 1))).2.2 7 0 0) = some a := rr
          have p803 : π.1 803 0 x = Int32.ofInt (kw x - en_n p k x - 1) := by
            rw [g3 x ce, am_wI_r, if_neg (by omega), am_wI_r, if_pos ⟨rfl, rfl, rfl⟩]
          refine ⟨(Int32.ofInt ((x : Int) + 1), am_wI π 803 0 x (Int32.ofInt (kw x - en_n p k x - 1 + 1))), kc - (x + 1), ?_, by omega, x + 1, _, rfl, by omega, (Q1.tr q2).wI rfl, fun y hy => ?_, fun j hj => ?_, ⟨g5.1, g5.2⟩, g6, rfl⟩
          · simp (disch := omega) only [f_X7_tryWheel_20, rr, b4, l1', rr2, c403, f', p803, Option.bind_some, qi, ql, qI_lt, qI_le, qI_eq, qI_L, qI_ix, qL_lt, qL_eq, q_nat, q_cs, ← Int32.ofInt_add, ← Int32.ofInt_sub, ← Int32.ofInt_mul, ← Int32.ofInt_neg, ← Int64.ofInt_add, ← Int64.ofInt_sub, ← Int64.ofInt_mul, ← Int64.ofInt_neg, pL_I, q_mx, q_mn, q_ab, q_abL, q_mnL, q_nn0, q_nn1, q_rr, q_b1, q_b0, q_T, q_F, q_iT, q_iF, q_d, q_in, q_wi, q_hC, q_hM, pT_i, pU_i, pS_i, pS_j, pS_0, Sum.elim_inl, Sum.elim_inr, if_pos, if_neg]
          · rw [am_wI_r]
            by_cases cy : y = x
            · subst cy
              rw [if_pos ⟨rfl, rfl, rfl⟩, l1, show kw y - (en_n p k y : Int) - 1 + 1 = kw y - en_n p k y by omega]
            · rw [if_neg (by omega), g3 y hy, am_wI_r, if_neg (by omega), am_wI_r, if_neg (by omega)]
              exact h3 y hy
          · rw [am_wI_r, if_neg (by omega), g4 j (by omega), am_wI_r, if_neg (by omega), am_wI_r, if_neg (by omega)]
            exact h4 j hj
        · have eid : ∀ s, en_F (tn_leaf w kw kt M) kc r (k + 1) (en_u p k x) s = s := fun s => en_bad (kw := kw) tn_leaf_bad (x := x) kx.1.1 r (k + 1) (en_u p k x) s (by omega) (by
            show kw x < ((en_n (en_u p k x) k x + (if en_u p k x k = x then 1 else 0) : Nat) : Int)
            rw [en_uk, if_pos rfl, en_nc (q := p) (fun j hj => en_un (by omega))]
            omega)
          have efo : en_fo (fun a => en_F (tn_leaf w kw kt M) kc r (k + 1) (en_u p k a)) (x + 1) st = en_fo (fun a => en_F (tn_leaf w kw kt M) kc r (k + 1) (en_u p k a)) x st := eid _
          refine ⟨(Int32.ofInt ((x : Int) + 1), ρ), kc - (x + 1), ?_, by omega, x + 1, ρ, rfl, by omega, q, h3, h4, by rw [efo]; exact S', by rw [efo]; exact so', rfl⟩
          simp (disch := omega) only [f_X7_tryWheel_20, rr, b4, l1', Option.bind_some, qi, ql, qI_lt, qI_le, qI_eq, qI_L, qI_ix, qL_lt, qL_eq, q_nat, q_cs, ← Int32.ofInt_add, ← Int32.ofInt_sub, ← Int32.ofInt_mul, ← Int32.ofInt_neg, ← Int64.ofInt_add, ← Int64.ofInt_sub, ← Int64.ofInt_mul, ← Int64.ofInt_neg, pL_I, q_mx, q_mn, q_ab, q_abL, q_mnL, q_nn0, q_nn1, q_rr, q_b1, q_b0, q_T, q_F, q_iT, q_iF, q_d, q_in, q_wi, q_hC, q_hM, pT_i, pU_i, pS_i, pS_j, pS_0, Sum.elim_inl, Sum.elim_inr, if_pos, if_neg]
      · left
        have : x = kc := by omega
        subst this
        refine ⟨ρ, ?_, q, h3, h4, S', so'⟩
        simp (disch := omega) only [f_X7_tryWheel_20, rr, b4, Option.bind_some, qi, ql, qI_lt, qI_le, qI_eq, qI_L, qI_ix, qL_lt, qL_eq, q_nat, q_cs, ← Int32.ofInt_add, ← Int32.ofInt_sub, ← Int32.ofInt_mul, ← Int32.ofInt_neg, ← Int64.ofInt_add, ← Int64.ofInt_sub, ← Int64.ofInt_mul, ← Int64.ofInt_neg, pL_I, q_mx, q_mn, q_ab, q_abL, q_mnL, q_nn0, q_nn1, q_rr, q_b1, q_b0, q_T, q_F, q_iT, q_iF, q_d, q_in, q_wi, q_hC, q_hM, pT_i, pU_i, pS_i, pS_j, pS_0, Sum.elim_inl, Sum.elim_inr, if_pos, if_neg]
    obtain ⟨τ, lp, rest⟩ := key
    refine ⟨τ, ?_, rest⟩
    have b6 := B.2.2.2.2.2
    show f_X7_tryWheel_0 (f_X7_tryWheel d) (Int32.ofInt k) σ = some τ
    simp (disch := omega) only [f_X7_tryWheel_0, b6, lp, Option.bind_some, qi, ql, qI_lt, qI_le, qI_eq, qI_L, qI_ix, qL_lt, qL_eq, q_nat, q_cs, ← Int32.ofInt_add, ← Int32.ofInt_sub, ← Int32.ofInt_mul, ← Int32.ofInt_neg, ← Int64.ofInt_add, ← Int64.ofInt_sub, ← Int64.ofInt_mul, ← Int64.ofInt_neg, pL_I, q_mx, q_mn, q_ab, q_abL, q_mnL, q_nn0, q_nn1, q_rr, q_b1, q_b0, q_T, q_F, q_iT, q_iF, q_d, q_in, q_wi, q_hC, q_hM, pT_i, pU_i, pS_i, pS_j, pS_0, Sum.elim_inl, Sum.elim_inr, if_pos, if_neg]
