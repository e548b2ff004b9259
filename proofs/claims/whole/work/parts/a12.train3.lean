theorem ps_mono {f g : Nat → Int} {n : Nat} (h : ∀ x, x < n → f x ≤ g x) : ps_sum f n ≤ ps_sum g n := by
  induction n with
  | zero => exact Int.le_refl _
  | succ n ih =>
    have h1 := ih (fun x hx => h x (by omega))
    have h2 := h n (by omega)
    show ps_sum f n + f n ≤ ps_sum g n + g n
    omega
theorem en_sum {p : Nat → Nat} {c m : Nat} (hp : ∀ j, j < m → p j < c) : ps_sum (fun x => ((en_n p m x : Nat) : Int)) c = m := by
  induction m with
  | zero =>
    have : ps_sum (fun x => ((en_n p 0 x : Nat) : Int)) c = ps_sum (fun _ => 0) c := ps_congr (fun j hj => rfl)
    rw [this]
    clear this hp
    induction c with
    | zero => rfl
    | succ c ih =>
      show ps_sum (fun _ => 0) c + 0 = _
      rw [ih]
      rfl
  | succ m ih =>
    have ih := ih (fun j hj => hp j (by omega))
    have u := ps_upd (f := fun x => ((en_n p m x : Nat) : Int)) (A := ((en_n p m (p m) : Nat) : Int) + 1) (hp m (by omega))
    have e : ps_sum (fun x => ((en_n p (m + 1) x : Nat) : Int)) c = ps_sum (fun i => if i = p m then ((en_n p m (p m) : Nat) : Int) + 1 else ((en_n p m i : Nat) : Int)) c := ps_congr (fun x hx => by
      show ((en_n p m x + (if p m = x then 1 else 0) : Nat) : Int) = _
      by_cases c : x = p m
      · rw [if_pos c, if_pos c.symm, c]
        rfl
      · rw [if_neg c, if_neg (fun z => c z.symm)]
        rfl)
    rw [e, u, ih]
    omega
/-- fewer wheels than that: none will do -/
theorem en_none {kw : Nat → Int} {c M : Nat} (hk : ∀ x, x < c → 0 ≤ kw x) (h : ps_sum kw c < M) {p : Nat → Nat} (hp : ∀ j, j < M → p j < c) : ¬ en_ok kw p M := by
  intro ok
  have e := en_sum hp
  have m := ps_mono (f := fun x => ((en_n p M x : Nat) : Int)) (g := kw) (n := c) (fun x hx => by
    by_cases hx2 : ∃ j, j < M ∧ p j = x
    · obtain ⟨j, hj, e⟩ := hx2
      have := ok j hj
      rw [e] at this
      exact this
    · have e0 : en_n p M x = 0 := en_n0 (fun j hj e => hx2 ⟨j, hj, e⟩)
      show ((en_n p M x : Nat) : Int) ≤ kw x
      rw [e0]
      exact hk x hx)
  omega
theorem en_some {kw : Nat → Int} {c : Nat} (hk : ∀ x, x < c → 0 ≤ kw x) : ∀ m : Nat, (m : Int) ≤ ps_sum kw c → ∃ p : Nat → Nat, (∀ j, j < m → p j < c) ∧ ∀ x, x < c → ((en_n p m x : Nat) : Int) ≤ kw x := by
  intro m
  induction m with
  | zero => exact fun _ => ⟨fun _ => 0, fun j hj => by omega, fun x hx => hk x hx⟩
  | succ m ih =>
    intro h
    obtain ⟨p, hp, hx⟩ := ih (by omega)
    have e := en_sum hp
    have : ∃ x, x < c ∧ ((en_n p m x : Nat) : Int) < kw x := by
      apply Classical.byContradiction
      intro hn
      have := ps_mono (f := kw) (g := fun x => ((en_n p m x : Nat) : Int)) (n := c) (fun x hx => by
        apply Classical.byContradiction
        intro hlt
        exact hn ⟨x, hx, by omega⟩)
      omega
    obtain ⟨y, hy, hlt⟩ := this
    refine ⟨en_u p m y, fun j hj => ?_, fun x hx' => ?_⟩
    · by_cases cj : j = m
      · rw [cj, en_uk]; exact hy
      · rw [en_un cj]; exact hp j (by omega)
    · show ((en_n (en_u p m y) m x + (if en_u p m y m = x then 1 else 0) : Nat) : Int) ≤ kw x
      rw [en_uk, en_nc (q := p) (fun j hj => en_un (by omega))]
      have := hx x hx'
      by_cases cx : y = x
      · subst cx
        rw [if_pos rfl]
        omega
      · rw [if_neg cx]
        omega
theorem tn_id {w kw kt : Nat → Int} {kc M : Nat} (h : ∀ p : Nat → Nat, (∀ j, j < M → p j < kc) → ¬ en_ok kw p M) : ∀ (r k : Nat) (p : Nat → Nat) (st : Int × Int × Int × (Nat → Int)), k + r = M → (∀ j, j < k → p j < kc) → en_F (tn_leaf w kw kt M) kc r k p st = st := by
  intro r
  induction r with
  | zero =>
    intro k p st hk hp
    exact tn_leaf_bad p (h p (fun j hj => hp j (by omega))) st
  | succ r ih =>
    intro k p st hk hp
    refine en_fo_id (fun a ha s => ih (k + 1) _ s (by omega) (fun j hj => ?_))
    by_cases cj : j = k
    · rw [cj, en_uk]; exact ha
    · rw [en_un cj]; exact hp j (by omega)
theorem tn_nz1 {w kw kt : Nat → Int} {kc M : Nat} (K : tn_K kc kw kt) (hM : M = 2 ∨ M = 4) {p : Nat → Nat} (hp : ∀ j, j < M → p j < kc) {st : Int × Int × Int × (Nat → Int)} (h : st.2.1 ≠ 0 ∨ en_ok kw p M) : (tn_leaf w kw kt M p st).2.1 ≠ 0 := by
  have b := tn_pb K hM hp
  unfold tn_leaf
  by_cases c : en_ok kw p M
  · rw [if_pos c]
    unfold tn_w
    by_cases cl : tn_lt st (pw_off w (tn_dr kt M p) (tn_dn kt M p)) (tn_dn kt M p) (tn_te kt M p)
    · rw [if_pos cl]
      show tn_dn kt M p ≠ 0
      omega
    · rw [if_neg cl]
      intro z
      exact cl (Or.inl z)
  · rw [if_neg c]
    rcases h with h | h
    · exact h
    · exact absurd h c
theorem tn_nz {w kw kt : Nat → Int} {kc M : Nat} (K : tn_K kc kw kt) (hM : M = 2 ∨ M = 4) : ∀ (r k : Nat) (p : Nat → Nat) (st : Int × Int × Int × (Nat → Int)), k + r = M → (∀ j, j < k → p j < kc) → (st.2.1 ≠ 0 ∨ ∃ q : Nat → Nat, (∀ j, j < k → q j = p j) ∧ (∀ j, j < M → q j < kc) ∧ en_ok kw q M) → (en_F (tn_leaf w kw kt M) kc r k p st).2.1 ≠ 0 := by
  intro r
  induction r with
  | zero =>
    intro k p st hk hp h
    refine tn_nz1 K hM (fun j hj => hp j (by omega)) ?_
    rcases h with h | ⟨q, h1, h2, h3⟩
    · exact Or.inl h
    · right
      intro j hj
      have := h3 j hj
      rw [h1 j (by omega), en_nc (q := p) (fun i hi => h1 i (by omega))] at this
      exact this
  | succ r ih =>
    intro k p st hk hp h
    show (en_fo (fun a => en_F (tn_leaf w kw kt M) kc r (k + 1) (en_u p k a)) kc st).2.1 ≠ 0
    have hpa : ∀ a, a < kc → ∀ j, j < k + 1 → en_u p k a j < kc := fun a ha j hj => by
      by_cases cj : j = k
      · rw [cj, en_uk]; exact ha
      · rw [en_un cj]; exact hp j (by omega)
    have keep : ∀ n, n ≤ kc → (st.2.1 ≠ 0 ∨ ∃ q : Nat → Nat, (∀ j, j < k → q j = p j) ∧ (∀ j, j < M → q j < kc) ∧ en_ok kw q M ∧ q k < n) → (en_fo (fun a => en_F (tn_leaf w kw kt M) kc r (k + 1) (en_u p k a)) n st).2.1 ≠ 0 := by
      intro n
      induction n with
      | zero =>
        intro _ h
        rcases h with h | ⟨q, -, -, -, h⟩
        · exact h
        · omega
      | succ n ihn =>
        intro hn h
        show (en_F (tn_leaf w kw kt M) kc r (k + 1) (en_u p k n) (en_fo _ n st)).2.1 ≠ 0
        refine ih (k + 1) (en_u p k n) _ (by omega) (hpa n (by omega)) ?_
        rcases h with h | ⟨q, h1, h2, h3, h4⟩
        · exact Or.inl (ihn (by omega) (Or.inl h))
        · by_cases cq : q k = n
          · refine Or.inr ⟨q, fun j hj => ?_, h2, h3⟩
            by_cases cj : j = k
            · rw [cj, en_uk]; exact cq
            · rw [en_un cj]; exact h1 j (by omega)
          · exact Or.inl (ihn (by omega) (Or.inr ⟨q, h1, h2, h3, by omega⟩))
    refine keep kc (Nat.le_refl _) ?_
    rcases h with h | ⟨q, h1, h2, h3⟩
    · exact Or.inl h
    · exact Or.inr ⟨q, h1, h2, h3, h2 k (by omega)⟩
theorem tn_box {σ : am_H} {a kc : Nat} {kw : Nat → Int} (hkc : kc ≤ 10) (e4 : σ.1 3 a 4 = Int32.ofInt kc) (ew : ∀ x, x < kc → σ.1 402 a x = Int32.ofInt (kw x) ∧ 0 ≤ kw x ∧ kw x ≤ 9) : ∃ τ : am_H, f_X7_emptiedBox a σ = some (Int32.ofInt (ps_sum kw kc), τ) ∧ qf [(7, 0), (803, 999)] σ τ ∧ τ.2.2 7 0 0 = some a ∧ ∀ x, x < kc → τ.1 803 0 x = Int32.ofInt (kw x) := by
  obtain ⟨w, k, τ, rfl, q, r0, h⟩ := am_loop_1 (B := fun s : Int32 × Int32 × am_H => f_X7_emptiedBox_9 a s.1 s.2.1 s.2.2) (fun N s => ∃ (i : Nat) (ρ : am_H), s = (Int32.ofInt (ps_sum kw i), Int32.ofInt i, ρ) ∧ i ≤ kc ∧ qf [(7, 0), (803, 999)] σ ρ ∧ ρ.2.2 7 0 0 = some a ∧ (∀ x, x < i → ρ.1 803 0 x = Int32.ofInt (kw x)) ∧ N = kc - i) (fun w => ∃ τ : am_H, w = (Int32.ofInt (ps_sum kw kc), τ) ∧ qf [(7, 0), (803, 999)] σ τ ∧ τ.2.2 7 0 0 = some a ∧ ∀ x, x < kc → τ.1 803 0 x = Int32.ofInt (kw x)) (by
    rintro N s ⟨i, ρ, rfl, hi, q, r0, h, rfl⟩
    have e4' : ρ.1 3 a 4 = Int32.ofInt kc := by rw [(q 3 a 4 rfl).1]; exact e4
    by_cases c : i < kc
    · right
      obtain ⟨w1, w2, w3⟩ := ew i c
      have e5 : ρ.1 402 a i = Int32.ofInt (kw i) := by rw [(q 402 a i rfl).1]; exact w1
      have e6 : ∀ v : Int32, (am_wI ρ 803 0 i v).1 402 a i = Int32.ofInt (kw i) := fun v => e5
      refine ⟨(Int32.ofInt (ps_sum kw i + kw i), Int32.ofInt ((i : Int) + 1), am_wI ρ 803 0 i (Int32.ofInt (kw i))), kc - (i + 1), ?_, by omega, i + 1, _, rfl, by omega, q.wI rfl, r0, fun x hx => ?_, rfl⟩
      · simp (disch := omega) only [f_X7_emptiedBox_9, e4', e5, e6, Option.bind_some, qi, ql, qI_lt, qI_le, qI_eq, qI_L, qI_ix, qL_lt, qL_eq, q_nat, q_cs, ← Int32.ofInt_add, ← Int32.ofInt_sub, ← Int32.ofInt_mul, ← Int32.ofInt_neg, ← Int64.ofInt_add, ← Int64.ofInt_sub, ← Int64.ofInt_mul, ← Int64.ofInt_neg, pL_I, q_mx, q_mn, q_ab, q_abL, q_mnL, q_nn0, q_nn1, q_rr, q_b1, q_b0, q_T, q_F, q_iT, q_iF, q_d, q_in, q_wi, q_hC, q_hM, pT_i, pU_i, pS_i, pS_j, pS_0, Sum.elim_inl, Sum.elim_inr, if_pos, if_neg]
      · rw [am_wI_r]
        by_cases cx : x = i
        · rw [if_pos ⟨rfl, rfl, cx⟩, cx]
        · rw [if_neg (by omega)]
          exact h x (by omega)
    · left
      have : i = kc := by omega
      subst this
      refine ⟨(Int32.ofInt (ps_sum kw i), ρ), ?_, ρ, rfl, q, r0, h⟩
      simp (disch := omega) only [f_X7_emptiedBox_9, e4', Option.bind_some, qi, ql, qI_lt, qI_le, qI_eq, qI_L, qI_ix, qL_lt, qL_eq, q_nat, q_cs, ← Int32.ofInt_add, ← Int32.ofInt_sub, ← Int32.ofInt_mul, ← Int32.ofInt_neg, ← Int64.ofInt_add, ← Int64.ofInt_sub, ← Int64.ofInt_mul, ← Int64.ofInt_neg, pL_I, q_mx, q_mn, q_ab, q_abL, q_mnL, q_nn0, q_nn1, q_rr, q_b1, q_b0, q_T, q_F, q_iT, q_iF, q_d, q_in, q_wi, q_hC, q_hM, pT_i, pU_i, pS_i, pS_j, pS_0, Sum.elim_inl, Sum.elim_inr, if_pos, if_neg]) kc (Int32.ofInt 0, Int32.ofInt 0, am_wR σ 7 0 0 (some a)) ⟨0, _, rfl, by omega, qf.rf.wR rfl, by simp [am_wR, am_u3], fun x hx => by omega, rfl⟩
  refine ⟨τ, ?_, q, r0, h⟩
  simp (disch := omega) only [f_X7_emptiedBox, k, Option.bind_some, qi, ql, qI_lt, qI_le, qI_eq, qI_L, qI_ix, qL_lt, qL_eq, q_nat, q_cs, ← Int32.ofInt_add, ← Int32.ofInt_sub, ← Int32.ofInt_mul, ← Int32.ofInt_neg, ← Int64.ofInt_add, ← Int64.ofInt_sub, ← Int64.ofInt_mul, ← Int64.ofInt_neg, pL_I, q_mx, q_mn, q_ab, q_abL, q_mnL, q_nn0, q_nn1, q_rr, q_b1, q_b0, q_T, q_F, q_iT, q_iF, q_d, q_in, q_wi, q_hC, q_hM, pT_i, pU_i, pS_i, pS_j, pS_0, Sum.elim_inl, Sum.elim_inr, if_pos, if_neg]
def tn_lT : List (Nat × Nat) := [(7, 0), (7, 1), (7, 2), (803, 999), (804, 999), (805, 999), (7, 8), (7, 9), (7, 10), (811, 999), (7, 12)]
theorem tn_find {σ : am_H} {a rw kc M : Nat} {w kw kt : Nat → Int} {c : Int} (ha : a < 3) (hrw : rw < 18) (ok : pw_ok w) (C : pw_C σ rw w) (K : tn_K kc kw kt) (hM : M = 2 ∨ M = 4) (hc : (M : Int) = 2 * c) (e4 : σ.1 3 a 4 = Int32.ofInt kc) (ew : ∀ x, x < kc → σ.1 402 a x = Int32.ofInt (kw x) ∧ σ.1 403 a x = Int32.ofInt (kt x)) : ∃ (b : Bool) (τ : am_H), f_X7_findBest a rw (Int32.ofInt c) σ = some (b, τ) ∧ qf tn_lT σ τ ∧ (b = true ↔ (en_F (tn_leaf w kw kt M) kc M 0 (fun _ => 0) (0, 0, 0, fun _ => 0)).2.1 ≠ 0) ∧ (b = false → qf [(7, 0), (803, 999)] σ τ) ∧ (b = true → τ.1 7 0 12 = Int32.ofInt M ∧ (∀ j, j < M → τ.1 811 0 j = Int32.ofInt ((en_F (tn_leaf w kw kt M) kc M 0 (fun _ => 0) (0, 0, 0, fun _ => 0)).2.2.2 j)) ∧ tn_S τ M (en_F (tn_leaf w kw kt M) kc M 0 (fun _ => 0) (0, 0, 0, fun _ => 0)) ∧ tn_ok M (en_F (tn_leaf w kw kt M) kc M 0 (fun _ => 0) (0, 0, 0, fun _ => 0))) := by
  obtain ⟨τ, f1, q1, r0, h803⟩ := tn_box K.1 e4 (fun x hx => ⟨(ew x hx).1, (K.2 x hx).1⟩)
  have sb := ps_b (f := kw) (n := kc) (B := 9) (fun x hx => (K.2 x hx).1)
  have k10 := K.1
  by_cases ct : ps_sum kw kc < M
  · have eid := tn_id (w := w) (kw := kw) (kt := kt) (kc := kc) (M := M) (fun p hp => en_none (fun x hx => (K.2 x hx).1.1) ct hp) M 0 (fun _ => 0) (0, 0, 0, fun _ => 0) (by omega) (fun j hj => by omega)
    refine ⟨false, τ, ?_, q1.mo (by decide), ⟨fun z => (by cases z), fun z => absurd (by rw [eid]) z⟩, fun _ => q1, fun z => by cases z⟩
    simp (disch := omega) only [f_X7_findBest, f1, Option.bind_some, qi, ql, qI_lt, qI_le, qI_eq, qI_L, qI_ix, qL_lt, qL_eq, q_nat, q_cs, ← Int32.ofInt_add, ← Int32.ofInt_sub, ← Int32.ofInt_mul, ← Int32.ofInt_neg, ← Int64.ofInt_add, ← Int64.ofInt_sub, ← Int64.ofInt_mul, ← Int64.ofInt_neg, pL_I, q_mx, q_mn, q_ab, q_abL, q_mnL, q_nn0, q_nn1, q_rr, q_b1, q_b0, q_T, q_F, q_iT, q_iF, q_d, q_in, q_wi, q_hC, q_hM, pT_i, pU_i, pS_i, pS_j, pS_0, Sum.elim_inl, Sum.elim_inr, if_pos, if_neg]
  · have nz := tn_nz (w := w) (kw := kw) (kt := kt) (kc := kc) (M := M) K hM M 0 (fun _ => 0) (0, 0, 0, fun _ => 0) (by omega) (fun j hj => by omega) (Or.inr (by
      obtain ⟨p, hp, hx⟩ := en_some (kw := kw) (c := kc) (fun x hx => (K.2 x hx).1.1) M (by omega)
      exact ⟨p, fun j hj => by omega, hp, fun j hj => hx (p j) (hp j hj)⟩))
    have Q2 : qf [(7, 0), (7, 1), (7, 2), (7, 10), (803, 999)] σ (am_wL (am_wI (am_wR τ 7 0 1 (some rw)) 7 0 2 (Int32.ofInt (2 * c))) 7 0 10 (Int64.ofInt 0)) := (((q1.mo (by decide)).wR rfl).wI rfl).wL rfl
    have qa4 := Q2.a (r := pr_fC 4) (by decide +kernel)
    obtain ⟨π, f2, q2, -, -, S, so⟩ := tn_try ha hrw ok K hM M 0 8 (am_wL (am_wI (am_wR τ 7 0 1 (some rw)) 7 0 2 (Int32.ofInt (2 * c))) 7 0 10 (Int64.ofInt 0)) (fun _ => 0) (0, 0, 0, fun _ => 0) (by omega) (by omega) ⟨r0, by simp [am_wR, am_wL, am_wI, am_u3], by
      unfold pw_C at C ⊢
      rw [qa4.I (k := 10) (fun j => rfl), qa4.L (k := 10) (fun j => rfl), qa4.I (k := 1106) (fun j => rfl)]
      exact C, by rw [(Q2 3 a 4 rfl).1]; exact e4, fun x hx => by rw [(Q2 403 a x rfl).1]; exact (ew x hx).2, by rw [hc]; rfl⟩ (fun x hx => ⟨by
      show τ.1 803 0 x = Int32.ofInt (kw x - ((0 : Nat) : Int))
      rw [h803 x hx, show kw x - ((0 : Nat) : Int) = kw x by omega], (K.2 x hx).1.1⟩) (fun j hj => by omega) ⟨rfl, fun z => absurd rfl z⟩ ⟨by decide, by decide, by decide⟩
    have e2 : π.1 7 0 2 = Int32.ofInt M := by
      rw [(q2 7 0 2 rfl).1, hc]
      rfl
    generalize hE : en_F (tn_leaf w kw kt M) kc M 0 (fun _ => 0) (0, 0, 0, fun _ => 0) = E at *
    obtain ⟨ρ, f3, q3, h811⟩ := am_loop_1 (B := fun s : Int32 × am_H => f_X7_findBest_47 s.1 s.2) (fun N s => ∃ (i : Nat) (ρ : am_H), s = (Int32.ofInt i, ρ) ∧ i ≤ M ∧ qf [(811, 999)] π ρ ∧ (∀ j, j < i → ρ.1 811 0 j = Int32.ofInt (E.2.2.2 j)) ∧ N = M - i) (fun ρ => qf [(811, 999)] π ρ ∧ ∀ j, j < M → ρ.1 811 0 j = Int32.ofInt (E.2.2.2 j)) (by
      rintro N s ⟨i, ρ, rfl, hi, q, h, rfl⟩
      have e2' : ρ.1 7 0 2 = Int32.ofInt M := by rw [(q 7 0 2 rfl).1]; exact e2
      by_cases c : i < M
      · right
        have e5 : ρ.1 805 0 i = Int32.ofInt (E.2.2.2 i) := by rw [(q 805 0 i rfl).1]; exact (S.2 nz).2.2 i c
        refine ⟨(Int32.ofInt ((i : Int) + 1), am_wI ρ 811 0 i (Int32.ofInt (E.2.2.2 i))), M - (i + 1), ?_, by omega, i + 1, _, rfl, by omega, q.wI rfl, fun j hj => ?_, rfl⟩
        · simp (disch := omega) only [f_X7_findBest_47, e2', e5, Option.bind_some, qi, ql, qI_lt, qI_le, qI_eq, qI_L, qI_ix, qL_lt, qL_eq, q_nat, q_cs, ← Int32.ofInt_add, ← Int32.ofInt_sub, ← Int32.ofInt_mul, ← Int32.ofInt_neg, ← Int64.ofInt_add, ← Int64.ofInt_sub, ← Int64.ofInt_mul, ← Int64.ofInt_neg, pL_I, q_mx, q_mn, q_ab, q_abL, q_mnL, q_nn0, q_nn1, q_rr, q_b1, q_b0, q_T, q_F, q_iT, q_iF, q_d, q_in, q_wi, q_hC, q_hM, pT_i, pU_i, pS_i, pS_j, pS_0, Sum.elim_inl, Sum.elim_inr, if_pos, if_neg]
        · rw [am_wI_r]
          by_cases cj : j = i
          · rw [if_pos ⟨rfl, rfl, cj⟩, cj]
          · rw [if_neg (by omega)]
            exact h j (by omega)
      · left
        have : i = M := by omega
        subst this
        refine ⟨ρ, ?_, q, h⟩
        simp (disch := omega) only [f_X7_findBest_47, e2', Option.bind_some, qi, ql, qI_lt, qI_le, qI_eq, qI_L, qI_ix, qL_lt, qL_eq, q_nat, q_cs, ← Int32.ofInt_add, ← Int32.ofInt_sub, ← Int32.ofInt_mul, ← Int32.ofInt_neg, ← Int64.ofInt_add, ← Int64.ofInt_sub, ← Int64.ofInt_mul, ← Int64.ofInt_neg, pL_I, q_mx, q_mn, q_ab, q_abL, q_mnL, q_nn0, q_nn1, q_rr, q_b1, q_b0, q_T, q_F, q_iT, q_iF, q_d, q_in, q_wi, q_hC, q_hM, pT_i, pU_i, pS_i, pS_j, pS_0, Sum.elim_inl, Sum.elim_inr, if_pos, if_neg]) M (Int32.ofInt 0, π) ⟨0, π, rfl, by omega, qf.rf, fun j hj => by omega, rfl⟩
    have e2r : ρ.1 7 0 2 = Int32.ofInt M := by rw [(q3 7 0 2 rfl).1]; exact e2
    have f2' : f_X7_tryWheel 8 (Int32.ofInt 0) (am_wL (am_wI (am_wR τ 7 0 1 (some rw)) 7 0 2 (Int32.ofInt (2 * c))) 7 0 10 (Int64.ofInt 0)) = some π := f2
    refine ⟨true, am_wI ρ 7 0 12 (Int32.ofInt M), ?_, (((Q2.mo (by decide)).tr (q2.mo (by decide))).tr (q3.mo (by decide))).wI rfl, ⟨fun _ => nz, fun _ => rfl⟩, fun z => (by cases z), fun _ => ⟨rfl, h811, ⟨?_, fun z => ⟨?_, ?_, fun j hj => ?_⟩⟩, so⟩⟩
    · simp (disch := omega) only [f_X7_findBest, f1, f2', f3, e2r, Option.bind_some, qi, ql, qI_lt, qI_le, qI_eq, qI_L, qI_ix, qL_lt, qL_eq, q_nat, q_cs, ← Int32.ofInt_add, ← Int32.ofInt_sub, ← Int32.ofInt_mul, ← Int32.ofInt_neg, ← Int64.ofInt_add, ← Int64.ofInt_sub, ← Int64.ofInt_mul, ← Int64.ofInt_neg, pL_I, q_mx, q_mn, q_ab, q_abL, q_mnL, q_nn0, q_nn1, q_rr, q_b1, q_b0, q_T, q_F, q_iT, q_iF, q_d, q_in, q_wi, q_hC, q_hM, pT_i, pU_i, pS_i, pS_j, pS_0, Sum.elim_inl, Sum.elim_inr, if_pos, if_neg]
    · show ρ.2.1 7 0 10 = _
      rw [(q3 7 0 10 rfl).2.1]
      exact S.1
    · show ρ.2.1 7 0 9 = _
      rw [(q3 7 0 9 rfl).2.1]
      exact (S.2 z).1
    · show ρ.1 7 0 8 = _
      rw [(q3 7 0 8 rfl).1]
      exact (S.2 z).2.1
    · show ρ.1 805 0 j = _
      rw [(q3 805 0 j rfl).1]
      exact (S.2 z).2.2 j hj
