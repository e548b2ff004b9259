/-! ===== ORDERS: rows of STEPS, one behind the other ===== -/
theorem pg_step_c {D T U S A L D' T' U' S' A' L' : Nat → Int32} {s r kd : Nat} (h : pg_step D T U S A L s r kd) (hD : D' r = D r) (hT : T' r = T r) (hU : U' r = U r) (hS : S' s = S s) (hA : A' s = A s) (hL : L' s = L s) : pg_step D' T' U' S' A' L' s r kd := by
  unfold pg_step at h ⊢
  rw [hD, hT, hU, hS, hA, hL]
  exact h
theorem pg_seg_le {D T U V S A L E : Nat → Int32} : ∀ n d s e r q, pg_seg D T U V S A L E n d s e r q → s ≤ e ∧ r ≤ q := by
  intro n
  induction n with
  | zero =>
    intro d s e r q h
    obtain ⟨h1, h2⟩ : s = e ∧ r = q := h
    omega
  | succ n ih =>
    intro d s e r q h
    rcases h with ⟨h1, h2⟩ | ⟨kd, k1, k2, k3, k4⟩ | ⟨kd, d', e1, q1, k1, k2, k3, k4, k5, k6, k7, k8, k9⟩
    · omega
    · have := ih _ _ _ _ _ k4
      omega
    · have := ih _ _ _ _ _ k5
      have := ih _ _ _ _ _ k9
      omega
theorem pg_seg_up {D T U V S A L E : Nat → Int32} : ∀ n m d s e r q, n ≤ m → pg_seg D T U V S A L E n d s e r q → pg_seg D T U V S A L E m d s e r q := by
  intro n
  induction n with
  | zero =>
    intro m d s e r q hm h
    obtain ⟨h1, h2⟩ : s = e ∧ r = q := h
    cases m with
    | zero => exact ⟨h1, h2⟩
    | succ m => exact Or.inl ⟨h1, h2⟩
  | succ n ih =>
    intro m d s e r q hm h
    obtain ⟨m, rfl⟩ : ∃ m', m = m' + 1 := ⟨m - 1, by omega⟩
    rcases h with ⟨h1, h2⟩ | ⟨kd, k1, k2, k3, k4⟩ | ⟨kd, d', e1, q1, k1, k2, k3, k4, k5, k6, k7, k8, k9⟩
    · exact Or.inl ⟨h1, h2⟩
    · exact Or.inr (Or.inl ⟨kd, k1, k2, k3, ih m _ _ _ _ _ (by omega) k4⟩)
    · exact Or.inr (Or.inr ⟨kd, d', e1, q1, k1, k2, k3, k4, ih m _ _ _ _ _ (by omega) k5, k6, k7, k8, ih m _ _ _ _ _ (by omega) k9⟩)
theorem pg_seg_c {D T U V S A L E D' T' U' V' S' A' L' E' : Nat → Int32} : ∀ n d s e r q, pg_seg D T U V S A L E n d s e r q → (∀ i, r ≤ i → i < q → D' i = D i ∧ T' i = T i ∧ U' i = U i ∧ V' i = V i) → (∀ i, s ≤ i → i < e → S' i = S i ∧ A' i = A i ∧ L' i = L i ∧ E' i = E i) → pg_seg D' T' U' V' S' A' L' E' n d s e r q := by
  intro n
  induction n with
  | zero => intro d s e r q h _ _; exact h
  | succ n ih =>
    intro d s e r q h hr hs
    rcases h with ⟨h1, h2⟩ | ⟨kd, k1, k2, k3, k4⟩ | ⟨kd, d', e1, q1, k1, k2, k3, k4, k5, k6, k7, k8, k9⟩
    · exact Or.inl ⟨h1, h2⟩
    · have l := pg_seg_le _ _ _ _ _ _ k4
      have a := hr r (by omega) (by omega)
      have c := hs s (by omega) (by omega)
      exact Or.inr (Or.inl ⟨kd, k1, pg_step_c k2 a.1 a.2.1 a.2.2.1 c.1 c.2.1 c.2.2.1, c.2.2.2.trans k3, ih _ _ _ _ _ k4 (fun i i1 i2 => hr i (by omega) i2) (fun i i1 i2 => hs i (by omega) i2)⟩)
    · have l1 := pg_seg_le _ _ _ _ _ _ k5
      have l2 := pg_seg_le _ _ _ _ _ _ k9
      have a := hr r (by omega) (by omega)
      have c := hs s (by omega) (by omega)
      have a' := hr q1 (by omega) (by omega)
      exact Or.inr (Or.inr ⟨kd, d', e1, q1, k1, k2, pg_step_c k3 a.1 a.2.1 a.2.2.1 c.1 c.2.1 c.2.2.1, c.2.2.2.trans k4, ih _ _ _ _ _ k5 (fun i i1 i2 => hr i (by omega) (by omega)) (fun i i1 i2 => hs i (by omega) (by omega)), a'.1.trans k6, a'.2.2.2.trans k7, a.2.2.2.trans k8, ih _ _ _ _ _ k9 (fun i i1 i2 => hr i (by omega) i2) (fun i i1 i2 => hs i (by omega) i2)⟩)
theorem pg_seg_app {D T U V S A L E : Nat → Int32} : ∀ n m d s e r q e' q', pg_seg D T U V S A L E n d s e r q → pg_seg D T U V S A L E m d e e' q q' → pg_seg D T U V S A L E (n + m) d s e' r q' := by
  intro n
  induction n with
  | zero =>
    intro m d s e r q e' q' h g
    obtain ⟨h1, h2⟩ : s = e ∧ r = q := h
    rw [h1, h2, Nat.zero_add]
    exact g
  | succ n ih =>
    intro m d s e r q e' q' h g
    rw [show n + 1 + m = (n + m) + 1 by omega]
    rcases h with ⟨h1, h2⟩ | ⟨kd, k1, k2, k3, k4⟩ | ⟨kd, d', e1, q1, k1, k2, k3, k4, k5, k6, k7, k8, k9⟩
    · rw [h1, h2]
      exact pg_seg_up _ _ _ _ _ _ _ (by omega) g
    · exact Or.inr (Or.inl ⟨kd, k1, k2, k3, ih m _ _ _ _ _ _ _ k4 g⟩)
    · exact Or.inr (Or.inr ⟨kd, d', e1, q1, k1, k2, k3, k4, pg_seg_up _ _ _ _ _ _ _ (by omega) k5, k6, k7, k8, ih m _ _ _ _ _ _ _ k9 g⟩)
/-! ===== ORDERS: cells ===== -/
/-- of the class's ORDERS r: rows from R on, open blocks from dp on -/
def zR (r R dp : Nat) (k i j : Nat) : Bool := qf_in tlC k j || (k == 4 && i == r && (j == 4 || j == 5 || j == 7)) || ((k == 500 || k == 501 || k == 502 || k == 503) && i == r && decide (R ≤ j)) || (k == 506 && i == r && decide (dp ≤ j))
/-- of the reference: STEPS from s on -/
def zS (s : Nat) (k _i j : Nat) : Bool := qf_in tlM k j || (k == 12 && j == 55) || ((k == 1372 || k == 1373 || k == 1374 || k == 1375) && decide (s ≤ j))
theorem zR_t {r R dp k i j : Nat} (h : qf_in tlC k j = true) : zR r R dp k i j = true := by
  unfold zR
  rw [h]
  rfl
theorem zS_t {s k i j : Nat} (h : qf_in tlM k j = true) : zS s k i j = true := by
  unfold zS
  rw [h]
  rfl
theorem zR_c {r R dp : Nat} : zR r R dp 4 r 4 = true ∧ zR r R dp 4 r 5 = true ∧ zR r R dp 4 r 7 = true := by
  unfold zR
  simp
theorem zR_r {r R dp j : Nat} (h : R ≤ j) : zR r R dp 500 r j = true ∧ zR r R dp 501 r j = true ∧ zR r R dp 502 r j = true ∧ zR r R dp 503 r j = true := by
  unfold zR
  simp [h]
theorem zR_o {r R dp j : Nat} (h : dp ≤ j) : zR r R dp 506 r j = true := by
  unfold zR
  simp [h]
theorem zS_r {s j : Nat} (h : s ≤ j) : zS s 1372 0 j = true ∧ zS s 1373 0 j = true ∧ zS s 1374 0 j = true ∧ zS s 1375 0 j = true := by
  unfold zS
  simp [h]
theorem zS_c {s : Nat} : zS s 12 0 55 = true := by
  unfold zS
  simp
theorem zR_m {r R dp R' dp' k i j : Nat} (h1 : R ≤ R') (h2 : dp ≤ dp') (h : zR r R' dp' k i j = true) : zR r R dp k i j = true := by
  unfold zR at h ⊢
  simp only [Bool.or_eq_true, Bool.and_eq_true, beq_iff_eq, decide_eq_true_eq] at h ⊢
  rcases h with ((h | h) | ⟨h, h3⟩) | ⟨h, h3⟩
  · exact Or.inl (Or.inl (Or.inl h))
  · exact Or.inl (Or.inl (Or.inr h))
  · exact Or.inl (Or.inr ⟨h, by omega⟩)
  · exact Or.inr ⟨h, by omega⟩
theorem zS_m {s s' k i j : Nat} (h1 : s ≤ s') (h : zS s' k i j = true) : zS s k i j = true := by
  unfold zS at h ⊢
  simp only [Bool.or_eq_true, Bool.and_eq_true, beq_iff_eq, decide_eq_true_eq] at h ⊢
  rcases h with (h | h) | ⟨h, h3⟩
  · exact Or.inl (Or.inl h)
  · exact Or.inl (Or.inr h)
  · exact Or.inr ⟨h, by omega⟩
/-- rows and STEPS ahead stand -/
theorem zR_k {r R dp j : Nat} (h : j < R) : zR r R dp 500 r j = false ∧ zR r R dp 501 r j = false ∧ zR r R dp 502 r j = false ∧ zR r R dp 503 r j = false := by
  unfold zR
  rw [q_tlC (by omega), q_tlC (by omega), q_tlC (by omega), q_tlC (by omega), decide_eq_false (by omega : ¬ R ≤ j)]
  simp
theorem zR_ko {r R dp j : Nat} (h : j < dp) : zR r R dp 506 r j = false := by
  unfold zR
  rw [q_tlC (by omega), decide_eq_false (by omega : ¬ dp ≤ j)]
  simp
theorem zS_k {s j : Nat} (h : j < s) : zS s 1372 0 j = false ∧ zS s 1373 0 j = false ∧ zS s 1374 0 j = false ∧ zS s 1375 0 j = false := by
  unfold zS
  rw [q_tlM (by omega), q_tlM (by omega), q_tlM (by omega), q_tlM (by omega), decide_eq_false (by omega : ¬ s ≤ j)]
  exact ⟨rfl, rfl, rfl, rfl⟩
