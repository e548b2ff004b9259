/-! ===== all rows of KINDS, one behind the other ===== -/
def en_u (p : Nat → Nat) (k a : Nat) : Nat → Nat := fun j => if j = k then a else p j
theorem en_uk {p : Nat → Nat} {k a : Nat} : en_u p k a k = a := if_pos rfl
theorem en_un {p : Nat → Nat} {k a j : Nat} (h : j ≠ k) : en_u p k a j = p j := if_neg h
/-- f of 0, then of 1 .. -/
def en_fo {α : Type} (f : Nat → α → α) : Nat → α → α
  | 0, s => s
  | n + 1, s => f n (en_fo f n s)
theorem en_fo_c {α : Type} {f g : Nat → α → α} {n : Nat} {s : α} (h : ∀ a, a < n → ∀ s, f a s = g a s) : en_fo f n s = en_fo g n s := by
  induction n with
  | zero => rfl
  | succ n ih =>
    show f n (en_fo f n s) = g n (en_fo g n s)
    rw [ih (fun a ha => h a (by omega)), h n (by omega)]
theorem en_fo_id {α : Type} {f : Nat → α → α} {n : Nat} {s : α} (h : ∀ a, a < n → ∀ s, f a s = s) : en_fo f n s = s := by
  induction n with
  | zero => rfl
  | succ n ih =>
    show f n (en_fo f n s) = s
    rw [ih (fun a ha => h a (by omega)), h n (by omega)]
/-- all rows that begin with the first k of p, r more of c kinds -/
def en_F {α : Type} (leaf : (Nat → Nat) → α → α) (c : Nat) : Nat → Nat → (Nat → Nat) → α → α
  | 0, _, p, s => leaf p s
  | r + 1, k, p, s => en_fo (fun a => en_F leaf c r (k + 1) (en_u p k a)) c s
theorem en_Fc {α : Type} {leaf : (Nat → Nat) → α → α} {c M : Nat} (hl : ∀ p q : Nat → Nat, (∀ j, j < M → p j = q j) → ∀ s, leaf p s = leaf q s) : ∀ (r k : Nat) (p q : Nat → Nat) (s : α), k + r = M → (∀ j, j < k → p j = q j) → en_F leaf c r k p s = en_F leaf c r k q s := by
  intro r
  induction r with
  | zero =>
    intro k p q s hk h
    exact hl p q (fun j hj => h j (by omega)) s
  | succ r ih =>
    intro k p q s hk h
    show en_fo (fun a => en_F leaf c r (k + 1) (en_u p k a)) c s = en_fo (fun a => en_F leaf c r (k + 1) (en_u q k a)) c s
    refine en_fo_c (fun a ha s => ih (k + 1) _ _ s (by omega) (fun j hj => ?_))
    unfold en_u
    by_cases cj : j = k
    · rw [if_pos cj, if_pos cj]
    · rw [if_neg cj, if_neg cj]
      exact h j (by omega)
/-- all rows ahead of p, of those that begin with its first k -/
def en_L {α : Type} (leaf : (Nat → Nat) → α → α) (c : Nat) : Nat → Nat → (Nat → Nat) → α → α
  | 0, _, _, s => s
  | r + 1, k, p, s => en_L leaf c r (k + 1) p (en_fo (fun a => en_F leaf c r (k + 1) (en_u p k a)) (p k) s)
theorem en_L0 {α : Type} {leaf : (Nat → Nat) → α → α} {c : Nat} : ∀ (r k : Nat) (p : Nat → Nat) (s : α), (∀ j, k ≤ j → j < k + r → p j = 0) → en_L leaf c r k p s = s := by
  intro r
  induction r with
  | zero => intro k p s h; rfl
  | succ r ih =>
    intro k p s h
    show en_L leaf c r (k + 1) p (en_fo _ (p k) s) = s
    rw [h k (by omega) (by omega)]
    exact ih (k + 1) p s (fun j h1 h2 => h j (by omega) (by omega))
theorem en_Lc {α : Type} {leaf : (Nat → Nat) → α → α} {c M : Nat} (hl : ∀ p q : Nat → Nat, (∀ j, j < M → p j = q j) → ∀ s, leaf p s = leaf q s) (hc : 0 < c) : ∀ (r k : Nat) (p : Nat → Nat) (s : α), k + r = M → (∀ j, k ≤ j → j < k + r → p j = c - 1) → leaf p (en_L leaf c r k p s) = en_F leaf c r k p s := by
  intro r
  induction r with
  | zero => intro k p s hk h; rfl
  | succ r ih =>
    intro k p s hk h
    show leaf p (en_L leaf c r (k + 1) p (en_fo (fun a => en_F leaf c r (k + 1) (en_u p k a)) (p k) s)) = en_fo (fun a => en_F leaf c r (k + 1) (en_u p k a)) c s
    rw [ih (k + 1) p _ (by omega) (fun j h1 h2 => h j (by omega) (by omega))]
    have e := h k (by omega) (by omega)
    obtain ⟨c', rfl⟩ : ∃ c', c = c' + 1 := ⟨c - 1, by omega⟩
    have e' : p k = c' := by omega
    rw [e']
    show _ = en_F leaf (c' + 1) r (k + 1) (en_u p k c') (en_fo (fun a => en_F leaf (c' + 1) r (k + 1) (en_u p k a)) c' s)
    refine en_Fc hl r (k + 1) _ _ _ (by omega) (fun j hj => ?_)
    unfold en_u
    by_cases cj : j = k
    · rw [if_pos cj, cj, e']
    · rw [if_neg cj]
/-- one row on -/
theorem en_Ls {α : Type} {leaf : (Nat → Nat) → α → α} {c M : Nat} (hl : ∀ p q : Nat → Nat, (∀ j, j < M → p j = q j) → ∀ s, leaf p s = leaf q s) (hc : 0 < c) : ∀ (r k : Nat) (p q : Nat → Nat) (i : Nat) (s : α), k + r = M → k ≤ i → i < k + r → p i < c - 1 → q i = p i + 1 → (∀ j, j < i → q j = p j) → (∀ j, i < j → j < k + r → p j = c - 1 ∧ q j = 0) → en_L leaf c r k q s = leaf p (en_L leaf c r k p s) := by
  intro r
  induction r with
  | zero => intro k p q i s hk h1 h2; omega
  | succ r ih =>
    intro k p q i s hk h1 h2 h3 h4 h5 h6
    show en_L leaf c r (k + 1) q (en_fo (fun a => en_F leaf c r (k + 1) (en_u q k a)) (q k) s) = leaf p (en_L leaf c r (k + 1) p (en_fo (fun a => en_F leaf c r (k + 1) (en_u p k a)) (p k) s))
    have efo : ∀ n, en_fo (fun a => en_F leaf c r (k + 1) (en_u q k a)) n s = en_fo (fun a => en_F leaf c r (k + 1) (en_u p k a)) n s := fun n => en_fo_c (fun a ha s => en_Fc hl r (k + 1) _ _ s (by omega) (fun j hj => by
      unfold en_u
      by_cases cj : j = k
      · rw [if_pos cj, if_pos cj]
      · rw [if_neg cj, if_neg cj, h5 j (by omega)]))
    by_cases ci : i = k
    · subst ci
      rw [en_L0 r (i + 1) q _ (fun j j1 j2 => (h6 j (by omega) (by omega)).2), en_Lc hl hc r (i + 1) p _ (by omega) (fun j j1 j2 => (h6 j (by omega) (by omega)).1), h4, efo]
      show en_F leaf c r (i + 1) (en_u p i (p i)) (en_fo _ (p i) s) = _
      refine en_Fc hl r (i + 1) _ _ _ (by omega) (fun j hj => ?_)
      unfold en_u
      by_cases cj : j = i
      · rw [if_pos cj, cj]
      · rw [if_neg cj]
    · rw [h5 k (by omega), efo]
      exact ih (k + 1) p q i _ (by omega) (by omega) (by omega) h3 h4 h5 (fun j j1 j2 => h6 j j1 (by omega))
/-- how many of the first m are x -/
def en_n (p : Nat → Nat) : Nat → Nat → Nat
  | 0, _ => 0
  | m + 1, x => en_n p m x + (if p m = x then 1 else 0)
theorem en_nc {p q : Nat → Nat} {m x : Nat} (h : ∀ j, j < m → p j = q j) : en_n p m x = en_n q m x := by
  induction m with
  | zero => rfl
  | succ m ih =>
    show en_n p m x + (if p m = x then 1 else 0) = en_n q m x + (if q m = x then 1 else 0)
    rw [ih (fun j hj => h j (by omega)), h m (by omega)]
theorem en_nm {p : Nat → Nat} {m x : Nat} (k : Nat) : en_n p m x ≤ en_n p (m + k) x := by
  induction k with
  | zero => exact Nat.le_refl _
  | succ k ih =>
    show en_n p m x ≤ en_n p (m + k) x + (if p (m + k) = x then 1 else 0)
    split <;> omega
theorem en_nb {p : Nat → Nat} {m x : Nat} : en_n p m x ≤ m := by
  induction m with
  | zero => exact Nat.le_refl _
  | succ m ih =>
    show en_n p m x + (if p m = x then 1 else 0) ≤ m + 1
    split <;> omega
theorem en_n0 {p : Nat → Nat} {m x : Nat} (h : ∀ j, j < m → p j ≠ x) : en_n p m x = 0 := by
  induction m with
  | zero => rfl
  | succ m ih =>
    show en_n p m x + (if p m = x then 1 else 0) = 0
    rw [ih (fun j hj => h j (by omega)), if_neg (h m (by omega))]
/-- no more of a kind than there are -/
def en_ok (kw : Nat → Int) (p : Nat → Nat) (m : Nat) : Prop := ∀ k, k < m → (en_n p m (p k) : Int) ≤ kw (p k)
/-- too many of a kind among the first ones: no row counts -/
theorem en_bad {α : Type} {leaf : (Nat → Nat) → α → α} {c M : Nat} {kw : Nat → Int} (hl : ∀ p, ¬ en_ok kw p M → ∀ s, leaf p s = s) {x : Nat} (h0 : 0 ≤ kw x) : ∀ (r k : Nat) (p : Nat → Nat) (s : α), k + r = M → kw x < (en_n p k x : Int) → en_F leaf c r k p s = s := by
  intro r
  induction r with
  | zero =>
    intro k p s hk h
    refine hl p (fun ok => ?_) s
    have hk' : k = M := by omega
    subst hk'
    by_cases hx : ∃ j, j < k ∧ p j = x
    · obtain ⟨j, hj, e⟩ := hx
      have := ok j hj
      rw [e] at this
      omega
    · have : en_n p k x = 0 := en_n0 (fun j hj e => hx ⟨j, hj, e⟩)
      omega
  | succ r ih =>
    intro k p s hk h
    refine en_fo_id (fun a ha s => ih (k + 1) _ s (by omega) ?_)
    have e1 : en_n (en_u p k a) k x = en_n p k x := en_nc (fun j hj => en_un (by omega))
    have e2 := en_nm (p := en_u p k a) (m := k) (x := x) 1
    omega
