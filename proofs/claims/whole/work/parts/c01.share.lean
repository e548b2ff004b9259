/-! ===== SHARED: the search itself ===== -/
def sh_p (p : Nat → Nat) (k a b : Nat) : Nat → Nat := en_u (en_u p k a) (k + 1) b
/-- a couple of KINDS that are still there, and fit -/
def sh_d (fit : Nat → Nat → Nat → Prop) (kw : Nat → Int) (p : Nat → Nat) (s a b : Nat) : Prop := fit s a b ∧ (en_n p (2 * s) a : Int) < kw a ∧ (en_n (en_u p (2 * s) a) (2 * s + 1) b : Int) < kw b
/-- the least of all, the first of these -/
noncomputable def sh_F (fit : Nat → Nat → Nat → Prop) (kw kt : Nat → Int) (c : Nat) : Nat → Nat → (Nat → Nat) → Int × (Nat → Int) → Int × (Nat → Int)
  | 0, s, p, S => if ps_sum (fun j => kt (p j)) (2 * s) < S.1 then (ps_sum (fun j => kt (p j)) (2 * s), fun j => kt (p j)) else S
  | l + 1, s, p, S => en_fo (fun a S => en_fo (fun b S => @ite _ (sh_d fit kw p s a b) (Classical.propDecidable _) (sh_F fit kw kt c l (s + 1) (sh_p p (2 * s) a b) S) S) c S) c S
/-- the same, with what can't be less left out -/
noncomputable def sh_G (fit : Nat → Nat → Nat → Prop) (kw kt LB : Nat → Int) (c : Nat) : Nat → Nat → (Nat → Nat) → Int × (Nat → Int) → Int × (Nat → Int)
  | 0, s, p, _ => (ps_sum (fun j => kt (p j)) (2 * s), fun j => kt (p j))
  | l + 1, s, p, S => en_fo (fun a S => en_fo (fun b S => @ite _ (sh_d fit kw p s a b ∧ ps_sum (fun j => kt (p j)) (2 * s) + kt a + kt b + LB (s + 1) < S.1) (Classical.propDecidable _) (sh_G fit kw kt LB c l (s + 1) (sh_p p (2 * s) a b) S) S) c S) c S
theorem sh_fix {α : Type} {f : Nat → α → α} {n : Nat} {s : α} (h : ∀ a, a < n → f a s = s) : en_fo f n s = s := by
  induction n with
  | zero => rfl
  | succ n ih =>
    show f n (en_fo f n s) = s
    rw [ih (fun a ha => h a (by omega))]
    exact h n (by omega)
theorem sh_pj {p : Nat → Nat} {k a b j : Nat} (h : j < k) : sh_p p k a b j = p j := by
  unfold sh_p
  rw [en_un (by omega), en_un (by omega)]
theorem sh_p0 {p : Nat → Nat} {k a b : Nat} : sh_p p k a b k = a := by
  unfold sh_p
  rw [en_un (by omega), en_uk]
theorem sh_p1 {p : Nat → Nat} {k a b : Nat} : sh_p p k a b (k + 1) = b := by
  unfold sh_p
  rw [en_uk]
theorem sh_T {kt : Nat → Int} {p : Nat → Nat} {s a b : Nat} : ps_sum (fun j => kt (sh_p p (2 * s) a b j)) (2 * (s + 1)) = ps_sum (fun j => kt (p j)) (2 * s) + kt a + kt b := by
  show ps_sum (fun j => kt (sh_p p (2 * s) a b j)) (2 * s) + kt (sh_p p (2 * s) a b (2 * s)) + kt (sh_p p (2 * s) a b (2 * s + 1)) = _
  rw [ps_congr (g := fun j => kt (p j)) (fun j hj => by show kt (sh_p p (2 * s) a b j) = kt (p j); rw [sh_pj hj]), sh_p0, sh_p1]
theorem sh_n {p : Nat → Nat} {k a b x : Nat} : en_n (sh_p p k a b) (k + 2) x = en_n p k x + (if a = x then 1 else 0) + (if b = x then 1 else 0) := by
  show en_n (sh_p p k a b) k x + (if sh_p p k a b k = x then 1 else 0) + (if sh_p p k a b (k + 1) = x then 1 else 0) = _
  rw [en_nc (q := p) (fun j hj => sh_pj hj), sh_p0, sh_p1]
theorem sh_n1 {p : Nat → Nat} {k a x : Nat} : en_n (en_u p k a) (k + 1) x = en_n p k x + (if a = x then 1 else 0) := by
  show en_n (en_u p k a) k x + (if en_u p k a k = x then 1 else 0) = _
  rw [en_uk, en_nc (q := p) (fun j hj => en_un (by omega))]
/-- what the reference asks of a row -/
theorem sh_ok {fit : Nat → Nat → Nat → Prop} {kw : Nat → Int} {p : Nat → Nat} {s a b c : Nat} (hp : ∀ j, j < 2 * s → p j < c) (hn : ∀ x, x < c → (en_n p (2 * s) x : Int) ≤ kw x) (ha : a < c) (hb : b < c) : sh_d fit kw p s a b ↔ fit s a b ∧ en_ok kw (sh_p p (2 * s) a b) (2 * s + 2) := by
  unfold sh_d
  rw [sh_n1]
  constructor
  · rintro ⟨h1, h2, h3⟩
    refine ⟨h1, fun k hk => ?_⟩
    have hx : sh_p p (2 * s) a b k < c := by
      by_cases k0 : k < 2 * s
      · rw [sh_pj k0]
        exact hp k k0
      · by_cases k1 : k = 2 * s
        · rw [k1, sh_p0]
          exact ha
        · rw [show k = 2 * s + 1 by omega, sh_p1]
          exact hb
    generalize sh_p p (2 * s) a b k = x at hx
    rw [sh_n]
    have hnx := hn x hx
    by_cases e1 : a = x
    · subst e1
      by_cases e2 : b = a
      · rw [if_pos e2.symm, e2] at h3
        rw [if_pos rfl, if_pos e2]
        omega
      · rw [if_pos rfl, if_neg e2]
        omega
    · by_cases e2 : b = x
      · subst e2
        rw [if_neg e1] at h3
        rw [if_neg e1, if_pos rfl]
        omega
      · rw [if_neg e1, if_neg e2]
        omega
  · rintro ⟨h1, h2⟩
    have a1 := h2 (2 * s) (by omega)
    have a2 := h2 (2 * s + 1) (by omega)
    rw [sh_p0, sh_n, if_pos rfl] at a1
    rw [sh_p1, sh_n, if_pos rfl] at a2
    refine ⟨h1, ?_, ?_⟩
    · split at a1 <;> omega
    · split at a2
      · rename_i e
        rw [if_pos e]
        omega
      · rename_i e
        rw [if_neg e]
        omega
theorem sh_id {fit : Nat → Nat → Nat → Prop} {kw kt LB : Nat → Int} {c cnt : Nat} (h0 : LB cnt = 0) (h1 : ∀ s, s < cnt → ∀ a b, a < c → b < c → fit s a b → LB s ≤ kt a + kt b + LB (s + 1)) : ∀ (l s : Nat) (p : Nat → Nat) (S : Int × (Nat → Int)), s + l = cnt → S.1 ≤ ps_sum (fun j => kt (p j)) (2 * s) + LB s → sh_F fit kw kt c l s p S = S := by
  intro l
  induction l with
  | zero =>
    intro s p S hs h
    show (if ps_sum (fun j => kt (p j)) (2 * s) < S.1 then (ps_sum (fun j => kt (p j)) (2 * s), fun j => kt (p j)) else S) = S
    rw [show LB s = 0 by rw [show s = cnt by omega]; exact h0] at h
    rw [if_neg (by omega)]
  | succ l ih =>
    intro s p S hs h
    unfold sh_F
    refine sh_fix (fun a ha => sh_fix (fun b hb => ?_))
    split
    · rename_i cnd
      refine ih (s + 1) _ S (by omega) ?_
      rw [sh_T]
      have := h1 s (by omega) a b ha hb cnd.1
      omega
    · rfl
theorem sh_GF {fit : Nat → Nat → Nat → Prop} {kw kt LB : Nat → Int} {c cnt : Nat} (h0 : LB cnt = 0) (h1 : ∀ s, s < cnt → ∀ a b, a < c → b < c → fit s a b → LB s ≤ kt a + kt b + LB (s + 1)) : ∀ (l s : Nat) (p : Nat → Nat) (S : Int × (Nat → Int)), s + l = cnt → (l = 0 → ps_sum (fun j => kt (p j)) (2 * s) < S.1) → sh_G fit kw kt LB c l s p S = sh_F fit kw kt c l s p S := by
  intro l
  induction l with
  | zero =>
    intro s p S hs h
    unfold sh_G sh_F
    rw [if_pos (h rfl)]
  | succ l ih =>
    intro s p S hs h
    unfold sh_G sh_F
    refine en_fo_c (fun a ha S => en_fo_c (fun b hb S => ?_))
    by_cases d : sh_d fit kw p s a b
    · by_cases e : ps_sum (fun j => kt (p j)) (2 * s) + kt a + kt b + LB (s + 1) < S.1
      · rw [if_pos ⟨d, e⟩, if_pos d]
        refine ih (s + 1) _ S (by omega) (fun z => ?_)
        rw [sh_T]
        have : LB (s + 1) = 0 := by rw [show s + 1 = cnt by omega]; exact h0
        omega
      · rw [if_neg (fun z => e z.2), if_pos d]
        refine (sh_id h0 h1 l (s + 1) _ S (by omega) ?_).symm
        rw [sh_T]
        omega
    · rw [if_neg (fun z => d z.1), if_neg d]
