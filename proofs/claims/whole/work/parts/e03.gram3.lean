/-! ===== SETTINGS: how big they are ===== -/
theorem gr_3y {n : Nat} {x : Nat → Nat → Int} (y : Nat → Int) : d3 (gg n x 0) (gg n x 1) (fun j => ip n (x j) y) 0 1 2 * d3 (gg n x 0) (gg n x 1) (fun j => ip n (x j) y) 0 1 2 ≤ d2 (gg n x 0) (gg n x 1) 0 1 * d3 (gg n x 0) (gg n x 1) (gg n x 2) 0 1 2 * ip n y y := by
  have hl : ∀ h : Nat → Int, ip n (fun t => d2 (gg n x 0) (gg n x 1) 1 2 * x 0 t + -(d2 (gg n x 0) (gg n x 1) 0 2) * x 1 t + d2 (gg n x 0) (gg n x 1) 0 1 * x 2 t + 0 * x 3 t + 0 * x 4 t) h = d3 (fun j => ip n (x j) h) (gg n x 0) (gg n x 1) 0 1 2 := fun h => by
    rw [ip_5]
    unfold d3
    grind
  have e2 := (hl (x 2)).trans (show _ = d3 (gg n x 0) (gg n x 1) (gg n x 2) 0 1 2 by rw [gg_c, d3_r])
  have e0 := (hl (x 0)).trans (show _ = 0 by rw [gg_c, d3_1])
  have e1 := (hl (x 1)).trans (show _ = 0 by rw [gg_c, d3_2])
  have ey := (hl y).trans (d3_r (gg n x 0) (gg n x 1) (fun j => ip n (x j) y) 0 1 2)
  have cs := ip_cs (n := n) (f := fun t => d2 (gg n x 0) (gg n x 1) 1 2 * x 0 t + -(d2 (gg n x 0) (gg n x 1) 0 2) * x 1 t + d2 (gg n x 0) (gg n x 1) 0 1 * x 2 t + 0 * x 3 t + 0 * x 4 t) (g := y)
  rw [ey, ip_5, ip_c (f := x 0), e0, ip_c (f := x 1), e1, ip_c (f := x 2), e2] at cs
  rw [show d2 (gg n x 0) (gg n x 1) 1 2 * 0 + -(d2 (gg n x 0) (gg n x 1) 0 2) * 0 + d2 (gg n x 0) (gg n x 1) 0 1 * d3 (gg n x 0) (gg n x 1) (gg n x 2) 0 1 2 + 0 * ip n (x 3) (fun t => d2 (gg n x 0) (gg n x 1) 1 2 * x 0 t + -(d2 (gg n x 0) (gg n x 1) 0 2) * x 1 t + d2 (gg n x 0) (gg n x 1) 0 1 * x 2 t + 0 * x 3 t + 0 * x 4 t) + 0 * ip n (x 4) (fun t => d2 (gg n x 0) (gg n x 1) 1 2 * x 0 t + -(d2 (gg n x 0) (gg n x 1) 0 2) * x 1 t + d2 (gg n x 0) (gg n x 1) 0 1 * x 2 t + 0 * x 3 t + 0 * x 4 t) = d2 (gg n x 0) (gg n x 1) 0 1 * d3 (gg n x 0) (gg n x 1) (gg n x 2) 0 1 2 by rw [Int.zero_mul, Int.zero_mul, Int.mul_zero, Int.mul_zero]; omega] at cs
  exact cs
theorem mul_b {a b A B : Int} (h1 : a ≤ A) (h2 : 0 ≤ b) (h3 : b ≤ B) (h4 : 0 ≤ A) : a * b ≤ A * B := Int.le_trans (Int.mul_le_mul_of_nonneg_right h1 h2) (Int.mul_le_mul_of_nonneg_left h3 h4)
theorem gr_b {n : Nat} {x : Nat → Nat → Int} {b : Nat → Int} (hb : ∀ i, i < 5 → gg n x i i ≤ b i) : d2 (gg n x 0) (gg n x 1) 0 1 ≤ b 0 * b 1 ∧ d3 (gg n x 0) (gg n x 1) (gg n x 2) 0 1 2 ≤ b 0 * b 1 * b 2 ∧ d4 (gg n x 0) (gg n x 1) (gg n x 2) (gg n x 3) 0 1 2 3 ≤ b 0 * b 1 * b 2 * b 3 ∧ d5 (gg n x 0) (gg n x 1) (gg n x 2) (gg n x 3) (gg n x 4) 0 1 2 3 4 ≤ b 0 * b 1 * b 2 * b 3 * b 4 := by
  have nn : ∀ i, 0 ≤ gg n x i i := fun i => ip_nn
  have b0 := Int.le_trans (nn 0) (hb 0 (by omega))
  have h2 := Int.le_trans (gr_2 (n := n) (x := x)).2 (mul_b (hb 0 (by omega)) (nn 1) (hb 1 (by omega)) b0)
  have p2 := Int.le_trans (gr_2 (n := n) (x := x)).1 h2
  have h3 := Int.le_trans (gr_3 (n := n) (x := x)).2 (mul_b h2 (nn 2) (hb 2 (by omega)) p2)
  have p3 := Int.le_trans (gr_3 (n := n) (x := x)).1 h3
  have h4 := Int.le_trans (gr_4 (n := n) (x := x)).2 (mul_b h3 (nn 3) (hb 3 (by omega)) p3)
  have p4 := Int.le_trans (gr_4 (n := n) (x := x)).1 h4
  have h5 := Int.le_trans (gr_5 (n := n) (x := x) (x 0)).1.2 (mul_b h4 (nn 4) (hb 4 (by omega)) p4)
  exact ⟨h2, h3, h4, h5⟩
