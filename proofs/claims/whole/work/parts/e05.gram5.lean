/-- the order of three with j at the end -/
def gp3 (j k : Nat) : Nat := if k = 2 then j else if k < j then k else k + 1
theorem gr_tp3 {n j : Nat} {x : Nat → Nat → Int} {c : Nat → Int} (hj : j < 3) : d3 (gR n j x c 0) (gR n j x c 1) (gR n j x c 2) 0 1 2 = d3 (gg n (fun k => x (gp3 j k)) 0) (gg n (fun k => x (gp3 j k)) 1) (fun k => c (gp3 j k)) 0 1 2 := by
  have s : ∀ i j, gg n x i j = gg n x j i := fun i j => ip_c
  have z : ∀ i k, gg n (fun k => x (gp3 j k)) i k = gg n x (gp3 j i) (gp3 j k) := fun i k => rfl
  simp only [d3, d2, z]
  rcases (by omega : j = 0 ∨ j = 1 ∨ j = 2) with rfl | rfl | rfl
  all_goals
    simp [gR, gp3]
    simp only [s 2 1, s 1 0, s 2 0]
    grind
/-- the tops of three parts -/
theorem gr_top3 {n j : Nat} {x : Nat → Nat → Int} {y : Nat → Int} (hj : j < 3) (h1 : ∀ i, i < 5 → gg n x i i ≤ 3456) (hy : ip n y y ≤ 23952024) : -9223372036854775808 < d3 (gR n j x (fun i => ip n (x i) y) 0) (gR n j x (fun i => ip n (x i) y) 1) (gR n j x (fun i => ip n (x i) y) 2) 0 1 2 ∧ d3 (gR n j x (fun i => ip n (x i) y) 0) (gR n j x (fun i => ip n (x i) y) 1) (gR n j x (fun i => ip n (x i) y) 2) 0 1 2 < 9223372036854775808 := by
  rw [gr_tp3 hj]
  have g3y := gr_3y (n := n) (x := fun k => x (gp3 j k)) y
  have g3 := (gr_3 (n := n) (x := fun k => x (gp3 j k))).1
  have hx : ∀ i, i < 3 → gg n (fun k => x (gp3 j k)) i i ≤ 3456 := fun i hi => by
    show gg n x (gp3 j i) (gp3 j i) ≤ 3456
    refine h1 _ ?_
    unfold gp3
    split
    · omega
    · split <;> omega
  have nn : ∀ i, 0 ≤ gg n (fun k => x (gp3 j k)) i i := fun i => ip_nn
  have B2 := Int.le_trans (gr_2 (n := n) (x := fun k => x (gp3 j k))).2 (mul_b (hx 0 (by omega)) (nn 1) (hx 1 (by omega)) (by omega))
  have B3 := Int.le_trans (gr_3 (n := n) (x := fun k => x (gp3 j k))).2 (mul_b B2 (nn 2) (hx 2 (by omega)) (by omega))
  have m1 := mul_b B2 g3 B3 (by omega)
  have m2 := mul_b m1 (ip_nn (n := n) (f := y)) hy (by omega)
  exact sq_lt (by omega) (Int.lt_of_le_of_lt (Int.le_trans g3y m2) (by decide))
/-- the bottoms -/
theorem gr_bot {n : Nat} {x : Nat → Nat → Int} (h0 : gg n x 0 0 ≤ 24) (h1 : ∀ i, i < 5 → gg n x i i ≤ 3456) : (0 ≤ d3 (gg n x 0) (gg n x 1) (gg n x 2) 0 1 2 ∧ d3 (gg n x 0) (gg n x 1) (gg n x 2) 0 1 2 < 9223372036854775808) ∧ (0 ≤ d5 (gg n x 0) (gg n x 1) (gg n x 2) (gg n x 3) (gg n x 4) 0 1 2 3 4 ∧ d5 (gg n x 0) (gg n x 1) (gg n x 2) (gg n x 3) (gg n x 4) 0 1 2 3 4 < 9223372036854775808) := by
  obtain ⟨-, b3, -, b5⟩ := gr_b (n := n) (x := x) (b := fun k => if k = 0 then 24 else 3456) (fun i hi => by
    show gg n x i i ≤ if i = 0 then 24 else 3456
    by_cases e : i = 0
    · rw [if_pos e, e]
      exact h0
    · rw [if_neg e]
      exact h1 i hi)
  exact ⟨⟨(gr_3 (n := n) (x := x)).1, Int.lt_of_le_of_lt b3 (by decide)⟩, ⟨(gr_5 (n := n) (x := x) (x 0)).1.1, Int.lt_of_le_of_lt b5 (by decide)⟩⟩
