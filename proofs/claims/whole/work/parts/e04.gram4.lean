/-- the order with j at the end -/
def gp (j k : Nat) : Nat := if k = 4 then j else if k < j then k else k + 1
def gR (n j : Nat) (x : Nat → Nat → Int) (c : Nat → Int) (i k : Nat) : Int := if k = j then c i else gg n x i k
theorem gr_tp {n j : Nat} {x : Nat → Nat → Int} {c : Nat → Int} (hj : j < 5) : d5 (gR n j x c 0) (gR n j x c 1) (gR n j x c 2) (gR n j x c 3) (gR n j x c 4) 0 1 2 3 4 = d5 (gg n (fun k => x (gp j k)) 0) (gg n (fun k => x (gp j k)) 1) (gg n (fun k => x (gp j k)) 2) (gg n (fun k => x (gp j k)) 3) (fun k => c (gp j k)) 0 1 2 3 4 := by
  have s : ∀ i j, gg n x i j = gg n x j i := fun i j => ip_c
  have z : ∀ i k, gg n (fun k => x (gp j k)) i k = gg n x (gp j i) (gp j k) := fun i k => rfl
  simp only [d5, d4, d3, d2, z]
  rcases (by omega : j = 0 ∨ j = 1 ∨ j = 2 ∨ j = 3 ∨ j = 4) with rfl | rfl | rfl | rfl | rfl
  all_goals
    simp [gR, gp]
    simp only [s 2 1, s 3 1, s 4 1, s 3 2, s 4 2, s 4 3, s 1 0, s 2 0, s 3 0, s 4 0]
    grind
theorem sq_lt {t B : Int} (hB : 0 < B) (h : t * t < B * B) : -B < t ∧ t < B := by
  constructor
  · by_cases c : -B < t
    · exact c
    · have := Int.mul_le_mul (show B ≤ -t by omega) (show B ≤ -t by omega) (by omega) (by omega)
      rw [Int.neg_mul_neg] at this
      omega
  · by_cases c : t < B
    · exact c
    · have := Int.mul_le_mul (show B ≤ t by omega) (show B ≤ t by omega) (by omega) (by omega)
      omega
/-- the tops of five parts -/
theorem gr_top5 {n j : Nat} {x : Nat → Nat → Int} {y : Nat → Int} (hj : j < 5) (h0 : gg n x 0 0 ≤ 24) (h1 : ∀ i, i < 5 → gg n x i i ≤ 3456) (hy : ip n y y ≤ 23952024) : -9223372036854775808 < d5 (gR n j x (fun i => ip n (x i) y) 0) (gR n j x (fun i => ip n (x i) y) 1) (gR n j x (fun i => ip n (x i) y) 2) (gR n j x (fun i => ip n (x i) y) 3) (gR n j x (fun i => ip n (x i) y) 4) 0 1 2 3 4 ∧ d5 (gR n j x (fun i => ip n (x i) y) 0) (gR n j x (fun i => ip n (x i) y) 1) (gR n j x (fun i => ip n (x i) y) 2) (gR n j x (fun i => ip n (x i) y) 3) (gR n j x (fun i => ip n (x i) y) 4) 0 1 2 3 4 < 9223372036854775808 := by
  rw [gr_tp hj]
  have g5 := gr_5 (n := n) (x := fun k => x (gp j k)) y
  have g4 := (gr_4 (n := n) (x := fun k => x (gp j k))).1
  obtain ⟨-, -, b4, b5⟩ := gr_b (n := n) (x := fun k => x (gp j k)) (b := fun k => if gp j k = 0 then 24 else 3456) (fun i hi => by
    show gg n x (gp j i) (gp j i) ≤ if gp j i = 0 then 24 else 3456
    by_cases e : gp j i = 0
    · rw [if_pos e, e]
      exact h0
    · rw [if_neg e]
      refine h1 _ ?_
      unfold gp
      split
      · omega
      · split <;> omega)
  have B4 : d4 (gg n (fun k => x (gp j k)) 0) (gg n (fun k => x (gp j k)) 1) (gg n (fun k => x (gp j k)) 2) (gg n (fun k => x (gp j k)) 3) 0 1 2 3 ≤ 142657607172096 := by
    refine Int.le_trans b4 ?_
    rcases (by omega : j = 0 ∨ j = 1 ∨ j = 2 ∨ j = 3 ∨ j = 4) with rfl | rfl | rfl | rfl | rfl <;> decide
  have B5 : d5 (gg n (fun k => x (gp j k)) 0) (gg n (fun k => x (gp j k)) 1) (gg n (fun k => x (gp j k)) 2) (gg n (fun k => x (gp j k)) 3) (gg n (fun k => x (gp j k)) 4) 0 1 2 3 4 ≤ 3423782572130304 := by
    refine Int.le_trans b5 ?_
    rcases (by omega : j = 0 ∨ j = 1 ∨ j = 2 ∨ j = 3 ∨ j = 4) with rfl | rfl | rfl | rfl | rfl <;> decide
  have m1 := mul_b B4 g5.1.1 B5 (by omega)
  have m2 := mul_b m1 (ip_nn (n := n) (f := y)) hy (by omega)
  exact sq_lt (by omega) (Int.lt_of_le_of_lt (Int.le_trans g5.2 m2) (by decide))
