/-! ===== SETTINGS: sums of products ===== -/
def ip (n : Nat) (f g : Nat → Int) : Int := ps_sum (fun t => f t * g t) n
theorem ip_c {n : Nat} {f g : Nat → Int} : ip n f g = ip n g f := ps_congr (fun j _ => Int.mul_comm _ _)
theorem ip_5 {n : Nat} {a b c d e : Int} {x0 x1 x2 x3 x4 h : Nat → Int} : ip n (fun t => a * x0 t + b * x1 t + c * x2 t + d * x3 t + e * x4 t) h = a * ip n x0 h + b * ip n x1 h + c * ip n x2 h + d * ip n x3 h + e * ip n x4 h := by
  induction n with
  | zero =>
    show (0 : Int) = a * 0 + b * 0 + c * 0 + d * 0 + e * 0
    omega
  | succ n ih =>
    show ip n (fun t => a * x0 t + b * x1 t + c * x2 t + d * x3 t + e * x4 t) h + (a * x0 n + b * x1 n + c * x2 n + d * x3 n + e * x4 n) * h n = a * (ip n x0 h + x0 n * h n) + b * (ip n x1 h + x1 n * h n) + c * (ip n x2 h + x2 n * h n) + d * (ip n x3 h + x3 n * h n) + e * (ip n x4 h + x4 n * h n)
    rw [ih]
    grind
theorem ip_2 {n : Nat} {a b : Int} {x0 x1 h : Nat → Int} : ip n (fun t => a * x0 t + b * x1 t) h = a * ip n x0 h + b * ip n x1 h := by
  induction n with
  | zero =>
    show (0 : Int) = a * 0 + b * 0
    omega
  | succ n ih =>
    show ip n (fun t => a * x0 t + b * x1 t) h + (a * x0 n + b * x1 n) * h n = a * (ip n x0 h + x0 n * h n) + b * (ip n x1 h + x1 n * h n)
    rw [ih]
    grind
theorem sq_nn (a : Int) : 0 ≤ a * a := by
  by_cases h : 0 ≤ a
  · exact Int.mul_nonneg h h
  · have := Int.mul_nonneg (show 0 ≤ -a by omega) (show 0 ≤ -a by omega)
    rwa [Int.neg_mul_neg] at this
theorem ip_nn {n : Nat} {f : Nat → Int} : 0 ≤ ip n f f := by
  induction n with
  | zero => exact Int.le_refl 0
  | succ n ih =>
    show 0 ≤ ip n f f + f n * f n
    have : 0 ≤ f n * f n := sq_nn _
    omega
theorem ip_b {n : Nat} {f : Nat → Int} {B : Int} (h : ∀ t, t < n → -B ≤ f t ∧ f t ≤ B) (hB : 0 ≤ B) : ip n f f ≤ n * (B * B) := by
  induction n with
  | zero =>
    show (0 : Int) ≤ ((0 : Nat) : Int) * (B * B)
    rw [show ((0 : Nat) : Int) = 0 from rfl, Int.zero_mul]
    omega
  | succ n ih =>
    have i := ih (fun t ht => h t (by omega))
    have hn := h n (by omega)
    show ip n f f + f n * f n ≤ ((n + 1 : Nat) : Int) * (B * B)
    have e : ((n + 1 : Nat) : Int) * (B * B) = n * (B * B) + B * B := by
      rw [show ((n + 1 : Nat) : Int) = (n : Int) + 1 from rfl, Int.add_mul, Int.one_mul]
    have s : 0 ≤ (B - f n) * (B + f n) := Int.mul_nonneg (by omega) (by omega)
    have s' : (B - f n) * (B + f n) = B * B - f n * f n := by grind
    omega
/-- Cauchy and Schwarz -/
theorem ip_cs {n : Nat} {f g : Nat → Int} : ip n f g * ip n f g ≤ ip n f f * ip n g g := by
  have A := ip_nn (n := n) (f := f)
  have B := ip_nn (n := n) (f := g)
  by_cases c : ip n f f = 0
  · have q := ip_nn (n := n) (f := fun t => 1 * g t + (-((ip n g g + 1) * ip n f g)) * f t)
    rw [ip_2, ip_c (f := g), ip_c (f := f) (g := fun t => 1 * g t + (-((ip n g g + 1) * ip n f g)) * f t), ip_2, ip_2, ip_c (f := g) (g := f), c] at q
    generalize ip n f g = C at q ⊢
    generalize ip n g g = D at q B ⊢
    have e : 1 * (1 * D + -((D + 1) * C) * C) + -((D + 1) * C) * (1 * C + -((D + 1) * C) * 0) = D - 2 * (D * (C * C)) - 2 * (C * C) := by grind
    rw [e] at q
    rw [c, Int.zero_mul]
    have c0 : 0 ≤ C * C := sq_nn C
    by_cases z : C * C = 0
    · omega
    · have : D * 1 ≤ D * (C * C) := Int.mul_le_mul_of_nonneg_left (by omega) B
      omega
  · have q := ip_nn (n := n) (f := fun t => ip n f f * g t + (-(ip n f g)) * f t)
    rw [ip_2, ip_c (f := g), ip_c (f := f) (g := fun t => ip n f f * g t + (-(ip n f g)) * f t), ip_2, ip_2, ip_c (f := g) (g := f)] at q
    generalize ip n f g = C at q ⊢
    generalize ip n g g = D at q B ⊢
    generalize ip n f f = E at q A c ⊢
    have e : E * (E * D + -C * C) + -C * (E * C + -C * E) = E * (E * D - C * C) := by grind
    rw [e] at q
    by_cases z : C * C ≤ E * D
    · exact z
    · have : E * (E * D - C * C) < 0 := Int.mul_neg_of_pos_of_neg (by omega) (by omega)
      omega
/-- one vector more: the determinant grows by at most its square -/
theorem gr_st {n : Nat} {w x : Nat → Int} {D E : Int} (hD : 0 ≤ D) (hw : ip n w w = D * E) (hx : ip n w x = E) : 0 ≤ E ∧ E ≤ D * ip n x x := by
  have cs := ip_cs (n := n) (f := w) (g := x)
  have nn := ip_nn (n := n) (f := w)
  have xx := ip_nn (n := n) (f := x)
  rw [hw] at nn
  rw [hw, hx] at cs
  generalize ip n x x = X at cs xx ⊢
  have dx : 0 ≤ D * X := Int.mul_nonneg hD xx
  by_cases e0 : E = 0
  · omega
  · have ee : 0 < E * E := by
      rcases Int.lt_or_gt_of_ne e0 with h | h
      · exact Int.mul_pos_of_neg_of_neg h h
      · exact Int.mul_pos h h
    by_cases e1 : E < 0
    · have de : D * E ≤ 0 := Int.mul_nonpos_of_nonneg_of_nonpos hD (by omega)
      have de0 : D * E = 0 := by omega
      rw [de0, Int.zero_mul] at cs
      omega
    · refine ⟨by omega, ?_⟩
      by_cases z : E ≤ D * X
      · exact z
      · have s : E * (D * X) < E * E := Int.mul_lt_mul_of_pos_left (by omega) (by omega)
        have s' : D * E * X = E * (D * X) := by grind
        omega
