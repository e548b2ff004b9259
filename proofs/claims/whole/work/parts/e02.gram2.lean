/-! ===== SETTINGS: determinants of such sums ===== -/
def d2 (a b : Nat → Int) (i j : Nat) : Int := a i * b j - a j * b i
def d3 (a b c : Nat → Int) (i j k : Nat) : Int := a i * d2 b c j k - a j * d2 b c i k + a k * d2 b c i j
def d4 (a b c d : Nat → Int) (i j k l : Nat) : Int := a i * d3 b c d j k l - a j * d3 b c d i k l + a k * d3 b c d i j l - a l * d3 b c d i j k
def d5 (a b c d e : Nat → Int) (i j k l m : Nat) : Int := a i * d4 b c d e j k l m - a j * d4 b c d e i k l m + a k * d4 b c d e i j l m - a l * d4 b c d e i j k m + a m * d4 b c d e i j k l
theorem d5_1 (a c d e : Nat → Int) (i j k l m : Nat) : d5 a a c d e i j k l m = 0 := by simp only [d5, d4, d3, d2]; grind
theorem d5_2 (a b d e : Nat → Int) (i j k l m : Nat) : d5 a b a d e i j k l m = 0 := by simp only [d5, d4, d3, d2]; grind
theorem d5_3 (a b c e : Nat → Int) (i j k l m : Nat) : d5 a b c a e i j k l m = 0 := by simp only [d5, d4, d3, d2]; grind
theorem d5_4 (a b c d : Nat → Int) (i j k l m : Nat) : d5 a b c d a i j k l m = 0 := by simp only [d5, d4, d3, d2]; grind
theorem d5_r (a b c d e : Nat → Int) (i j k l m : Nat) : d5 e a b c d i j k l m = d5 a b c d e i j k l m := by simp only [d5, d4, d3, d2]; grind
theorem d4_1 (a c d : Nat → Int) (i j k l : Nat) : d4 a a c d i j k l = 0 := by simp only [d4, d3, d2]; grind
theorem d4_2 (a b d : Nat → Int) (i j k l : Nat) : d4 a b a d i j k l = 0 := by simp only [d4, d3, d2]; grind
theorem d4_3 (a b c : Nat → Int) (i j k l : Nat) : d4 a b c a i j k l = 0 := by simp only [d4, d3, d2]; grind
theorem d4_r (a b c d : Nat → Int) (i j k l : Nat) : d4 d a b c i j k l = - d4 a b c d i j k l := by simp only [d4, d3, d2]; grind
theorem d3_1 (a c : Nat → Int) (i j k : Nat) : d3 a a c i j k = 0 := by simp only [d3, d2]; grind
theorem d3_2 (a b : Nat → Int) (i j k : Nat) : d3 a b a i j k = 0 := by simp only [d3, d2]; grind
theorem d3_r (a b c : Nat → Int) (i j k : Nat) : d3 c a b i j k = d3 a b c i j k := by simp only [d3, d2]; grind
def gg (n : Nat) (x : Nat → Nat → Int) (i j : Nat) : Int := ip n (x i) (x j)
theorem gg_c {n : Nat} {x : Nat → Nat → Int} {i : Nat} : (fun j => ip n (x j) (x i)) = gg n x i := funext fun _ => ip_c
/-- two, three, four, five vectors -/
theorem gr_2 {n : Nat} {x : Nat → Nat → Int} : 0 ≤ d2 (gg n x 0) (gg n x 1) 0 1 ∧ d2 (gg n x 0) (gg n x 1) 0 1 ≤ gg n x 0 0 * gg n x 1 1 := by
  have hl : ∀ h : Nat → Int, ip n (fun t => -(gg n x 0 1) * x 0 t + gg n x 0 0 * x 1 t) h = d2 (gg n x 0) (fun j => ip n (x j) h) 0 1 := fun h => by
    rw [ip_2]
    unfold d2
    grind
  have e1 : ip n (fun t => -(gg n x 0 1) * x 0 t + gg n x 0 0 * x 1 t) (x 1) = d2 (gg n x 0) (gg n x 1) 0 1 := by rw [hl, gg_c]
  have e0 : ip n (fun t => -(gg n x 0 1) * x 0 t + gg n x 0 0 * x 1 t) (x 0) = 0 := by
    rw [hl, gg_c]
    unfold d2
    grind
  have ww : ip n (fun t => -(gg n x 0 1) * x 0 t + gg n x 0 0 * x 1 t) (fun t => -(gg n x 0 1) * x 0 t + gg n x 0 0 * x 1 t) = gg n x 0 0 * d2 (gg n x 0) (gg n x 1) 0 1 := by
    rw [ip_2, ip_c (f := x 0), e0, ip_c (f := x 1), e1]
    omega
  exact gr_st ip_nn ww e1
theorem gr_3 {n : Nat} {x : Nat → Nat → Int} : 0 ≤ d3 (gg n x 0) (gg n x 1) (gg n x 2) 0 1 2 ∧ d3 (gg n x 0) (gg n x 1) (gg n x 2) 0 1 2 ≤ d2 (gg n x 0) (gg n x 1) 0 1 * gg n x 2 2 := by
  have hl : ∀ h : Nat → Int, ip n (fun t => d2 (gg n x 0) (gg n x 1) 1 2 * x 0 t + -(d2 (gg n x 0) (gg n x 1) 0 2) * x 1 t + d2 (gg n x 0) (gg n x 1) 0 1 * x 2 t + 0 * x 3 t + 0 * x 4 t) h = d3 (fun j => ip n (x j) h) (gg n x 0) (gg n x 1) 0 1 2 := fun h => by
    rw [ip_5]
    unfold d3
    grind
  have e2 := (hl (x 2)).trans (show _ = d3 (gg n x 0) (gg n x 1) (gg n x 2) 0 1 2 by rw [gg_c, d3_r])
  have e0 := (hl (x 0)).trans (show _ = 0 by rw [gg_c, d3_1])
  have e1 := (hl (x 1)).trans (show _ = 0 by rw [gg_c, d3_2])
  refine gr_st (gr_2 (n := n) (x := x)).1 ?_ e2
  rw [ip_5, ip_c (f := x 0), e0, ip_c (f := x 1), e1, ip_c (f := x 2), e2]
  omega
theorem gr_4 {n : Nat} {x : Nat → Nat → Int} : 0 ≤ d4 (gg n x 0) (gg n x 1) (gg n x 2) (gg n x 3) 0 1 2 3 ∧ d4 (gg n x 0) (gg n x 1) (gg n x 2) (gg n x 3) 0 1 2 3 ≤ d3 (gg n x 0) (gg n x 1) (gg n x 2) 0 1 2 * gg n x 3 3 := by
  have hl : ∀ h : Nat → Int, ip n (fun t => -(d3 (gg n x 0) (gg n x 1) (gg n x 2) 1 2 3) * x 0 t + d3 (gg n x 0) (gg n x 1) (gg n x 2) 0 2 3 * x 1 t + -(d3 (gg n x 0) (gg n x 1) (gg n x 2) 0 1 3) * x 2 t + d3 (gg n x 0) (gg n x 1) (gg n x 2) 0 1 2 * x 3 t + 0 * x 4 t) h = - d4 (fun j => ip n (x j) h) (gg n x 0) (gg n x 1) (gg n x 2) 0 1 2 3 := fun h => by
    rw [ip_5]
    unfold d4
    grind
  have e3 := (hl (x 3)).trans (show _ = d4 (gg n x 0) (gg n x 1) (gg n x 2) (gg n x 3) 0 1 2 3 by rw [gg_c, d4_r]; omega)
  have e0 := (hl (x 0)).trans (show _ = 0 by rw [gg_c, d4_1]; rfl)
  have e1 := (hl (x 1)).trans (show _ = 0 by rw [gg_c, d4_2]; rfl)
  have e2 := (hl (x 2)).trans (show _ = 0 by rw [gg_c, d4_3]; rfl)
  refine gr_st (gr_3 (n := n) (x := x)).1 ?_ e3
  rw [ip_5, ip_c (f := x 0), e0, ip_c (f := x 1), e1, ip_c (f := x 2), e2, ip_c (f := x 3), e3]
  omega
/-- five, and what a sixth is with them -/
theorem gr_5 {n : Nat} {x : Nat → Nat → Int} (y : Nat → Int) : (0 ≤ d5 (gg n x 0) (gg n x 1) (gg n x 2) (gg n x 3) (gg n x 4) 0 1 2 3 4 ∧ d5 (gg n x 0) (gg n x 1) (gg n x 2) (gg n x 3) (gg n x 4) 0 1 2 3 4 ≤ d4 (gg n x 0) (gg n x 1) (gg n x 2) (gg n x 3) 0 1 2 3 * gg n x 4 4) ∧ d5 (gg n x 0) (gg n x 1) (gg n x 2) (gg n x 3) (fun j => ip n (x j) y) 0 1 2 3 4 * d5 (gg n x 0) (gg n x 1) (gg n x 2) (gg n x 3) (fun j => ip n (x j) y) 0 1 2 3 4 ≤ d4 (gg n x 0) (gg n x 1) (gg n x 2) (gg n x 3) 0 1 2 3 * d5 (gg n x 0) (gg n x 1) (gg n x 2) (gg n x 3) (gg n x 4) 0 1 2 3 4 * ip n y y := by
  have hl : ∀ h : Nat → Int, ip n (fun t => d4 (gg n x 0) (gg n x 1) (gg n x 2) (gg n x 3) 1 2 3 4 * x 0 t + -(d4 (gg n x 0) (gg n x 1) (gg n x 2) (gg n x 3) 0 2 3 4) * x 1 t + d4 (gg n x 0) (gg n x 1) (gg n x 2) (gg n x 3) 0 1 3 4 * x 2 t + -(d4 (gg n x 0) (gg n x 1) (gg n x 2) (gg n x 3) 0 1 2 4) * x 3 t + d4 (gg n x 0) (gg n x 1) (gg n x 2) (gg n x 3) 0 1 2 3 * x 4 t) h = d5 (fun j => ip n (x j) h) (gg n x 0) (gg n x 1) (gg n x 2) (gg n x 3) 0 1 2 3 4 := fun h => by
    rw [ip_5]
    unfold d5
    grind
  have e4 := (hl (x 4)).trans (show _ = d5 (gg n x 0) (gg n x 1) (gg n x 2) (gg n x 3) (gg n x 4) 0 1 2 3 4 by rw [gg_c, d5_r])
  have e0 := (hl (x 0)).trans (show _ = 0 by rw [gg_c, d5_1])
  have e1 := (hl (x 1)).trans (show _ = 0 by rw [gg_c, d5_2])
  have e2 := (hl (x 2)).trans (show _ = 0 by rw [gg_c, d5_3])
  have e3 := (hl (x 3)).trans (show _ = 0 by rw [gg_c, d5_4])
  have ey := (hl y).trans (d5_r (gg n x 0) (gg n x 1) (gg n x 2) (gg n x 3) (fun j => ip n (x j) y) 0 1 2 3 4)
  have ww : ip n (fun t => d4 (gg n x 0) (gg n x 1) (gg n x 2) (gg n x 3) 1 2 3 4 * x 0 t + -(d4 (gg n x 0) (gg n x 1) (gg n x 2) (gg n x 3) 0 2 3 4) * x 1 t + d4 (gg n x 0) (gg n x 1) (gg n x 2) (gg n x 3) 0 1 3 4 * x 2 t + -(d4 (gg n x 0) (gg n x 1) (gg n x 2) (gg n x 3) 0 1 2 4) * x 3 t + d4 (gg n x 0) (gg n x 1) (gg n x 2) (gg n x 3) 0 1 2 3 * x 4 t) (fun t => d4 (gg n x 0) (gg n x 1) (gg n x 2) (gg n x 3) 1 2 3 4 * x 0 t + -(d4 (gg n x 0) (gg n x 1) (gg n x 2) (gg n x 3) 0 2 3 4) * x 1 t + d4 (gg n x 0) (gg n x 1) (gg n x 2) (gg n x 3) 0 1 3 4 * x 2 t + -(d4 (gg n x 0) (gg n x 1) (gg n x 2) (gg n x 3) 0 1 2 4) * x 3 t + d4 (gg n x 0) (gg n x 1) (gg n x 2) (gg n x 3) 0 1 2 3 * x 4 t) = d4 (gg n x 0) (gg n x 1) (gg n x 2) (gg n x 3) 0 1 2 3 * d5 (gg n x 0) (gg n x 1) (gg n x 2) (gg n x 3) (gg n x 4) 0 1 2 3 4 := by
    rw [ip_5, ip_c (f := x 0), e0, ip_c (f := x 1), e1, ip_c (f := x 2), e2, ip_c (f := x 3), e3, ip_c (f := x 4), e4]
    omega
  refine ⟨gr_st (gr_4 (n := n) (x := x)).1 ww e4, ?_⟩
  have cs := ip_cs (n := n) (f := fun t => d4 (gg n x 0) (gg n x 1) (gg n x 2) (gg n x 3) 1 2 3 4 * x 0 t + -(d4 (gg n x 0) (gg n x 1) (gg n x 2) (gg n x 3) 0 2 3 4) * x 1 t + d4 (gg n x 0) (gg n x 1) (gg n x 2) (gg n x 3) 0 1 3 4 * x 2 t + -(d4 (gg n x 0) (gg n x 1) (gg n x 2) (gg n x 3) 0 1 2 4) * x 3 t + d4 (gg n x 0) (gg n x 1) (gg n x 2) (gg n x 3) 0 1 2 3 * x 4 t) (g := y)
  rw [ww, ey] at cs
  exact cs
