/-! ===== SHARED: sets of WAVES ===== -/
/-- so many of the set x are below i -/
def sb_n (x : Nat) : Nat → Nat
  | 0 => 0
  | i + 1 => sb_n x i + (if x.testBit i = true then 1 else 0)
/-- x without its lowest -/
def sb_r (x : Nat) : Nat → Nat
  | 0 => x
  | s + 1 => (sb_r x s) &&& (sb_r x s - 1)
/-- the lowest of x, from i on, n looked at -/
def sb_lo (x : Nat) : Nat → Nat → Nat
  | 0, i => i
  | n + 1, i => if x.testBit i = true then i else sb_lo x n (i + 1)
/-- the WAVE with s of the set before it -/
def sb_w (x s : Nat) : Nat := sb_lo (sb_r x s) 6 0
def sb_σ : am_H := (fun _ _ _ => 0, fun _ _ _ => 0, fun _ _ _ => none)
theorem sb_1 : ∀ x : Fin 64, ∀ i : Fin 6, (((Int32.ofInt (x.val : Int)) >>> ((Int32.ofInt (i.val : Int)) &&& Int32.ofInt 31)) &&& Int32.ofInt 1) = Int32.ofInt (if x.val.testBit i.val = true then 1 else 0) := by decide +kernel
theorem sb_2 : ∀ x : Fin 64, ∀ i : Fin 6, x.val.testBit i.val = true → sb_w x.val (sb_n x.val i.val) = i.val := by decide +kernel
theorem sb_3 : ∀ x : Fin 64, ∀ s : Fin 6, s.val < sb_n x.val 6 → sb_r x.val s.val ≠ 0 ∧ sb_r x.val s.val < 64 ∧ f_J6_numberOfTrailingZeros_0f7a4 (Int32.ofInt (sb_r x.val s.val : Int)) sb_σ = some (Int32.ofInt (sb_w x.val s.val : Int)) ∧ ((Int32.ofInt (sb_r x.val s.val : Int)) &&& (Int32.ofInt ((sb_r x.val s.val : Int) - 1))) = Int32.ofInt (sb_r x.val (s.val + 1) : Int) := by decide +kernel
theorem sb_4 : ∀ x : Fin 64, sb_r x.val (sb_n x.val 6) = 0 ∧ f_J6_bitCount_0f7a4 (Int32.ofInt (x.val : Int)) sb_σ = some (Int32.ofInt (sb_n x.val 6 : Int)) := by decide +kernel
theorem sb_5 : ∀ x : Fin 64, ∀ w : Fin 7, x.val < 2 ^ w.val → sb_n x.val w.val = sb_n x.val 6 := by decide +kernel
theorem sb_6 : ∀ x : Fin 64, ∀ w : Fin 7, ∀ s : Fin 6, x.val < 2 ^ w.val → s.val < sb_n x.val 6 → sb_w x.val s.val < w.val := by decide +kernel
theorem sb_7 : ∀ w : Fin 7, (Int32.ofInt 1 <<< ((Int32.ofInt (w.val : Int)) &&& Int32.ofInt 31)) - Int32.ofInt 1 = Int32.ofInt ((2 ^ w.val : Nat) - 1 : Int) := by decide +kernel
theorem sb_tz {x : Int32} {σ : am_H} : f_J6_numberOfTrailingZeros_0f7a4 x σ = f_J6_numberOfTrailingZeros_0f7a4 x sb_σ := rfl
theorem sb_bc {x : Int32} {σ : am_H} : f_J6_bitCount_0f7a4 x σ = f_J6_bitCount_0f7a4 x sb_σ := rfl
