/-! ===== SETTINGS: the determinant as both reckon it ===== -/
def dl (m : Nat → Nat → Int) (d : Nat) : Nat → Nat → Nat → Int
  | 0, _, _ => 1
  | k + 1, i, mask => (en_fo (fun c (s : Int × Int) => if mask.testBit c = true then s else (s.1 + s.2 * m i c * dl m d k (i + 1) (mask ||| 2 ^ c), -s.2)) d (0, 1)).1
theorem dl_3 {m : Nat → Nat → Int} : dl m 3 3 0 0 = d3 (m 0) (m 1) (m 2) 0 1 2 := by
  simp [dl, en_fo, d3, d2]
  grind
theorem dl5_30 {m : Nat → Nat → Int} {i : Nat} : dl m 5 1 i 30 = m i 0 := by
  have e : dl m 5 1 i 30 = 0 + 1 * m i 0 * dl m 5 0 (i + 1) 31 := rfl
  rw [e]
  show 0 + 1 * m i 0 * 1 = m i 0
  omega
theorem dl5_29 {m : Nat → Nat → Int} {i : Nat} : dl m 5 1 i 29 = m i 1 := by
  have e : dl m 5 1 i 29 = 0 + 1 * m i 1 * dl m 5 0 (i + 1) 31 := rfl
  rw [e]
  show 0 + 1 * m i 1 * 1 = m i 1
  omega
theorem dl5_27 {m : Nat → Nat → Int} {i : Nat} : dl m 5 1 i 27 = m i 2 := by
  have e : dl m 5 1 i 27 = 0 + 1 * m i 2 * dl m 5 0 (i + 1) 31 := rfl
  rw [e]
  show 0 + 1 * m i 2 * 1 = m i 2
  omega
theorem dl5_23 {m : Nat → Nat → Int} {i : Nat} : dl m 5 1 i 23 = m i 3 := by
  have e : dl m 5 1 i 23 = 0 + 1 * m i 3 * dl m 5 0 (i + 1) 31 := rfl
  rw [e]
  show 0 + 1 * m i 3 * 1 = m i 3
  omega
theorem dl5_15 {m : Nat → Nat → Int} {i : Nat} : dl m 5 1 i 15 = m i 4 := by
  have e : dl m 5 1 i 15 = 0 + 1 * m i 4 * dl m 5 0 (i + 1) 31 := rfl
  rw [e]
  show 0 + 1 * m i 4 * 1 = m i 4
  omega
theorem dl5_28 {m : Nat → Nat → Int} {i : Nat} : dl m 5 2 i 28 = d2 (m i) (m (i + 1)) 0 1 := by
  have e : dl m 5 2 i 28 = 0 + 1 * m i 0 * dl m 5 1 (i + 1) 29 + (-1) * m i 1 * dl m 5 1 (i + 1) 30 := rfl
  rw [e, dl5_29, dl5_30]
  unfold d2
  grind
theorem dl5_26 {m : Nat → Nat → Int} {i : Nat} : dl m 5 2 i 26 = d2 (m i) (m (i + 1)) 0 2 := by
  have e : dl m 5 2 i 26 = 0 + 1 * m i 0 * dl m 5 1 (i + 1) 27 + (-1) * m i 2 * dl m 5 1 (i + 1) 30 := rfl
  rw [e, dl5_27, dl5_30]
  unfold d2
  grind
theorem dl5_22 {m : Nat → Nat → Int} {i : Nat} : dl m 5 2 i 22 = d2 (m i) (m (i + 1)) 0 3 := by
  have e : dl m 5 2 i 22 = 0 + 1 * m i 0 * dl m 5 1 (i + 1) 23 + (-1) * m i 3 * dl m 5 1 (i + 1) 30 := rfl
  rw [e, dl5_23, dl5_30]
  unfold d2
  grind
theorem dl5_14 {m : Nat → Nat → Int} {i : Nat} : dl m 5 2 i 14 = d2 (m i) (m (i + 1)) 0 4 := by
  have e : dl m 5 2 i 14 = 0 + 1 * m i 0 * dl m 5 1 (i + 1) 15 + (-1) * m i 4 * dl m 5 1 (i + 1) 30 := rfl
  rw [e, dl5_15, dl5_30]
  unfold d2
  grind
theorem dl5_25 {m : Nat → Nat → Int} {i : Nat} : dl m 5 2 i 25 = d2 (m i) (m (i + 1)) 1 2 := by
  have e : dl m 5 2 i 25 = 0 + 1 * m i 1 * dl m 5 1 (i + 1) 27 + (-1) * m i 2 * dl m 5 1 (i + 1) 29 := rfl
  rw [e, dl5_27, dl5_29]
  unfold d2
  grind
theorem dl5_21 {m : Nat → Nat → Int} {i : Nat} : dl m 5 2 i 21 = d2 (m i) (m (i + 1)) 1 3 := by
  have e : dl m 5 2 i 21 = 0 + 1 * m i 1 * dl m 5 1 (i + 1) 23 + (-1) * m i 3 * dl m 5 1 (i + 1) 29 := rfl
  rw [e, dl5_23, dl5_29]
  unfold d2
  grind
theorem dl5_13 {m : Nat → Nat → Int} {i : Nat} : dl m 5 2 i 13 = d2 (m i) (m (i + 1)) 1 4 := by
  have e : dl m 5 2 i 13 = 0 + 1 * m i 1 * dl m 5 1 (i + 1) 15 + (-1) * m i 4 * dl m 5 1 (i + 1) 29 := rfl
  rw [e, dl5_15, dl5_29]
  unfold d2
  grind
theorem dl5_19 {m : Nat → Nat → Int} {i : Nat} : dl m 5 2 i 19 = d2 (m i) (m (i + 1)) 2 3 := by
  have e : dl m 5 2 i 19 = 0 + 1 * m i 2 * dl m 5 1 (i + 1) 23 + (-1) * m i 3 * dl m 5 1 (i + 1) 27 := rfl
  rw [e, dl5_23, dl5_27]
  unfold d2
  grind
theorem dl5_11 {m : Nat → Nat → Int} {i : Nat} : dl m 5 2 i 11 = d2 (m i) (m (i + 1)) 2 4 := by
  have e : dl m 5 2 i 11 = 0 + 1 * m i 2 * dl m 5 1 (i + 1) 15 + (-1) * m i 4 * dl m 5 1 (i + 1) 27 := rfl
  rw [e, dl5_15, dl5_27]
  unfold d2
  grind
theorem dl5_7 {m : Nat → Nat → Int} {i : Nat} : dl m 5 2 i 7 = d2 (m i) (m (i + 1)) 3 4 := by
  have e : dl m 5 2 i 7 = 0 + 1 * m i 3 * dl m 5 1 (i + 1) 15 + (-1) * m i 4 * dl m 5 1 (i + 1) 23 := rfl
  rw [e, dl5_15, dl5_23]
  unfold d2
  grind
theorem dl5_24 {m : Nat → Nat → Int} {i : Nat} : dl m 5 3 i 24 = d3 (m i) (m (i + 1)) (m (i + 2)) 0 1 2 := by
  have e : dl m 5 3 i 24 = 0 + 1 * m i 0 * dl m 5 2 (i + 1) 25 + (-1) * m i 1 * dl m 5 2 (i + 1) 26 + (-(-1)) * m i 2 * dl m 5 2 (i + 1) 28 := rfl
  rw [e, dl5_25, dl5_26, dl5_28]
  unfold d3
  grind
theorem dl5_20 {m : Nat → Nat → Int} {i : Nat} : dl m 5 3 i 20 = d3 (m i) (m (i + 1)) (m (i + 2)) 0 1 3 := by
  have e : dl m 5 3 i 20 = 0 + 1 * m i 0 * dl m 5 2 (i + 1) 21 + (-1) * m i 1 * dl m 5 2 (i + 1) 22 + (-(-1)) * m i 3 * dl m 5 2 (i + 1) 28 := rfl
  rw [e, dl5_21, dl5_22, dl5_28]
  unfold d3
  grind
theorem dl5_12 {m : Nat → Nat → Int} {i : Nat} : dl m 5 3 i 12 = d3 (m i) (m (i + 1)) (m (i + 2)) 0 1 4 := by
  have e : dl m 5 3 i 12 = 0 + 1 * m i 0 * dl m 5 2 (i + 1) 13 + (-1) * m i 1 * dl m 5 2 (i + 1) 14 + (-(-1)) * m i 4 * dl m 5 2 (i + 1) 28 := rfl
  rw [e, dl5_13, dl5_14, dl5_28]
  unfold d3
  grind
theorem dl5_18 {m : Nat → Nat → Int} {i : Nat} : dl m 5 3 i 18 = d3 (m i) (m (i + 1)) (m (i + 2)) 0 2 3 := by
  have e : dl m 5 3 i 18 = 0 + 1 * m i 0 * dl m 5 2 (i + 1) 19 + (-1) * m i 2 * dl m 5 2 (i + 1) 22 + (-(-1)) * m i 3 * dl m 5 2 (i + 1) 26 := rfl
  rw [e, dl5_19, dl5_22, dl5_26]
  unfold d3
  grind
theorem dl5_10 {m : Nat → Nat → Int} {i : Nat} : dl m 5 3 i 10 = d3 (m i) (m (i + 1)) (m (i + 2)) 0 2 4 := by
  have e : dl m 5 3 i 10 = 0 + 1 * m i 0 * dl m 5 2 (i + 1) 11 + (-1) * m i 2 * dl m 5 2 (i + 1) 14 + (-(-1)) * m i 4 * dl m 5 2 (i + 1) 26 := rfl
  rw [e, dl5_11, dl5_14, dl5_26]
  unfold d3
  grind
theorem dl5_6 {m : Nat → Nat → Int} {i : Nat} : dl m 5 3 i 6 = d3 (m i) (m (i + 1)) (m (i + 2)) 0 3 4 := by
  have e : dl m 5 3 i 6 = 0 + 1 * m i 0 * dl m 5 2 (i + 1) 7 + (-1) * m i 3 * dl m 5 2 (i + 1) 14 + (-(-1)) * m i 4 * dl m 5 2 (i + 1) 22 := rfl
  rw [e, dl5_7, dl5_14, dl5_22]
  unfold d3
  grind
theorem dl5_17 {m : Nat → Nat → Int} {i : Nat} : dl m 5 3 i 17 = d3 (m i) (m (i + 1)) (m (i + 2)) 1 2 3 := by
  have e : dl m 5 3 i 17 = 0 + 1 * m i 1 * dl m 5 2 (i + 1) 19 + (-1) * m i 2 * dl m 5 2 (i + 1) 21 + (-(-1)) * m i 3 * dl m 5 2 (i + 1) 25 := rfl
  rw [e, dl5_19, dl5_21, dl5_25]
  unfold d3
  grind
theorem dl5_9 {m : Nat → Nat → Int} {i : Nat} : dl m 5 3 i 9 = d3 (m i) (m (i + 1)) (m (i + 2)) 1 2 4 := by
  have e : dl m 5 3 i 9 = 0 + 1 * m i 1 * dl m 5 2 (i + 1) 11 + (-1) * m i 2 * dl m 5 2 (i + 1) 13 + (-(-1)) * m i 4 * dl m 5 2 (i + 1) 25 := rfl
  rw [e, dl5_11, dl5_13, dl5_25]
  unfold d3
  grind
theorem dl5_5 {m : Nat → Nat → Int} {i : Nat} : dl m 5 3 i 5 = d3 (m i) (m (i + 1)) (m (i + 2)) 1 3 4 := by
  have e : dl m 5 3 i 5 = 0 + 1 * m i 1 * dl m 5 2 (i + 1) 7 + (-1) * m i 3 * dl m 5 2 (i + 1) 13 + (-(-1)) * m i 4 * dl m 5 2 (i + 1) 21 := rfl
  rw [e, dl5_7, dl5_13, dl5_21]
  unfold d3
  grind
theorem dl5_3 {m : Nat → Nat → Int} {i : Nat} : dl m 5 3 i 3 = d3 (m i) (m (i + 1)) (m (i + 2)) 2 3 4 := by
  have e : dl m 5 3 i 3 = 0 + 1 * m i 2 * dl m 5 2 (i + 1) 7 + (-1) * m i 3 * dl m 5 2 (i + 1) 11 + (-(-1)) * m i 4 * dl m 5 2 (i + 1) 19 := rfl
  rw [e, dl5_7, dl5_11, dl5_19]
  unfold d3
  grind
theorem dl5_16 {m : Nat → Nat → Int} {i : Nat} : dl m 5 4 i 16 = d4 (m i) (m (i + 1)) (m (i + 2)) (m (i + 3)) 0 1 2 3 := by
  have e : dl m 5 4 i 16 = 0 + 1 * m i 0 * dl m 5 3 (i + 1) 17 + (-1) * m i 1 * dl m 5 3 (i + 1) 18 + (-(-1)) * m i 2 * dl m 5 3 (i + 1) 20 + (-(-(-1))) * m i 3 * dl m 5 3 (i + 1) 24 := rfl
  rw [e, dl5_17, dl5_18, dl5_20, dl5_24]
  unfold d4
  grind
theorem dl5_8 {m : Nat → Nat → Int} {i : Nat} : dl m 5 4 i 8 = d4 (m i) (m (i + 1)) (m (i + 2)) (m (i + 3)) 0 1 2 4 := by
  have e : dl m 5 4 i 8 = 0 + 1 * m i 0 * dl m 5 3 (i + 1) 9 + (-1) * m i 1 * dl m 5 3 (i + 1) 10 + (-(-1)) * m i 2 * dl m 5 3 (i + 1) 12 + (-(-(-1))) * m i 4 * dl m 5 3 (i + 1) 24 := rfl
  rw [e, dl5_9, dl5_10, dl5_12, dl5_24]
  unfold d4
  grind
theorem dl5_4 {m : Nat → Nat → Int} {i : Nat} : dl m 5 4 i 4 = d4 (m i) (m (i + 1)) (m (i + 2)) (m (i + 3)) 0 1 3 4 := by
  have e : dl m 5 4 i 4 = 0 + 1 * m i 0 * dl m 5 3 (i + 1) 5 + (-1) * m i 1 * dl m 5 3 (i + 1) 6 + (-(-1)) * m i 3 * dl m 5 3 (i + 1) 12 + (-(-(-1))) * m i 4 * dl m 5 3 (i + 1) 20 := rfl
  rw [e, dl5_5, dl5_6, dl5_12, dl5_20]
  unfold d4
  grind
theorem dl5_2 {m : Nat → Nat → Int} {i : Nat} : dl m 5 4 i 2 = d4 (m i) (m (i + 1)) (m (i + 2)) (m (i + 3)) 0 2 3 4 := by
  have e : dl m 5 4 i 2 = 0 + 1 * m i 0 * dl m 5 3 (i + 1) 3 + (-1) * m i 2 * dl m 5 3 (i + 1) 6 + (-(-1)) * m i 3 * dl m 5 3 (i + 1) 10 + (-(-(-1))) * m i 4 * dl m 5 3 (i + 1) 18 := rfl
  rw [e, dl5_3, dl5_6, dl5_10, dl5_18]
  unfold d4
  grind
theorem dl5_1 {m : Nat → Nat → Int} {i : Nat} : dl m 5 4 i 1 = d4 (m i) (m (i + 1)) (m (i + 2)) (m (i + 3)) 1 2 3 4 := by
  have e : dl m 5 4 i 1 = 0 + 1 * m i 1 * dl m 5 3 (i + 1) 3 + (-1) * m i 2 * dl m 5 3 (i + 1) 5 + (-(-1)) * m i 3 * dl m 5 3 (i + 1) 9 + (-(-(-1))) * m i 4 * dl m 5 3 (i + 1) 17 := rfl
  rw [e, dl5_3, dl5_5, dl5_9, dl5_17]
  unfold d4
  grind
theorem dl5_0 {m : Nat → Nat → Int} {i : Nat} : dl m 5 5 i 0 = d5 (m i) (m (i + 1)) (m (i + 2)) (m (i + 3)) (m (i + 4)) 0 1 2 3 4 := by
  have e : dl m 5 5 i 0 = 0 + 1 * m i 0 * dl m 5 4 (i + 1) 1 + (-1) * m i 1 * dl m 5 4 (i + 1) 2 + (-(-1)) * m i 2 * dl m 5 4 (i + 1) 4 + (-(-(-1))) * m i 3 * dl m 5 4 (i + 1) 8 + (-(-(-(-1)))) * m i 4 * dl m 5 4 (i + 1) 16 := rfl
  rw [e, dl5_1, dl5_2, dl5_4, dl5_8, dl5_16]
  unfold d5
  grind
theorem dl_5 {m : Nat → Nat → Int} : dl m 5 5 0 0 = d5 (m 0) (m 1) (m 2) (m 3) (m 4) 0 1 2 3 4 := dl5_0
theorem dt_1 : ∀ x : Fin 32, ∀ i : Fin 5, (((Int32.ofInt (x.val : Int)) >>> ((Int32.ofInt (i.val : Int)) &&& Int32.ofInt 31)) &&& Int32.ofInt 1) = Int32.ofInt (if x.val.testBit i.val = true then 1 else 0) := by decide +kernel
theorem dt_2 : ∀ x : Fin 32, ∀ i : Fin 5, (Int32.ofInt (x.val : Int)) ||| (Int32.ofInt 1 <<< ((Int32.ofInt (i.val : Int)) &&& Int32.ofInt 31)) = Int32.ofInt ((x.val ||| 2 ^ i.val : Nat) : Int) ∧ (x.val ||| 2 ^ i.val) < 32 := by decide +kernel
