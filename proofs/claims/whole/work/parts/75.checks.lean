/-! ===== what both sides ask of numbers ===== -/
theorem pq_R (x : Int32) : pn_R x.toInt := by
  have h1 := x.minValue_le_toInt
  have h2 := x.toInt_le
  have e1 : Int32.minValue.toInt = -2147483648 := rfl
  have e2 : Int32.maxValue.toInt = 2147483647 := rfl
  rw [e1] at h1
  rw [e2] at h2
  exact ⟨h1, by omega⟩
theorem pq_hourC {σ : am_H} (x : Int32) : f_X11_isHour x σ = some (decide (0 ≤ x.toInt ∧ x.toInt ≤ 99999)) := by
  unfold f_X11_isHour
  have c1 : x < 0 ↔ x.toInt < 0 := Int32.lt_iff_toInt_lt
  have c2 : (99999 : Int32) < x ↔ 99999 < x.toInt := Int32.lt_iff_toInt_lt
  by_cases h1 : x.toInt < 0
  · rw [if_pos (c1.mpr h1), decide_eq_false (by omega)]
  · rw [if_neg (fun z => h1 (c1.mp z))]
    by_cases h2 : 99999 < x.toInt
    · rw [if_pos (c2.mpr h2), decide_eq_false (by omega)]
    · rw [if_neg (fun z => h2 (c2.mp z)), decide_eq_true (by omega)]
theorem pq_inM {σ : am_H} {a b c : Int} (ha : pn_S a) (hb : pn_S b) (hc : pn_S c) : f_X12_isIn (Int64.ofInt a) (Int64.ofInt b) (Int64.ofInt c) σ = some (decide (b ≤ a ∧ a ≤ c)) := by
  unfold f_X12_isIn
  by_cases h1 : a < b
  · rw [if_pos ((pL_lt ha hb).mpr h1), decide_eq_false (by omega)]
  · rw [if_neg (fun z => h1 ((pL_lt ha hb).mp z))]
    by_cases h2 : c < a
    · rw [if_pos ((pL_lt hc ha).mpr h2), decide_eq_false (by omega)]
    · rw [if_neg (fun z => h2 ((pL_lt hc ha).mp z)), decide_eq_true (by omega)]
theorem pq_L (x : Int32) : x.toInt64 = Int64.ofInt x.toInt := by
  have h := pI_L (pq_R x)
  rwa [Int32.ofInt_toInt] at h
theorem pq_hourM {σ : am_H} (x : Int32) : f_X12_isHour x σ = some (decide (0 ≤ x.toInt ∧ x.toInt ≤ 99999)) := by
  have h := pq_R x
  have e := pq_inM (σ := σ) (a := x.toInt) (b := 0) (c := 99999) (by unfold pn_R at h; unfold pn_S; omega) (by unfold pn_S; omega) (by unfold pn_S; omega)
  unfold f_X12_isHour
  rw [pq_L]
  have e' : f_X12_isIn (Int64.ofInt x.toInt) 0 99999 σ = some (decide (0 ≤ x.toInt ∧ x.toInt ≤ 99999)) := e
  rw [e']
  rfl
theorem pq_machM {σ : am_H} (x : Int32) : f_X12_isMachine x σ = some (decide (0 ≤ x.toInt ∧ x.toInt ≤ 1)) := by
  unfold f_X12_isMachine
  have c1 : x = 0 ↔ x.toInt = 0 := Int32.toInt_inj.symm
  have c2 : x = 1 ↔ x.toInt = 1 := Int32.toInt_inj.symm
  by_cases h1 : x.toInt = 0
  · rw [if_pos (c1.mpr h1), decide_eq_true (by omega)]
  · rw [if_neg (fun z => h1 (c1.mp z))]
    by_cases h2 : x.toInt = 1
    · rw [if_pos (c2.mpr h2), decide_eq_true (by omega)]
    · rw [if_neg (fun z => h2 (c2.mp z)), decide_eq_false (by omega)]
