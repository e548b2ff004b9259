/-! ===== numbers: an int, a long as what it is the residue of ===== -/
def pn_R (z : Int) : Prop := -2147483648 ≤ z ∧ z < 2147483648
def pn_S (z : Int) : Prop := -9223372036854775808 ≤ z ∧ z < 9223372036854775808
theorem pI_to {a : Int} (h : pn_R a) : (Int32.ofInt a).toInt = a := Int32.toInt_ofInt_of_le (by unfold pn_R at h; omega) (by unfold pn_R at h; omega)
theorem pL_to {a : Int} (h : pn_S a) : (Int64.ofInt a).toInt = a := Int64.toInt_ofInt_of_le (by unfold pn_S at h; omega) (by unfold pn_S at h; omega)
theorem pI_lt {a b : Int} (ha : pn_R a) (hb : pn_R b) : (Int32.ofInt a < Int32.ofInt b) ↔ a < b := by rw [Int32.lt_iff_toInt_lt, pI_to ha, pI_to hb]
theorem pI_le {a b : Int} (ha : pn_R a) (hb : pn_R b) : (Int32.ofInt a ≤ Int32.ofInt b) ↔ a ≤ b := by rw [Int32.le_iff_toInt_le, pI_to ha, pI_to hb]
theorem pI_eq {a b : Int} (ha : pn_R a) (hb : pn_R b) : (Int32.ofInt a = Int32.ofInt b) ↔ a = b := by rw [← Int32.toInt_inj, pI_to ha, pI_to hb]
theorem pL_lt {a b : Int} (ha : pn_S a) (hb : pn_S b) : (Int64.ofInt a < Int64.ofInt b) ↔ a < b := by rw [Int64.lt_iff_toInt_lt, pL_to ha, pL_to hb]
theorem pL_eq {a b : Int} (ha : pn_S a) (hb : pn_S b) : (Int64.ofInt a = Int64.ofInt b) ↔ a = b := by rw [← Int64.toInt_inj, pL_to ha, pL_to hb]
theorem pI_L {a : Int} (h : pn_R a) : (Int32.ofInt a).toInt64 = Int64.ofInt a := by
  apply Int64.toInt_inj.mp
  rw [Int32.toInt_toInt64, pI_to h, pL_to (by unfold pn_R at h; unfold pn_S; omega)]
theorem pL_I (a : Int) : (Int64.ofInt a).toInt32 = Int32.ofInt a := by simp
theorem pI_div {a b : Int} (ha : pn_R a) (hb : pn_R b) (hb0 : 0 < b) : Int32.ofInt a / Int32.ofInt b = Int32.ofInt (a.tdiv b) := by
  apply Int32.toInt_inj.mp
  have h1 : pn_R (a.tdiv b) := by
    unfold pn_R at ha ⊢
    have h3 := Int.natAbs_tdiv_le_natAbs a b
    rcases Int.lt_or_le a 0 with h | h
    · have h4 : a.tdiv b ≤ 0 := by
        have h5 := Int.tdiv_nonneg (a := -a) (b := b) (by omega) (by omega)
        rw [Int.neg_tdiv] at h5
        omega
      omega
    · omega
  rw [Int32.toInt_div_of_ne_right _ _ (by
    intro h
    have := congrArg Int32.toInt h
    rw [pI_to hb] at this
    have h2 : (-1 : Int32).toInt = -1 := rfl
    rw [h2] at this
    omega), pI_to ha, pI_to hb, pI_to h1]
theorem pL_div {a b : Int} (ha : pn_S a) (hb : pn_S b) (hb0 : 0 < b) : Int64.ofInt a / Int64.ofInt b = Int64.ofInt (a.tdiv b) := by
  apply Int64.toInt_inj.mp
  have h1 : pn_S (a.tdiv b) := by
    unfold pn_S at ha ⊢
    have h3 := Int.natAbs_tdiv_le_natAbs a b
    rcases Int.lt_or_le a 0 with h | h
    · have h4 : a.tdiv b ≤ 0 := by
        have h5 := Int.tdiv_nonneg (a := -a) (b := b) (by omega) (by omega)
        rw [Int.neg_tdiv] at h5
        omega
      omega
    · omega
  rw [Int64.toInt_div_of_ne_right _ _ (by
    intro h
    have := congrArg Int64.toInt h
    rw [pL_to hb] at this
    have h2 : (-1 : Int64).toInt = -1 := rfl
    rw [h2] at this
    omega), pL_to ha, pL_to hb, pL_to h1]
theorem pI_rem {a b : Int} (ha : pn_R a) (hb : pn_R b) (hb0 : 0 < b) : am_iR (Int32.ofInt a) (Int32.ofInt b) = Int32.ofInt (a.tmod b) := by
  show Int32.ofInt a - Int32.ofInt a / Int32.ofInt b * Int32.ofInt b = _
  rw [pI_div ha hb hb0, ← Int32.ofInt_mul, ← Int32.ofInt_sub]
  congr 1
  have := Int.tmod_add_tdiv_mul a b
  omega
theorem pL_rem {a b : Int} (ha : pn_S a) (hb : pn_S b) (hb0 : 0 < b) : am_lR (Int64.ofInt a) (Int64.ofInt b) = Int64.ofInt (a.tmod b) := by
  show Int64.ofInt a - Int64.ofInt a / Int64.ofInt b * Int64.ofInt b = _
  rw [pL_div ha hb hb0, ← Int64.ofInt_mul, ← Int64.ofInt_sub]
  congr 1
  have := Int.tmod_add_tdiv_mul a b
  omega
theorem pI_ix {a : Int} {n : Nat} (h0 : 0 ≤ a) (h1 : a < n) (hn : n < 2147483648) : am_ix n (Int32.ofInt a) = some a.toNat := by
  have hr : pn_R a := by unfold pn_R; omega
  have e : (Int32.ofInt a).toNatClampNeg = a.toNat := by
    show (Int32.ofInt a).toInt.toNat = _
    rw [pI_to hr]
  unfold am_ix
  rw [if_neg]
  · rw [e]
  · intro h
    rcases h with h | h
    · have h2 : Int32.ofInt a < Int32.ofInt 0 := h
      rw [pI_lt hr (by unfold pn_R; omega)] at h2
      omega
    · rw [e] at h
      omega
-- reads of writes
theorem am_wI_r {σ : am_H} {k i j a b c : Nat} {v : Int32} : (am_wI σ k i j v).1 a b c = if a = k ∧ b = i ∧ c = j then v else σ.1 a b c := rfl
theorem am_wI_L {σ : am_H} {k i j : Nat} {v : Int32} : (am_wI σ k i j v).2 = σ.2 := rfl
theorem am_wL_r {σ : am_H} {k i j a b c : Nat} {v : Int64} : (am_wL σ k i j v).2.1 a b c = if a = k ∧ b = i ∧ c = j then v else σ.2.1 a b c := rfl
theorem am_wL_I {σ : am_H} {k i j : Nat} {v : Int64} : (am_wL σ k i j v).1 = σ.1 := rfl
theorem am_wL_R {σ : am_H} {k i j : Nat} {v : Int64} : (am_wL σ k i j v).2.2 = σ.2.2 := rfl
theorem am_wR_r {σ : am_H} {k i j a b c : Nat} {v : Option Nat} : (am_wR σ k i j v).2.2 a b c = if a = k ∧ b = i ∧ c = j then v else σ.2.2 a b c := rfl
theorem am_wR_I {σ : am_H} {k i j : Nat} {v : Option Nat} : (am_wR σ k i j v).1 = σ.1 := rfl
theorem am_wR_L {σ : am_H} {k i j : Nat} {v : Option Nat} : (am_wR σ k i j v).2.1 = σ.2.1 := rfl
/-- a loop that counts its state through: g is the state behind n turns -/
theorem am_loop_n {S R : Type} {body : S → Option (S ⊕ R)} (g : Nat → S) (n : Nat) {r : R} (hs : ∀ i, i < n → body (g i) = some (.inl (g (i + 1)))) (he : body (g n) = some (.inr r)) : am_loop body (g 0) = some r := by
  have h : ∀ k i, i + k = n → am_loop body (g i) = some r := by
    intro k
    induction k with
    | zero =>
      intro i hi
      have : i = n := by omega
      subst this
      rw [am_loop_eq, he]
    | succ k ih =>
      intro i hi
      rw [am_loop_eq, hs i (by omega)]
      exact ih (i + 1) (by omega)
  exact h n 0 (by omega)
