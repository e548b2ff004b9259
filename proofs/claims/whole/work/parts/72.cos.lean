/-! ===== COS ===== -/
def pc_l : List Int := [12, 12, 10, 8, 6, 3, 0, -3, -6, -8, -10, -12, -12, -12, -10, -8, -6, -3, 0, 3, 6, 8, 10, 12]
def pc_cos (p : Int) : Int := pc_l.getD (p % 24).toNat 0
theorem pc_l_ok : ∀ j : Nat, j < 24 → am_cosl.getD j 0 = Int32.ofInt (pc_l.getD j 0) := by decide +kernel
theorem pc_b (p : Int) : -12 ≤ pc_cos p ∧ pc_cos p ≤ 12 := by
  have h : ∀ j : Nat, j < 24 → -12 ≤ pc_l.getD j 0 ∧ pc_l.getD j 0 ≤ 12 := by decide
  unfold pc_cos
  exact h _ (by omega)
theorem pc_tm (p : Int) : (if p.tmod 24 < 0 then p.tmod 24 + 24 else p.tmod 24) = p % 24 := by
  rw [Int.tmod_eq_emod]
  split <;> split <;> rename_i h1 h2 <;> simp at * <;> omega
theorem pc_cosOf {σ : am_H} {p : Int} (hp : pn_S p) : f_X11_cosOf (Int64.ofInt p) σ = some (Int32.ofInt (pc_cos p)) := by
  have e : am_lR (Int64.ofInt p) 24 = Int64.ofInt (p.tmod 24) := pL_rem (b := 24) hp (by unfold pn_S; omega) (by omega)
  have b1 : -24 < p.tmod 24 := Int.lt_tmod_of_pos p (by omega)
  have b2 : p.tmod 24 < 24 := Int.tmod_lt_of_pos p (by omega)
  have h := pc_tm p
  have fin : ∀ q : Int, 0 ≤ q → q < 24 → q = p % 24 → f_X11_cosOf_22 (Int32.ofInt q) σ = some (Int32.ofInt (pc_cos p)) := by
    intro q q0 q1 q2
    unfold f_X11_cosOf_22
    rw [pI_ix q0 (by omega) (by omega)]
    show some (am_cosl.getD q.toNat 0) = _
    rw [pc_l_ok _ (by omega), q2]
    rfl
  have c0 : Int32.ofInt (p.tmod 24) < 0 ↔ p.tmod 24 < 0 := pI_lt (b := 0) (by unfold pn_R; omega) (by unfold pn_R; omega)
  unfold f_X11_cosOf
  rw [e, pL_I]
  by_cases hn : p.tmod 24 < 0
  · rw [if_pos (c0.mpr hn)]
    rw [if_pos hn] at h
    have e2 : Int32.ofInt (p.tmod 24) + 24 = Int32.ofInt (p.tmod 24 + 24) := (Int32.ofInt_add _ 24).symm
    rw [e2]
    exact fin _ (by omega) (by omega) h
  · rw [if_neg (fun z => hn (c0.mp z))]
    rw [if_neg hn] at h
    exact fin _ (by omega) (by omega) h
