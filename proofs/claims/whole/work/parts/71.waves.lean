/-! ===== waves: a wave's numbers w: 0 turns, 1 hours, 2 size, 3 at, 4 couples, 5 .. 8 teeth ===== -/
def pw_ok (w : Nat → Int) : Prop := (1 ≤ w 0 ∧ w 0 ≤ 9999) ∧ (1 ≤ w 1 ∧ w 1 ≤ 9999) ∧ (0 ≤ w 2 ∧ w 2 ≤ 99) ∧ (0 ≤ w 3 ∧ w 3 ≤ 23) ∧ (0 ≤ w 4 ∧ w 4 ≤ 2) ∧ (1 ≤ w 5 ∧ w 5 ≤ 200) ∧ (1 ≤ w 6 ∧ w 6 ≤ 200) ∧ (1 ≤ w 7 ∧ w 7 ≤ 200) ∧ (1 ≤ w 8 ∧ w 8 ≤ 200)
/-- PLACES gone by, TRUE -/
def pw_tg (w : Nat → Int) (h : Int) : Int := (24 * w 0 * h).tdiv (w 1)
/-- PLACES gone by, TURNED -/
def pw_ug (w : Nat → Int) (h : Int) : Int := (h * (w 5 * w 7)).tdiv (w 6 * w 8)
def pw_place (w : Nat → Int) (h : Int) (b : Bool) : Int := (w 3 + (if b = true ∧ 0 < w 4 then pw_ug w h else pw_tg w h)).tmod 24
/-- a wave of the class -/
def pw_C (σ : am_H) (r : Nat) (w : Nat → Int) : Prop := σ.1 10 r 1 = Int32.ofInt (w 0) ∧ σ.1 10 r 2 = Int32.ofInt (w 1) ∧ σ.1 10 r 3 = Int32.ofInt (w 2) ∧ σ.1 10 r 4 = Int32.ofInt (w 3) ∧ σ.1 10 r 5 = Int32.ofInt (w 4) ∧ (∀ k, k < 4 → σ.1 1106 r k = Int32.ofInt (w (5 + k))) ∧ σ.2.1 10 r 7 = Int64.ofInt (w 5 * w 7) ∧ σ.2.1 10 r 8 = Int64.ofInt (w 6 * w 8)
theorem pw_tg_b {w : Nat → Int} {h : Int} (hw : pw_ok w) (h0 : 0 ≤ h) (h1 : h ≤ 200000) : 0 ≤ 24 * w 0 * h ∧ 24 * w 0 * h ≤ 24 * 9999 * 200000 ∧ 0 ≤ pw_tg w h ∧ pw_tg w h ≤ 24 * 9999 * 200000 := by
  obtain ⟨⟨a1, a2⟩, ⟨b1, b2⟩, -⟩ := hw
  have e1 : 0 ≤ w 0 * h := Int.mul_nonneg (by omega) h0
  have e2 : w 0 * h ≤ 9999 * 200000 := Int.mul_le_mul a2 h1 h0 (by omega)
  have e3 : 24 * w 0 * h = 24 * (w 0 * h) := Int.mul_assoc _ _ _
  have e4 : 0 ≤ pw_tg w h := Int.tdiv_nonneg (by omega) (by omega)
  have e5 := Int.natAbs_tdiv_le_natAbs (24 * w 0 * h) (w 1)
  unfold pw_tg at e4 ⊢
  omega
theorem pw_trueGone {σ : am_H} {r : Nat} {w : Nat → Int} {h : Int} (hw : pw_ok w) (hC : pw_C σ r w) (h0 : 0 ≤ h) (h1 : h ≤ 200000) : f_X10_trueGone r (Int64.ofInt h) σ = some (Int64.ofInt (pw_tg w h)) := by
  obtain ⟨b1, b2, b3, b4⟩ := pw_tg_b hw h0 h1
  obtain ⟨⟨a1, a2⟩, ⟨c1, c2⟩, -⟩ := hw
  obtain ⟨q0, q1, -⟩ := hC
  unfold f_X10_trueGone
  rw [q0, q1, pI_L (by unfold pn_R; omega), pI_L (by unfold pn_R; omega)]
  rw [if_pos (show (0 : Int32) < Int32.ofInt (w 1) from (pI_lt (a := 0) (by unfold pn_R; omega) (by unfold pn_R; omega)).mpr (by omega))]
  rw [if_neg (show ¬ Int64.ofInt (w 1) = 0 from fun z => by
    have := (pL_eq (b := 0) (by unfold pn_S; omega) (by unfold pn_S; omega)).mp z
    omega)]
  have e : (24 : Int64) * Int64.ofInt (w 0) * Int64.ofInt h = Int64.ofInt (24 * w 0 * h) := by
    rw [Int64.ofInt_mul, Int64.ofInt_mul]
    rfl
  rw [e, pL_div (by unfold pn_S; omega) (by unfold pn_S; omega) (by omega)]
  rfl
theorem pw_ug_b {w : Nat → Int} {h : Int} (hw : pw_ok w) (h0 : 0 ≤ h) (h1 : h ≤ 200000) : (1 ≤ w 5 * w 7 ∧ w 5 * w 7 ≤ 40000) ∧ (1 ≤ w 6 * w 8 ∧ w 6 * w 8 ≤ 40000) ∧ 0 ≤ h * (w 5 * w 7) ∧ h * (w 5 * w 7) ≤ 200000 * 40000 ∧ 0 ≤ pw_ug w h ∧ pw_ug w h ≤ 200000 * 40000 := by
  obtain ⟨-, -, -, -, -, ⟨a1, a2⟩, ⟨b1, b2⟩, ⟨c1, c2⟩, ⟨d1, d2⟩⟩ := hw
  have e1 : 1 * 1 ≤ w 5 * w 7 := Int.mul_le_mul a1 c1 (by omega) (by omega)
  have e2 : w 5 * w 7 ≤ 200 * 200 := Int.mul_le_mul a2 c2 (by omega) (by omega)
  have e3 : 1 * 1 ≤ w 6 * w 8 := Int.mul_le_mul b1 d1 (by omega) (by omega)
  have e4 : w 6 * w 8 ≤ 200 * 200 := Int.mul_le_mul b2 d2 (by omega) (by omega)
  have e5 : 0 ≤ h * (w 5 * w 7) := Int.mul_nonneg h0 (by omega)
  have e6 : h * (w 5 * w 7) ≤ 200000 * 40000 := Int.mul_le_mul h1 (by omega) (by omega) (by omega)
  have e7 : 0 ≤ pw_ug w h := Int.tdiv_nonneg e5 (by omega)
  have e8 := Int.natAbs_tdiv_le_natAbs (h * (w 5 * w 7)) (w 6 * w 8)
  unfold pw_ug at e7 ⊢
  omega
theorem pw_turnedGone {σ : am_H} {h a b : Int} (h0 : 0 ≤ h * a) (h1 : h * a ≤ 9000000000000) (b0 : 1 ≤ b) (b1 : b ≤ 1000000) : f_X10_turnedGone (Int64.ofInt h) (Int64.ofInt a) (Int64.ofInt b) σ = some (Int64.ofInt ((h * a).tdiv b)) := by
  unfold f_X10_turnedGone
  rw [if_pos (show (0 : Int64) < Int64.ofInt b from (pL_lt (a := 0) (by unfold pn_S; omega) (by unfold pn_S; omega)).mpr (by omega))]
  rw [if_neg (show ¬ Int64.ofInt b = 0 from fun z => by
    have := (pL_eq (b := 0) (by unfold pn_S; omega) (by unfold pn_S; omega)).mp z
    omega)]
  rw [← Int64.ofInt_mul, pL_div (by unfold pn_S; omega) (by unfold pn_S; omega) (by omega)]
theorem pw_place_b {w : Nat → Int} {h : Int} {b : Bool} (hw : pw_ok w) (h0 : 0 ≤ h) (h1 : h ≤ 200000) : 0 ≤ pw_place w h b ∧ pw_place w h b ≤ 23 := by
  have e1 := pw_tg_b hw h0 h1
  have e2 := pw_ug_b hw h0 h1
  obtain ⟨-, -, -, ⟨a1, a2⟩, -⟩ := hw
  unfold pw_place
  generalize hg : (if b = true ∧ 0 < w 4 then pw_ug w h else pw_tg w h) = g
  have hg0 : 0 ≤ g := by
    rw [← hg]
    split <;> omega
  have := Int.tmod_nonneg (a := w 3 + g) 24 (by omega)
  have := Int.tmod_lt_of_pos (w 3 + g) (b := 24) (by omega)
  omega
theorem pw_placeAt {σ : am_H} {r : Nat} {w : Nat → Int} {h : Int} {b : Bool} (hw : pw_ok w) (hC : pw_C σ r w) (h0 : 0 ≤ h) (h1 : h ≤ 200000) : f_X10_placeAt r (Int64.ofInt h) b σ = some (Int32.ofInt (pw_place w h b)) := by
  have e1 := pw_tg_b hw h0 h1
  have e2 := pw_ug_b hw h0 h1
  have t1 := pw_trueGone hw hC h0 h1
  have t2 := pw_turnedGone (σ := σ) (h := h) (a := w 5 * w 7) (b := w 6 * w 8) (by omega) (by omega) (by omega) (by omega)
  obtain ⟨-, -, -, ⟨a1, a2⟩, ⟨c1, c2⟩, -⟩ := hw
  obtain ⟨-, -, -, q3, q4, -, q7, q8⟩ := hC
  have fin : ∀ g : Int, 0 ≤ g → g ≤ 9000000000000 → f_X10_placeAt_43 r (Int64.ofInt g) σ = some (Int32.ofInt ((w 3 + g).tmod 24)) := by
    intro g g0 g1
    unfold f_X10_placeAt_43
    rw [q3, pI_L (by unfold pn_R; omega), ← Int64.ofInt_add]
    have e : am_lR (Int64.ofInt (w 3 + g)) (Int64.ofInt 24) = Int64.ofInt ((w 3 + g).tmod 24) := pL_rem (by unfold pn_S; omega) (by unfold pn_S; omega) (by omega)
    have e' : am_lR (Int64.ofInt (w 3 + g)) 24 = Int64.ofInt ((w 3 + g).tmod 24) := e
    rw [e', pL_I]
  have k1 : f_X10_placeAt_16 r (Int64.ofInt h) true σ = some (Int32.ofInt ((w 3 + pw_ug w h).tmod 24)) := by
    unfold f_X10_placeAt_16
    rw [if_pos rfl, q7, q8, t2]
    exact fin _ (by unfold pw_ug at e2; omega) (by unfold pw_ug at e2; omega)
  have k2 : f_X10_placeAt_16 r (Int64.ofInt h) false σ = some (Int32.ofInt ((w 3 + pw_tg w h).tmod 24)) := by
    unfold f_X10_placeAt_16
    rw [if_neg (by decide), t1]
    exact fin _ (by omega) (by omega)
  have c0 : (0 : Int32) < Int32.ofInt (w 4) ↔ 0 < w 4 := pI_lt (a := 0) (by unfold pn_R; omega) (by unfold pn_R; omega)
  unfold f_X10_placeAt pw_place
  rw [q4, k1, k2]
  by_cases hb : b = true
  · rw [if_pos hb]
    by_cases h4 : 0 < w 4
    · rw [if_pos (c0.mpr h4), if_pos ⟨hb, h4⟩]
    · rw [if_neg (fun z => h4 (c0.mp z)), if_neg (fun z => h4 z.2)]
  · rw [if_neg hb, if_neg (fun z => hb z.1)]
