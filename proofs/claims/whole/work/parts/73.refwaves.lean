/-! ===== waves of the reference ===== -/
def pw_M (σ : am_H) (m i : Nat) (w : Nat → Int) : Prop := ∀ k, k < 9 → σ.1 1324 0 (54 * m + 9 * i + k) = Int32.ofInt (w k)
theorem pm_of {σ : am_H} {m i k : Nat} {w : Nat → Int} (hM : pw_M σ m i w) (hm : m < 3) (hi : i < 6) (hk : k < 9) : f_X12_of (Int32.ofInt m) (Int32.ofInt i) (Int32.ofInt k) σ = some (Int32.ofInt (w k)) := by
  unfold f_X12_of f_X12_cell
  have e : (54 : Int32) * Int32.ofInt m + 9 * Int32.ofInt i + Int32.ofInt k = Int32.ofInt (54 * m + 9 * i + k) := by
    rw [Int32.ofInt_add, Int32.ofInt_add, Int32.ofInt_mul, Int32.ofInt_mul]
    rfl
  show (am_ix 162 ((54 : Int32) * Int32.ofInt m + 9 * Int32.ofInt i + Int32.ofInt k)).bind _ = _
  rw [e, pI_ix (by omega) (by omega) (by omega)]
  have e2 : (54 * (m : Int) + 9 * i + k).toNat = 54 * m + 9 * i + k := by omega
  rw [e2]
  show some (σ.1 1324 0 (54 * m + 9 * i + k)) = _
  rw [hM k hk]
theorem pm_tmod_add {a b : Int} (ha : 0 ≤ a) (hb : 0 ≤ b) : (a.tmod 24 + b).tmod 24 = (b + a).tmod 24 := by
  have h1 := Int.tmod_nonneg (a := a) 24 ha
  rw [Int.tmod_eq_emod_of_nonneg ha] at h1 ⊢
  rw [Int.tmod_eq_emod_of_nonneg (by omega), Int.tmod_eq_emod_of_nonneg (by omega)]
  omega
theorem pm_trueFrom {σ : am_H} {m i : Nat} {w : Nat → Int} {h : Int} (hw : pw_ok w) (hM : pw_M σ m i w) (hm : m < 3) (hi : i < 6) (h0 : 0 ≤ h) (h1 : h ≤ 200000) : f_X12_trueFrom (Int32.ofInt m) (Int32.ofInt i) (Int32.ofInt h) σ = some (Int32.ofInt ((pw_tg w h).tmod 24)) := by
  have b := pw_tg_b hw h0 h1
  have o0 := pm_of (k := 0) hM hm hi (by omega)
  have o1 := pm_of (k := 1) hM hm hi (by omega)
  obtain ⟨⟨a1, a2⟩, ⟨c1, c2⟩, -⟩ := hw
  unfold f_X12_trueFrom
  have o0' : f_X12_of (Int32.ofInt m) (Int32.ofInt i) 0 σ = some (Int32.ofInt (w 0)) := o0
  have o1' : f_X12_of (Int32.ofInt m) (Int32.ofInt i) 1 σ = some (Int32.ofInt (w 1)) := o1
  rw [o0', Option.bind_some, o1', Option.bind_some]
  rw [pI_L (a := w 0) (by unfold pn_R; omega), pI_L (a := w 1) (by unfold pn_R; omega), pI_L (a := h) (by unfold pn_R; omega)]
  rw [if_neg (show ¬ Int64.ofInt (w 1) = 0 from fun z => by
    have := (pL_eq (b := 0) (by unfold pn_S; omega) (by unfold pn_S; omega)).mp z
    omega)]
  have e : (24 : Int64) * Int64.ofInt (w 0) * Int64.ofInt h = Int64.ofInt (24 * w 0 * h) := by
    rw [Int64.ofInt_mul, Int64.ofInt_mul]
    rfl
  rw [e, pL_div (by unfold pn_S; omega) (by unfold pn_S; omega) (by omega)]
  have e2 : am_lR (Int64.ofInt ((24 * w 0 * h).tdiv (w 1))) 24 = Int64.ofInt (((24 * w 0 * h).tdiv (w 1)).tmod 24) := pL_rem (b := 24) (by unfold pn_S; unfold pw_tg at b; omega) (by unfold pn_S; omega) (by omega)
  rw [e2, pL_I]
  rfl
theorem pm_truePlace {σ : am_H} {m i : Nat} {w : Nat → Int} {h : Int} (hw : pw_ok w) (hM : pw_M σ m i w) (hm : m < 3) (hi : i < 6) (h0 : 0 ≤ h) (h1 : h ≤ 200000) : f_X12_truePlace (Int32.ofInt m) (Int32.ofInt i) (Int32.ofInt h) σ = some (Int32.ofInt (pw_place w h false)) := by
  have b := pw_tg_b hw h0 h1
  have t := pm_trueFrom hw hM hm hi h0 h1
  have o3 := pm_of (k := 3) hM hm hi (by omega)
  obtain ⟨-, -, -, ⟨a1, a2⟩, -⟩ := hw
  unfold f_X12_truePlace
  have o3' : f_X12_of (Int32.ofInt m) (Int32.ofInt i) 3 σ = some (Int32.ofInt (w 3)) := o3
  rw [t, Option.bind_some, o3', Option.bind_some, ← Int32.ofInt_add]
  have n1 := Int.tmod_nonneg (a := pw_tg w h) 24 (by omega)
  have n2 := Int.tmod_lt_of_pos (pw_tg w h) (b := 24) (by omega)
  have e2 : am_iR (Int32.ofInt ((pw_tg w h).tmod 24 + w 3)) 24 = Int32.ofInt (((pw_tg w h).tmod 24 + w 3).tmod 24) := pI_rem (b := 24) (by unfold pn_R; omega) (by unfold pn_R; omega) (by omega)
  rw [e2, pm_tmod_add (by omega) (by omega)]
  unfold pw_place
  rw [if_neg (fun z => by cases z.1)]
theorem pm_hasTrain {σ : am_H} {m i : Nat} {w : Nat → Int} (hw : pw_ok w) (hM : pw_M σ m i w) (hm : m < 3) (hi : i < 6) : f_X12_hasTrain (Int32.ofInt m) (Int32.ofInt i) σ = some (decide (0 < w 4)) := by
  have o4 := pm_of (k := 4) hM hm hi (by omega)
  obtain ⟨-, -, -, -, ⟨c1, c2⟩, -⟩ := hw
  have o4' : f_X12_of (Int32.ofInt m) (Int32.ofInt i) 4 σ = some (Int32.ofInt (w 4)) := o4
  have c0 : (0 : Int32) < Int32.ofInt (w 4) ↔ 0 < w 4 := pI_lt (a := 0) (by unfold pn_R; omega) (by unfold pn_R; omega)
  unfold f_X12_hasTrain
  rw [o4', Option.bind_some]
  by_cases h : 0 < w 4
  · rw [if_pos (c0.mpr h), decide_eq_true h]
  · rw [if_neg (fun z => h (c0.mp z)), decide_eq_false h]
theorem pm_turnedPlace {σ : am_H} {m i : Nat} {w : Nat → Int} {h : Int} (hw : pw_ok w) (hM : pw_M σ m i w) (hm : m < 3) (hi : i < 6) (h0 : 0 ≤ h) (h1 : h ≤ 200000) : f_X12_turnedPlace (Int32.ofInt m) (Int32.ofInt i) (Int32.ofInt h) σ = some (Int32.ofInt (pw_place w h true)) := by
  have b := pw_ug_b hw h0 h1
  have t := pm_truePlace hw hM hm hi h0 h1
  have ht := pm_hasTrain hw hM hm hi
  have o3 : f_X12_of (Int32.ofInt m) (Int32.ofInt i) 3 σ = some (Int32.ofInt (w 3)) := pm_of (k := 3) hM hm hi (by omega)
  have o5 : f_X12_of (Int32.ofInt m) (Int32.ofInt i) 5 σ = some (Int32.ofInt (w 5)) := pm_of (k := 5) hM hm hi (by omega)
  have o6 : f_X12_of (Int32.ofInt m) (Int32.ofInt i) 6 σ = some (Int32.ofInt (w 6)) := pm_of (k := 6) hM hm hi (by omega)
  have o7 : f_X12_of (Int32.ofInt m) (Int32.ofInt i) 7 σ = some (Int32.ofInt (w 7)) := pm_of (k := 7) hM hm hi (by omega)
  have o8 : f_X12_of (Int32.ofInt m) (Int32.ofInt i) 8 σ = some (Int32.ofInt (w 8)) := pm_of (k := 8) hM hm hi (by omega)
  obtain ⟨-, -, -, ⟨a1, a2⟩, -, ⟨p1, p2⟩, ⟨q1, q2⟩, ⟨r1, r2⟩, ⟨s1, s2⟩⟩ := hw
  unfold f_X12_turnedPlace
  rw [ht, Option.bind_some]
  by_cases h4 : 0 < w 4
  · rw [if_pos (decide_eq_true h4), o5, Option.bind_some, o7, Option.bind_some, o6, Option.bind_some, o8, Option.bind_some]
    rw [pI_L (a := w 5) (by unfold pn_R; omega), pI_L (a := w 6) (by unfold pn_R; omega), pI_L (a := w 7) (by unfold pn_R; omega), pI_L (a := w 8) (by unfold pn_R; omega), pI_L (a := h) (by unfold pn_R; omega), ← Int64.ofInt_mul, ← Int64.ofInt_mul, ← Int64.ofInt_mul]
    rw [if_neg (show ¬ Int64.ofInt (w 6 * w 8) = 0 from fun z => by
      have := (pL_eq (b := 0) (by unfold pn_S; omega) (by unfold pn_S; omega)).mp z
      omega)]
    rw [o3, Option.bind_some, pI_L (a := w 3) (by unfold pn_R; omega), pL_div (by unfold pn_S; omega) (by unfold pn_S; omega) (by omega), ← Int64.ofInt_add]
    have e2 : am_lR (Int64.ofInt ((h * (w 5 * w 7)).tdiv (w 6 * w 8) + w 3)) 24 = Int64.ofInt (((h * (w 5 * w 7)).tdiv (w 6 * w 8) + w 3).tmod 24) := pL_rem (b := 24) (by unfold pn_S; unfold pw_ug at b; omega) (by unfold pn_S; omega) (by omega)
    rw [e2, pL_I]
    unfold pw_place
    rw [if_pos ⟨rfl, h4⟩, Int.add_comm (w 3)]
    rfl
  · rw [if_neg (by rw [decide_eq_false h4]; decide), t, Option.bind_some]
    unfold pw_place
    rw [if_neg (fun z => by cases z.1), if_neg (fun z => h4 z.2)]
theorem pm_placeOf {σ : am_H} {m i : Nat} {w : Nat → Int} {h : Int} {b : Bool} (hw : pw_ok w) (hM : pw_M σ m i w) (hm : m < 3) (hi : i < 6) (h0 : 0 ≤ h) (h1 : h ≤ 200000) : f_X12_placeOf (Int32.ofInt m) (Int32.ofInt i) (Int32.ofInt h) b σ = some (Int32.ofInt (pw_place w h b)) := by
  unfold f_X12_placeOf
  cases b with
  | true => rw [if_pos rfl, pm_turnedPlace hw hM hm hi h0 h1]; rfl
  | false => rw [if_neg (by decide), pm_truePlace hw hM hm hi h0 h1]; rfl
theorem pm_cosine {σ : am_H} {p : Int} (h0 : 0 ≤ p) (h1 : p ≤ 23) : f_X12_cosine (Int32.ofInt p) σ = some (Int32.ofInt (pc_cos p)) := by
  rcases (by omega : p = 0 ∨ p = 1 ∨ p = 2 ∨ p = 3 ∨ p = 4 ∨ p = 5 ∨ p = 6 ∨ p = 7 ∨ p = 8 ∨ p = 9 ∨ p = 10 ∨ p = 11 ∨ p = 12 ∨ p = 13 ∨ p = 14 ∨ p = 15 ∨ p = 16 ∨ p = 17 ∨ p = 18 ∨ p = 19 ∨ p = 20 ∨ p = 21 ∨ p = 22 ∨ p = 23) with rfl | rfl | rfl | rfl | rfl | rfl | rfl | rfl | rfl | rfl | rfl | rfl | rfl | rfl | rfl | rfl | rfl | rfl | rfl | rfl | rfl | rfl | rfl | rfl <;> (unfold f_X12_cosine f_X12_cosine_14; decide)
