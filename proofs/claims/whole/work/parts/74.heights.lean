/-! ===== heights: both sides are one sum ===== -/
/-- HEIGHT of the first n waves, and of ZERO z -/
def ph_sum (ws : Nat → Nat → Int) (z h : Int) (b : Bool) : Nat → Int
  | 0 => 12 * z
  | n + 1 => ph_sum ws z h b n + ws n 2 * pc_cos (pw_place (ws n) h b)
/-- a machine of the class: waves, ZERO (zr: -1 without) -/
def ph_C (σ : am_H) (a wc : Nat) (ws : Nat → Nat → Int) (zr : Int) : Prop := wc ≤ 6 ∧ σ.1 3 a 1 = Int32.ofInt wc ∧ σ.1 3 a 6 = Int32.ofInt zr ∧ (-1 ≤ zr ∧ zr ≤ 99) ∧ ∀ i, i < wc → pw_ok (ws i) ∧ pw_C σ (6 * a + i) (ws i)
/-- a machine of the reference -/
def ph_M (σ : am_H) (m wc : Nat) (ws : Nat → Nat → Int) (z : Int) : Prop := wc ≤ 6 ∧ σ.1 1320 0 m = Int32.ofInt wc ∧ σ.1 1323 0 m = Int32.ofInt z ∧ (0 ≤ z ∧ z ≤ 99) ∧ ∀ i, i < wc → pw_ok (ws i) ∧ pw_M σ m i (ws i)
theorem ph_zero {σ : am_H} {a wc : Nat} {ws : Nat → Nat → Int} {zr : Int} (hC : ph_C σ a wc ws zr) : f_X3_zeroHeight a σ = some (Int32.ofInt (12 * max zr 0)) := by
  obtain ⟨-, -, q, ⟨z1, z2⟩, -⟩ := hC
  unfold f_X3_zeroHeight
  rw [q]
  have c0 : Int32.ofInt zr < 0 ↔ zr < 0 := pI_lt (b := 0) (by unfold pn_R; omega) (by unfold pn_R; omega)
  unfold am_mx
  rw [Int32.ofInt_mul]
  by_cases h : zr < 0
  · rw [if_pos (c0.mpr h), show max zr 0 = 0 by omega]; rfl
  · rw [if_neg (fun z => h (c0.mp z)), show max zr 0 = zr by omega]; rfl
theorem ph_heightAt {σ : am_H} {a wc : Nat} {ws : Nat → Nat → Int} {zr h : Int} {b : Bool} (hC : ph_C σ a wc ws zr) (h0 : 0 ≤ h) (h1 : h ≤ 200000) : f_X3_heightAt a (Int64.ofInt h) b σ = some (Int32.ofInt (ph_sum ws (max zr 0) h b wc)) := by
  have hz := ph_zero hC
  obtain ⟨w6, q1, -, -, hw⟩ := hC
  unfold f_X3_heightAt
  rw [hz, Option.bind_some]
  have lp := am_loop_n (body := fun s : Int32 × Int32 => f_X3_heightAt_9 a (Int64.ofInt h) b s.1 s.2 σ) (fun i => (Int32.ofInt (ph_sum ws (max zr 0) h b i), Int32.ofInt i)) wc (r := Int32.ofInt (ph_sum ws (max zr 0) h b wc)) ?_ ?_
  · have lp' : am_loop (fun s : Int32 × Int32 => f_X3_heightAt_9 a (Int64.ofInt h) b s.1 s.2 σ) (Int32.ofInt (12 * max zr 0), 0) = some (Int32.ofInt (ph_sum ws (max zr 0) h b wc)) := lp
    rw [lp']
    rfl
  · intro i hi
    obtain ⟨ok, hc⟩ := hw i hi
    have pl := pw_placeAt (b := b) ok hc h0 h1
    have pb := pw_place_b (b := b) ok h0 h1
    have cs := pc_cosOf (σ := σ) (p := pw_place (ws i) h b) (by unfold pn_S; omega)
    have q3 : σ.1 10 (6 * a + i) 3 = Int32.ofInt (ws i 2) := hc.2.2.1
    have okz : 0 ≤ ws i 2 ∧ ws i 2 ≤ 99 := ok.2.2.1
    show f_X3_heightAt_9 a (Int64.ofInt h) b (Int32.ofInt (ph_sum ws (max zr 0) h b i)) (Int32.ofInt i) σ = some (.inl (Int32.ofInt (ph_sum ws (max zr 0) h b (i + 1)), Int32.ofInt ((i + 1 : Nat) : Int)))
    unfold f_X3_heightAt_9
    rw [q1, if_pos ((pI_lt (by unfold pn_R; omega) (by unfold pn_R; omega)).mpr (by omega)), pI_ix (by omega) (by omega) (by omega), Option.bind_some]
    rw [show (i : Int).toNat = i by omega, q3]
    have e1 : Int32.ofInt (i : Int) + 1 = Int32.ofInt ((i + 1 : Nat) : Int) := by
      rw [show ((i + 1 : Nat) : Int) = (i : Int) + 1 by omega, Int32.ofInt_add]
      rfl
    have c0 : Int32.ofInt (ws i 2) = 0 ↔ ws i 2 = 0 := pI_eq (b := 0) (by unfold pn_R; omega) (by unfold pn_R; omega)
    rw [e1]
    by_cases hs : ws i 2 = 0
    · rw [if_pos (c0.mpr hs)]
      show _ = some (Sum.inl (Int32.ofInt (ph_sum ws (max zr 0) h b i + ws i 2 * pc_cos (pw_place (ws i) h b)), _))
      rw [hs, Int.zero_mul, Int.add_zero]
    · rw [if_neg (fun z => hs (c0.mp z)), pl, Option.bind_some, pI_L (by unfold pn_R; omega), cs, Option.bind_some, ← Int32.ofInt_mul, ← Int32.ofInt_add]
      rfl
  · show f_X3_heightAt_9 a (Int64.ofInt h) b (Int32.ofInt (ph_sum ws (max zr 0) h b wc)) (Int32.ofInt wc) σ = _
    unfold f_X3_heightAt_9
    rw [q1, if_neg (fun z => by have := (pI_lt (a := wc) (b := wc) (by unfold pn_R; omega) (by unfold pn_R; omega)).mp z; omega)]
theorem ph_heightOf {σ : am_H} {m wc : Nat} {ws : Nat → Nat → Int} {z h : Int} {b : Bool} (hM : ph_M σ m wc ws z) (hm : m < 3) (h0 : 0 ≤ h) (h1 : h ≤ 200000) : f_X12_heightOf (Int32.ofInt m) (Int32.ofInt h) b σ = some (Int32.ofInt (ph_sum ws z h b wc)) := by
  obtain ⟨w6, q1, q2, -, hw⟩ := hM
  have ix : am_ix 3 (Int32.ofInt (m : Int)) = some m := by
    rw [pI_ix (by omega) (by omega) (by omega), show (m : Int).toNat = m by omega]
  unfold f_X12_heightOf
  rw [ix, Option.bind_some, q2]
  have lp := am_loop_n (body := fun s : Int32 × Int32 => f_X12_heightOf_14 (Int32.ofInt m) (Int32.ofInt h) b s.1 s.2 σ) (fun i => (Int32.ofInt (ph_sum ws z h b i), Int32.ofInt i)) wc (r := Int32.ofInt (ph_sum ws z h b wc)) ?_ ?_
  · have e0 : (12 : Int32) * Int32.ofInt z = Int32.ofInt (12 * z) := (Int32.ofInt_mul 12 z).symm
    rw [e0]
    have lp' : am_loop (fun s : Int32 × Int32 => f_X12_heightOf_14 (Int32.ofInt m) (Int32.ofInt h) b s.1 s.2 σ) (Int32.ofInt (12 * z), 0) = some (Int32.ofInt (ph_sum ws z h b wc)) := lp
    rw [lp']
    rfl
  · intro i hi
    obtain ⟨ok, hc⟩ := hw i hi
    have pl := pm_placeOf (b := b) ok hc hm (by omega) h0 h1
    have pb := pw_place_b (b := b) ok h0 h1
    have cs := pm_cosine (σ := σ) (p := pw_place (ws i) h b) pb.1 pb.2
    have o2 : f_X12_of (Int32.ofInt m) (Int32.ofInt i) 2 σ = some (Int32.ofInt (ws i 2)) := pm_of (k := 2) hc hm (by omega) (by omega)
    show f_X12_heightOf_14 (Int32.ofInt m) (Int32.ofInt h) b (Int32.ofInt (ph_sum ws z h b i)) (Int32.ofInt i) σ = some (.inl (Int32.ofInt (ph_sum ws z h b (i + 1)), Int32.ofInt ((i + 1 : Nat) : Int)))
    unfold f_X12_heightOf_14
    have e1 : Int32.ofInt (i : Int) + 1 = Int32.ofInt ((i + 1 : Nat) : Int) := by
      rw [show ((i + 1 : Nat) : Int) = (i : Int) + 1 by omega, Int32.ofInt_add]
      rfl
    rw [ix, Option.bind_some, q1, if_pos ((pI_lt (by unfold pn_R; omega) (by unfold pn_R; omega)).mpr (by omega)), o2, Option.bind_some, pl, Option.bind_some, cs, Option.bind_some, ← Int32.ofInt_mul, ← Int32.ofInt_add, e1]
    rfl
  · show f_X12_heightOf_14 (Int32.ofInt m) (Int32.ofInt h) b (Int32.ofInt (ph_sum ws z h b wc)) (Int32.ofInt wc) σ = _
    unfold f_X12_heightOf_14
    rw [ix, Option.bind_some, q1, if_neg (fun z => by have := (pI_lt (a := wc) (b := wc) (by unfold pn_R; omega) (by unfold pn_R; omega)).mp z; omega)]
theorem ph_b {ws : Nat → Nat → Int} {z h : Int} {b : Bool} {n : Nat} (hz : 0 ≤ z ∧ z ≤ 99) (hw : ∀ i, i < n → pw_ok (ws i)) : 12 * z - 1188 * n ≤ ph_sum ws z h b n ∧ ph_sum ws z h b n ≤ 12 * z + 1188 * n := by
  induction n with
  | zero => show 12 * z - _ ≤ 12 * z ∧ 12 * z ≤ _; omega
  | succ n ih =>
    have ih := ih (fun i hi => hw i (by omega))
    obtain ⟨-, -, ⟨a1, a2⟩, -⟩ := hw n (by omega)
    have c := pc_b (pw_place (ws n) h b)
    show 12 * z - 1188 * ((n + 1 : Nat) : Int) ≤ ph_sum ws z h b n + ws n 2 * pc_cos (pw_place (ws n) h b) ∧ ph_sum ws z h b n + ws n 2 * pc_cos (pw_place (ws n) h b) ≤ _
    have e1 : ws n 2 * pc_cos (pw_place (ws n) h b) ≤ ws n 2 * 12 := Int.mul_le_mul_of_nonneg_left c.2 a1
    have e2 : ws n 2 * (-12) ≤ ws n 2 * pc_cos (pw_place (ws n) h b) := Int.mul_le_mul_of_nonneg_left c.1 a1
    omega
