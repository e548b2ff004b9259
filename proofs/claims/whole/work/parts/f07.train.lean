/-! ===== MACHINE: what a WAVE's text changes ===== -/
def qz (Z : Nat → Nat → Nat → Bool) (σ σ' : am_H) : Prop := ∀ k i j, Z k i j = false → σ'.1 k i j = σ.1 k i j ∧ σ'.2.1 k i j = σ.2.1 k i j ∧ σ'.2.2 k i j = σ.2.2 k i j
theorem qz.rf {Z : Nat → Nat → Nat → Bool} {σ : am_H} : qz Z σ σ := fun _ _ _ _ => ⟨rfl, rfl, rfl⟩
theorem qz.tr {Z : Nat → Nat → Nat → Bool} {σ σ1 σ2 : am_H} (h : qz Z σ σ1) (h2 : qz Z σ1 σ2) : qz Z σ σ2 := fun k i j hl => ⟨(h2 k i j hl).1.trans (h k i j hl).1, (h2 k i j hl).2.1.trans (h k i j hl).2.1, (h2 k i j hl).2.2.trans (h k i j hl).2.2⟩
theorem qz.wI {Z : Nat → Nat → Nat → Bool} {σ σ1 : am_H} {k i j : Nat} {v : Int32} (h : qz Z σ σ1) (hj : Z k i j = true) : qz Z σ (am_wI σ1 k i j v) := fun a b c hl => ⟨by
  rw [am_wI_r, if_neg (fun z => by rw [z.1, z.2.1, z.2.2, hj] at hl; cases hl)]
  exact (h a b c hl).1, (h a b c hl).2.1, (h a b c hl).2.2⟩
theorem qz.wL {Z : Nat → Nat → Nat → Bool} {σ σ1 : am_H} {k i j : Nat} {v : Int64} (h : qz Z σ σ1) (hj : Z k i j = true) : qz Z σ (am_wL σ1 k i j v) := fun a b c hl => ⟨(h a b c hl).1, by
  rw [am_wL_r, if_neg (fun z => by rw [z.1, z.2.1, z.2.2, hj] at hl; cases hl)]
  exact (h a b c hl).2.1, (h a b c hl).2.2⟩
theorem qz.mo {Z Y : Nat → Nat → Nat → Bool} {σ σ1 : am_H} (h : qz Z σ σ1) (hs : ∀ k i j, Z k i j = true → Y k i j = true) : qz Y σ σ1 := fun k i j hy => h k i j (by
  cases hz : Z k i j with
  | false => rfl
  | true => rw [hs k i j hz] at hy; cases hy)
theorem qf.z {Z : Nat → Nat → Nat → Bool} {l : List (Nat × Nat)} {σ σ1 : am_H} (h : qf l σ σ1) (hs : ∀ k i j, qf_in l k j = true → Z k i j = true) : qz Z σ σ1 := fun k i j hy => h k i j (by
  cases hz : qf_in l k j with
  | false => rfl
  | true => rw [hs k i j hz] at hy; cases hy)
/-- the cells of the class's wave R, of the reference's wave c -/
def zW (R : Nat) (k i j : Nat) : Bool := qf_in tlC k j || (((k == 10 && !(j == 0)) || k == 1106) && i == R)
def zV (c : Nat) (k i j : Nat) : Bool := qf_in tlM k j || (k == 1324 && decide (108 + 9 * c ≤ j ∧ j < 108 + 9 * c + 9))
theorem zW_t {R k i j : Nat} (h : qf_in tlC k j = true) : zW R k i j = true := by
  unfold zW
  rw [h]
  rfl
theorem zV_t {c k i j : Nat} (h : qf_in tlM k j = true) : zV c k i j = true := by
  unfold zV
  rw [h]
  rfl
theorem zW_w {R j : Nat} : zW R 10 R (j + 1) = true ∧ zW R 1106 R j = true := by
  unfold zW
  simp
theorem zV_w {c k : Nat} (hk : k < 9) : zV c 1324 0 (108 + 9 * c + k) = true := by
  unfold zV
  simp [hk]
def up (w : Nat → Int) (k : Nat) (v : Int) : Nat → Int := fun j => if j = k then v else w j
/-- a WAVE of the class whose products are yet to be made -/
def pw_D (σ : am_H) (r : Nat) (w : Nat → Int) : Prop := σ.1 10 r 1 = Int32.ofInt (w 0) ∧ σ.1 10 r 2 = Int32.ofInt (w 1) ∧ σ.1 10 r 3 = Int32.ofInt (w 2) ∧ σ.1 10 r 4 = Int32.ofInt (w 3) ∧ σ.1 10 r 5 = Int32.ofInt (w 4) ∧ ∀ k, k < 4 → σ.1 1106 r k = Int32.ofInt (w (5 + k))
theorem pw_C.d {σ : am_H} {r : Nat} {w : Nat → Int} (h : pw_C σ r w) : pw_D σ r w := ⟨h.1, h.2.1, h.2.2.1, h.2.2.2.1, h.2.2.2.2.1, h.2.2.2.2.2.1⟩
theorem pw_D.q {σ τ : am_H} {r : Nat} {w : Nat → Int} {l : List (Nat × Nat)} (D : pw_D σ r w) (h : qf l σ τ) (hd : qf_dj l [(10, 999), (1106, 999)] = true) : pw_D τ r w := by
  have g := h.a hd
  unfold pw_D at D ⊢
  rw [g.I (k := 10) (fun j => rfl), g.I (k := 1106) (fun j => rfl)]
  exact D
theorem pw_D.c {σ : am_H} {r : Nat} {w w' : Nat → Int} (D : pw_D σ r w) (h : ∀ k, k < 9 → w k = w' k) : pw_D σ r w' := by
  obtain ⟨d1, d2, d3, d4, d5, d6⟩ := D
  refine ⟨by rw [← h 0 (by omega)]; exact d1, by rw [← h 1 (by omega)]; exact d2, by rw [← h 2 (by omega)]; exact d3, by rw [← h 3 (by omega)]; exact d4, by rw [← h 4 (by omega)]; exact d5, fun k hk => by rw [← h (5 + k) (by omega)]; exact d6 k hk⟩
theorem pw_M.c {σ : am_H} {m i : Nat} {w w' : Nat → Int} (D : pw_M σ m i w) (h : ∀ k, k < 9 → w k = w' k) : pw_M σ m i w' := fun k hk => by
  rw [← h k hk]
  exact D k hk
theorem pw_M.w {σ : am_H} {c k : Nat} {w : Nat → Int} {v : Int} (M : pw_M σ 2 c w) (hk : k < 9) : pw_M (am_wI σ 1324 0 (108 + 9 * c + k) (Int32.ofInt v)) 2 c (up w k v) := fun j hj => by
  rw [am_wI_r]
  unfold up
  by_cases e : j = k
  · rw [if_pos ⟨rfl, rfl, by omega⟩, if_pos e]
  · rw [if_neg (by omega), if_neg e]
    exact M j hj
theorem pw_D.t {σ : am_H} {R k : Nat} {w : Nat → Int} {v u : Int} (D : pw_D σ R w) (hk : k < 4) : pw_D (am_wI (am_wI σ 1106 R k (Int32.ofInt v)) 10 R 5 (Int32.ofInt u)) R (up (up w (5 + k) v) 4 u) := by
  obtain ⟨d1, d2, d3, d4, d5, d6⟩ := D
  refine ⟨?_, ?_, ?_, ?_, ?_, fun j hj => ?_⟩
  · rw [show up (up w (5 + k) v) 4 u 0 = w 0 by unfold up; rw [if_neg (by omega), if_neg (by omega)]]; exact (by simp [am_wI, am_u3]; exact d1)
  · rw [show up (up w (5 + k) v) 4 u 1 = w 1 by unfold up; rw [if_neg (by omega), if_neg (by omega)]]; exact (by simp [am_wI, am_u3]; exact d2)
  · rw [show up (up w (5 + k) v) 4 u 2 = w 2 by unfold up; rw [if_neg (by omega), if_neg (by omega)]]; exact (by simp [am_wI, am_u3]; exact d3)
  · rw [show up (up w (5 + k) v) 4 u 3 = w 3 by unfold up; rw [if_neg (by omega), if_neg (by omega)]]; exact (by simp [am_wI, am_u3]; exact d4)
  · rw [show up (up w (5 + k) v) 4 u 4 = u by unfold up; rw [if_pos rfl]]; simp [am_wI, am_u3]
  · rw [am_wI_r, if_neg (by omega), am_wI_r]
    by_cases e : j = k
    · rw [if_pos ⟨rfl, rfl, e⟩, show up (up w (5 + k) v) 4 u (5 + j) = v by unfold up; rw [if_neg (by omega), if_pos (by omega)]]
    · rw [if_neg (by omega), show up (up w (5 + k) v) 4 u (5 + j) = w (5 + j) by unfold up; rw [if_neg (by omega), if_neg (by omega)]]
      exact d6 j hj
/-- both sides' WAVE -/
def wv (σ1 σ2 : am_H) (R c : Nat) (w : Nat → Int) : Prop := pw_C σ1 R w ∧ pw_M σ2 2 c w ∧ pw_ok w ∧ pw_tr w
/-- both sides have found the same FAULT -/
def oN (ZC ZM : Nat → Nat → Nat → Bool) (σ1 σ2 τ1 τ2 : am_H) : Prop := (∃ (k : Int) (q : Nat), flt τ1 k q ∧ bd τ2 k q) ∧ qz ZC σ1 τ1 ∧ qz ZM σ2 τ2
/-- one wheel of a TRAIN -/
theorem mt_tooth {σ1 σ2 : am_H} {n : Nat} {b : Nat → Int} {s p e R c k : Nat} {w1 w2 : Nat → Int} (h : tk σ1 σ2 n b s p e) (g : gd σ2) (hk : k < 4) (D : pw_D σ1 R w1) (M : pw_M σ2 2 c w2) : (∃ (v : Int) (τ1 τ2 : am_H) (s' p' e' : Nat), (5 ≤ v ∧ v ≤ 200) ∧ s = 2 ∧ f_X3_readsTrain_22 R (Int32.ofInt (k : Int)) σ1 = some (.inl (Int32.ofInt ((k : Int) + 1), τ1)) ∧ f_X12_count (Int32.ofInt 5) (Int32.ofInt 200) σ2 = some (Int32.ofInt v, τ2) ∧ tk τ1 (am_wI τ2 1324 0 (108 + 9 * c + (5 + k)) (Int32.ofInt v)) n b s' p' e' ∧ gd (am_wI τ2 1324 0 (108 + 9 * c + (5 + k)) (Int32.ofInt v)) ∧ p < p' ∧ pw_D τ1 R (up (up w1 (5 + k) v) 4 ((k : Int).tdiv 2 + 1)) ∧ pw_M (am_wI τ2 1324 0 (108 + 9 * c + (5 + k)) (Int32.ofInt v)) 2 c (up w2 (5 + k) v) ∧ qz (zW R) σ1 τ1 ∧ qz (zV c) σ2 (am_wI τ2 1324 0 (108 + 9 * c + (5 + k)) (Int32.ofInt v))) ∨ (∃ q : Int, (1 ≤ q ∧ q ≤ 6) ∧ f_X3_readsTrain_22 R (Int32.ofInt (k : Int)) σ1 = some (.inr (.inr (.inl (FC σ1 q p)))) ∧ f_X12_count (Int32.ofInt 5) (Int32.ofInt 200) σ2 = some (Int32.ofInt 0, FM σ2 q p)) := by
  rcases tk_num2 h g (lo := 5) (hi := 200) (by omega) (by omega) with ⟨v, s2, vb, k6, a1, a2, a3⟩ | ⟨q, qb, a1, a2, a3⟩
  · left
    have Q1 : qf [(1106, 999), (10, 5)] σ1 (am_wI (am_wI σ1 1106 R k (Int32.ofInt v)) 10 R 5 (Int32.ofInt ((k : Int).tdiv 2 + 1))) := (qf.rf.wI rfl).wI rfl
    obtain ⟨τ1, τ2, s', p', e', b1, b2, b3, b4, b5, b6, b7, b8⟩ := a3 _ (h.q Q1 (by decide +kernel) (qf.rf (l := [])) (by decide +kernel))
    have Q2 : qf [(1324, 999)] τ2 (am_wI τ2 1324 0 (108 + 9 * c + (5 + k)) (Int32.ofInt v)) := qf.rf.wI rfl
    refine ⟨v, τ1, τ2, s', p', e', vb, s2, ?_, b2, b4.q (qf.rf (l := [])) (by decide +kernel) Q2 (by decide +kernel), b5, b6, (D.t hk).q b7 (by decide +kernel), (sw_M b8 (by decide +kernel) M).w (by omega), ((qz.rf.wI zW_w.2).wI zW_w.1).tr (b7.z (fun _ _ _ => zW_t)), (b8.z (fun _ _ _ => zV_t)).wI (zV_w (by omega))⟩
    have td : (0 : Int) ≤ (k : Int).tdiv 2 ∧ (k : Int).tdiv 2 ≤ 1 := by
      rw [Int.tdiv_eq_ediv_of_nonneg (by omega)]
      omega
    have k6' : σ1.1 5 0 6 = Int32.ofInt v := k6
    simp (disch := omega) only [f_X3_readsTrain_22, a1, k6', qI_div, b1, Option.bind_some, qi, ql, qI_lt, qI_le, qI_eq, qI_L, qI_ix, qL_lt, qL_eq, q_nat, q_cs, ← Int32.ofInt_add, ← Int32.ofInt_sub, ← Int32.ofInt_mul, ← Int32.ofInt_neg, ← Int64.ofInt_add, ← Int64.ofInt_sub, ← Int64.ofInt_mul, ← Int64.ofInt_neg, pL_I, q_mx, q_mn, q_ab, q_abL, q_mnL, q_nn0, q_nn1, q_rr, q_b1, q_b0, q_T, q_F, q_iT, q_iF, q_d, q_in, q_wi, q_hC, q_hM, pT_i, pU_i, pS_i, pS_j, pS_0, Sum.elim_inl, Sum.elim_inr, if_pos, if_neg]
  · right
    refine ⟨q, qb, ?_, a3⟩
    simp (disch := omega) only [f_X3_readsTrain_22, a1, Option.bind_some, qi, ql, qI_lt, qI_le, qI_eq, qI_L, qI_ix, qL_lt, qL_eq, q_nat, q_cs, ← Int32.ofInt_add, ← Int32.ofInt_sub, ← Int32.ofInt_mul, ← Int32.ofInt_neg, ← Int64.ofInt_add, ← Int64.ofInt_sub, ← Int64.ofInt_mul, ← Int64.ofInt_neg, pL_I, q_mx, q_mn, q_ab, q_abL, q_mnL, q_nn0, q_nn1, q_rr, q_b1, q_b0, q_T, q_F, q_iT, q_iF, q_d, q_in, q_wi, q_hC, q_hM, pT_i, pU_i, pS_i, pS_j, pS_0, Sum.elim_inl, Sum.elim_inr, if_pos, if_neg]
theorem mt_mul {σ : am_H} {R : Nat} {w : Nat → Int} (D : pw_D σ R w) (ok : pw_ok w) : ∃ τ : am_H, f_X10_multiplyTeeth R σ = some τ ∧ qf [(10, 7), (10, 8)] σ τ ∧ qz (zW R) σ τ ∧ pw_C τ R w := by
  obtain ⟨d1, d2, d3, d4, d5, d6⟩ := D
  obtain ⟨-, -, -, -, -, o5, o6, o7, o8⟩ := ok
  have z0 : (0 : Int).toNat = 0 := rfl
  have z1 : (1 : Int).toNat = 1 := rfl
  have z2 : (2 : Int).toNat = 2 := rfl
  have z3 : (3 : Int).toNat = 3 := rfl
  have e0 : σ.1 1106 R 0 = Int32.ofInt (w 5) := d6 0 (by omega)
  have e1 : σ.1 1106 R 1 = Int32.ofInt (w 6) := d6 1 (by omega)
  have e2 : σ.1 1106 R 2 = Int32.ofInt (w 7) := d6 2 (by omega)
  have e3 : σ.1 1106 R 3 = Int32.ofInt (w 8) := d6 3 (by omega)
  have i0 : ∀ v : Int64, (am_wL σ 10 R 7 v).1 = σ.1 := fun v => rfl
  refine ⟨am_wL (am_wL σ 10 R 7 (Int64.ofInt (w 5 * w 7))) 10 R 8 (Int64.ofInt (w 6 * w 8)), ?_, (qf.rf.wL rfl).wL rfl, (qz.rf.wL zW_w.1).wL zW_w.1, d1, d2, d3, d4, d5, d6, ?_, ?_⟩
  · simp (disch := omega) only [f_X10_multiplyTeeth, z0, z1, z2, z3, e0, e2, i0, e1, e3, Option.bind_some, qi, ql, qI_lt, qI_le, qI_eq, qI_L, qI_ix, qL_lt, qL_eq, q_nat, q_cs, ← Int32.ofInt_add, ← Int32.ofInt_sub, ← Int32.ofInt_mul, ← Int32.ofInt_neg, ← Int64.ofInt_add, ← Int64.ofInt_sub, ← Int64.ofInt_mul, ← Int64.ofInt_neg, pL_I, q_mx, q_mn, q_ab, q_abL, q_mnL, q_nn0, q_nn1, q_rr, q_b1, q_b0, q_T, q_F, q_iT, q_iF, q_d, q_in, q_wi, q_hC, q_hM, pT_i, pU_i, pS_i, pS_j, pS_0, Sum.elim_inl, Sum.elim_inr, if_pos, if_neg]
  · simp [am_wL, am_u3]
  · simp [am_wL, am_u3]
