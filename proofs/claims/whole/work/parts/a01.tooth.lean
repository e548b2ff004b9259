/-! ===== a wheel with other teeth ===== -/
def pt_w (w : Nat → Int) (k : Nat) (t : Int) : Nat → Int := fun x => if x = 5 + k then t else w x
theorem pt_w_s {w : Nat → Int} {k x : Nat} {t : Int} (h : x < 5) : pt_w w k t x = w x := if_neg (by omega)
theorem pt_w_k {w : Nat → Int} {k : Nat} {t : Int} : pt_w w k t (5 + k) = t := if_pos rfl
theorem pt_w_n {w : Nat → Int} {k x : Nat} {t : Int} (h : x ≠ 5 + k) : pt_w w k t x = w x := if_neg h
/-- teeth from 1 to 1000 -/
def pt_ok (w : Nat → Int) : Prop := (1 ≤ w 5 ∧ w 5 ≤ 1000) ∧ (1 ≤ w 6 ∧ w 6 ≤ 1000) ∧ (1 ≤ w 7 ∧ w 7 ≤ 1000) ∧ (1 ≤ w 8 ∧ w 8 ≤ 1000)
theorem pt_w_ok {w : Nat → Int} (ok : pw_ok w) {k : Nat} {t : Int} (t1 : 1 ≤ t) (t2 : t ≤ 1000) : pt_ok (pt_w w k t) := by
  obtain ⟨-, -, -, -, -, ⟨a1, a2⟩, ⟨b1, b2⟩, ⟨c1, c2⟩, ⟨d1, d2⟩⟩ := ok
  unfold pt_ok pt_w
  refine ⟨?_, ?_, ?_, ?_⟩ <;> (split <;> omega)
theorem pt_pr {w : Nat → Int} (ok : pt_ok w) : (1 ≤ w 5 * w 7 ∧ w 5 * w 7 ≤ 1000000) ∧ (1 ≤ w 6 * w 8 ∧ w 6 * w 8 ≤ 1000000) := by
  obtain ⟨⟨a1, a2⟩, ⟨b1, b2⟩, ⟨c1, c2⟩, ⟨d1, d2⟩⟩ := ok
  have e1 : 1 * 1 ≤ w 5 * w 7 := Int.mul_le_mul a1 c1 (by omega) (by omega)
  have e2 : w 5 * w 7 ≤ 1000 * 1000 := Int.mul_le_mul a2 c2 (by omega) (by omega)
  have e3 : 1 * 1 ≤ w 6 * w 8 := Int.mul_le_mul b1 d1 (by omega) (by omega)
  have e4 : w 6 * w 8 ≤ 1000 * 1000 := Int.mul_le_mul b2 d2 (by omega) (by omega)
  omega
theorem pt_ug {w : Nat → Int} (ok : pt_ok w) {h : Int} (h0 : 0 ≤ h) (h1 : h ≤ 99999) : (0 ≤ h * (w 5 * w 7) ∧ h * (w 5 * w 7) ≤ 99999000000) ∧ (0 ≤ pw_ug w h ∧ pw_ug w h ≤ 99999000000) := by
  have p := pt_pr ok
  have e5 : 0 ≤ h * (w 5 * w 7) := Int.mul_nonneg h0 (by omega)
  have e6 : h * (w 5 * w 7) ≤ 99999 * 1000000 := Int.mul_le_mul h1 (by omega) (by omega) (by omega)
  have e7 : 0 ≤ pw_ug w h := Int.tdiv_nonneg e5 (by omega)
  have e8 := Int.natAbs_tdiv_le_natAbs (h * (w 5 * w 7)) (w 6 * w 8)
  unfold pw_ug at e7 ⊢
  omega
theorem pt_dr {σ : am_H} {r k : Nat} {w : Nat → Int} {t : Int} (ok : pw_ok w) (C : pw_C σ r w) (hk : k < 4) (t1 : 1 ≤ t) (t2 : t ≤ 1000) : f_X10_drivingWith r (Int32.ofInt k) (Int32.ofInt t) σ = some (Int64.ofInt (pt_w w k t 5 * pt_w w k t 7)) ∧ f_X10_drivenWith r (Int32.ofInt k) (Int32.ofInt t) σ = some (Int64.ofInt (pt_w w k t 6 * pt_w w k t 8)) := by
  have q5 : σ.1 1106 r (0 : Int).toNat = Int32.ofInt (w 5) := C.2.2.2.2.2.1 0 (by omega)
  have q6 : σ.1 1106 r (1 : Int).toNat = Int32.ofInt (w 6) := C.2.2.2.2.2.1 1 (by omega)
  have q7 : σ.1 1106 r (2 : Int).toNat = Int32.ofInt (w 7) := C.2.2.2.2.2.1 2 (by omega)
  have q8 : σ.1 1106 r (3 : Int).toNat = Int32.ofInt (w 8) := C.2.2.2.2.2.1 3 (by omega)
  obtain ⟨-, -, -, -, -, ⟨a1, a2⟩, ⟨b1, b2⟩, ⟨c1, c2⟩, ⟨d1, d2⟩⟩ := ok
  rcases (by omega : k = 0 ∨ k = 1 ∨ k = 2 ∨ k = 3) with rfl | rfl | rfl | rfl
  · rw [show pt_w w 0 t 5 = t from rfl, show pt_w w 0 t 7 = w 7 from rfl, show pt_w w 0 t 6 = w 6 from rfl, show pt_w w 0 t 8 = w 8 from rfl]
    constructor
    · simp (disch := omega) only [f_X10_drivingWith, f_X10_drivingWith_14, q5, q6, q7, q8, Option.bind_some, qi, ql, qI_lt, qI_le, qI_eq, qI_L, qI_ix, qL_lt, qL_eq, q_nat, q_cs, ← Int32.ofInt_add, ← Int32.ofInt_sub, ← Int32.ofInt_mul, ← Int32.ofInt_neg, ← Int64.ofInt_add, ← Int64.ofInt_sub, ← Int64.ofInt_mul, ← Int64.ofInt_neg, pL_I, q_mx, q_mn, q_ab, q_abL, q_mnL, q_nn0, q_nn1, q_rr, q_b1, q_b0, q_T, q_F, q_iT, q_iF, q_d, q_in, q_wi, q_hC, q_hM, pT_i, pU_i, pS_i, pS_j, pS_0, Sum.elim_inl, Sum.elim_inr, if_pos, if_neg]
    · simp (disch := omega) only [f_X10_drivenWith, f_X10_drivenWith_15, q5, q6, q7, q8, Option.bind_some, qi, ql, qI_lt, qI_le, qI_eq, qI_L, qI_ix, qL_lt, qL_eq, q_nat, q_cs, ← Int32.ofInt_add, ← Int32.ofInt_sub, ← Int32.ofInt_mul, ← Int32.ofInt_neg, ← Int64.ofInt_add, ← Int64.ofInt_sub, ← Int64.ofInt_mul, ← Int64.ofInt_neg, pL_I, q_mx, q_mn, q_ab, q_abL, q_mnL, q_nn0, q_nn1, q_rr, q_b1, q_b0, q_T, q_F, q_iT, q_iF, q_d, q_in, q_wi, q_hC, q_hM, pT_i, pU_i, pS_i, pS_j, pS_0, Sum.elim_inl, Sum.elim_inr, if_pos, if_neg]
  · rw [show pt_w w 1 t 5 = w 5 from rfl, show pt_w w 1 t 7 = w 7 from rfl, show pt_w w 1 t 6 = t from rfl, show pt_w w 1 t 8 = w 8 from rfl]
    constructor
    · simp (disch := omega) only [f_X10_drivingWith, f_X10_drivingWith_14, q5, q6, q7, q8, Option.bind_some, qi, ql, qI_lt, qI_le, qI_eq, qI_L, qI_ix, qL_lt, qL_eq, q_nat, q_cs, ← Int32.ofInt_add, ← Int32.ofInt_sub, ← Int32.ofInt_mul, ← Int32.ofInt_neg, ← Int64.ofInt_add, ← Int64.ofInt_sub, ← Int64.ofInt_mul, ← Int64.ofInt_neg, pL_I, q_mx, q_mn, q_ab, q_abL, q_mnL, q_nn0, q_nn1, q_rr, q_b1, q_b0, q_T, q_F, q_iT, q_iF, q_d, q_in, q_wi, q_hC, q_hM, pT_i, pU_i, pS_i, pS_j, pS_0, Sum.elim_inl, Sum.elim_inr, if_pos, if_neg]
    · simp (disch := omega) only [f_X10_drivenWith, f_X10_drivenWith_15, q5, q6, q7, q8, Option.bind_some, qi, ql, qI_lt, qI_le, qI_eq, qI_L, qI_ix, qL_lt, qL_eq, q_nat, q_cs, ← Int32.ofInt_add, ← Int32.ofInt_sub, ← Int32.ofInt_mul, ← Int32.ofInt_neg, ← Int64.ofInt_add, ← Int64.ofInt_sub, ← Int64.ofInt_mul, ← Int64.ofInt_neg, pL_I, q_mx, q_mn, q_ab, q_abL, q_mnL, q_nn0, q_nn1, q_rr, q_b1, q_b0, q_T, q_F, q_iT, q_iF, q_d, q_in, q_wi, q_hC, q_hM, pT_i, pU_i, pS_i, pS_j, pS_0, Sum.elim_inl, Sum.elim_inr, if_pos, if_neg]
  · rw [show pt_w w 2 t 5 = w 5 from rfl, show pt_w w 2 t 7 = t from rfl, show pt_w w 2 t 6 = w 6 from rfl, show pt_w w 2 t 8 = w 8 from rfl]
    constructor
    · simp (disch := omega) only [f_X10_drivingWith, f_X10_drivingWith_14, q5, q6, q7, q8, Option.bind_some, qi, ql, qI_lt, qI_le, qI_eq, qI_L, qI_ix, qL_lt, qL_eq, q_nat, q_cs, ← Int32.ofInt_add, ← Int32.ofInt_sub, ← Int32.ofInt_mul, ← Int32.ofInt_neg, ← Int64.ofInt_add, ← Int64.ofInt_sub, ← Int64.ofInt_mul, ← Int64.ofInt_neg, pL_I, q_mx, q_mn, q_ab, q_abL, q_mnL, q_nn0, q_nn1, q_rr, q_b1, q_b0, q_T, q_F, q_iT, q_iF, q_d, q_in, q_wi, q_hC, q_hM, pT_i, pU_i, pS_i, pS_j, pS_0, Sum.elim_inl, Sum.elim_inr, if_pos, if_neg]
    · simp (disch := omega) only [f_X10_drivenWith, f_X10_drivenWith_15, q5, q6, q7, q8, Option.bind_some, qi, ql, qI_lt, qI_le, qI_eq, qI_L, qI_ix, qL_lt, qL_eq, q_nat, q_cs, ← Int32.ofInt_add, ← Int32.ofInt_sub, ← Int32.ofInt_mul, ← Int32.ofInt_neg, ← Int64.ofInt_add, ← Int64.ofInt_sub, ← Int64.ofInt_mul, ← Int64.ofInt_neg, pL_I, q_mx, q_mn, q_ab, q_abL, q_mnL, q_nn0, q_nn1, q_rr, q_b1, q_b0, q_T, q_F, q_iT, q_iF, q_d, q_in, q_wi, q_hC, q_hM, pT_i, pU_i, pS_i, pS_j, pS_0, Sum.elim_inl, Sum.elim_inr, if_pos, if_neg]
  · rw [show pt_w w 3 t 5 = w 5 from rfl, show pt_w w 3 t 7 = w 7 from rfl, show pt_w w 3 t 6 = w 6 from rfl, show pt_w w 3 t 8 = t from rfl]
    constructor
    · simp (disch := omega) only [f_X10_drivingWith, f_X10_drivingWith_14, q5, q6, q7, q8, Option.bind_some, qi, ql, qI_lt, qI_le, qI_eq, qI_L, qI_ix, qL_lt, qL_eq, q_nat, q_cs, ← Int32.ofInt_add, ← Int32.ofInt_sub, ← Int32.ofInt_mul, ← Int32.ofInt_neg, ← Int64.ofInt_add, ← Int64.ofInt_sub, ← Int64.ofInt_mul, ← Int64.ofInt_neg, pL_I, q_mx, q_mn, q_ab, q_abL, q_mnL, q_nn0, q_nn1, q_rr, q_b1, q_b0, q_T, q_F, q_iT, q_iF, q_d, q_in, q_wi, q_hC, q_hM, pT_i, pU_i, pS_i, pS_j, pS_0, Sum.elim_inl, Sum.elim_inr, if_pos, if_neg]
    · simp (disch := omega) only [f_X10_drivenWith, f_X10_drivenWith_15, q5, q6, q7, q8, Option.bind_some, qi, ql, qI_lt, qI_le, qI_eq, qI_L, qI_ix, qL_lt, qL_eq, q_nat, q_cs, ← Int32.ofInt_add, ← Int32.ofInt_sub, ← Int32.ofInt_mul, ← Int32.ofInt_neg, ← Int64.ofInt_add, ← Int64.ofInt_sub, ← Int64.ofInt_mul, ← Int64.ofInt_neg, pL_I, q_mx, q_mn, q_ab, q_abL, q_mnL, q_nn0, q_nn1, q_rr, q_b1, q_b0, q_T, q_F, q_iT, q_iF, q_d, q_in, q_wi, q_hC, q_hM, pT_i, pU_i, pS_i, pS_j, pS_0, Sum.elim_inl, Sum.elim_inr, if_pos, if_neg]
theorem q_wid {σ : am_H} {k i j : Nat} {v : Int32} (h : σ.1 k i j = v) : am_wI σ k i j v = σ := by
  unfold am_wI am_u3
  refine Prod.ext (funext fun x => funext fun y => funext fun z => ?_) rfl
  show (if x = k ∧ y = i ∧ z = j then v else σ.1 x y z) = σ.1 x y z
  split
  · rename_i c
    rw [c.1, c.2.1, c.2.2, h]
  · rfl
theorem pt_M {σ : am_H} {m i k : Nat} {w : Nat → Int} {t : Int} (M : pw_M σ m i w) (hk : k < 4) : pw_M (am_wI σ 1324 0 (54 * m + 9 * i + (5 + k)) (Int32.ofInt t)) m i (pt_w w k t) := by
  intro x hx
  have h := M x hx
  show (if 1324 = 1324 ∧ 0 = 0 ∧ 54 * m + 9 * i + x = 54 * m + 9 * i + (5 + k) then Int32.ofInt t else σ.1 1324 0 (54 * m + 9 * i + x)) = Int32.ofInt (if x = 5 + k then t else w x)
  by_cases c : x = 5 + k
  · rw [if_pos ⟨rfl, rfl, by omega⟩, if_pos c]
  · rw [if_neg (by omega), if_neg c]
    exact h
theorem pt_Mn {σ : am_H} {m i m' i' k : Nat} {w : Nat → Int} {v : Int32} (M : pw_M σ m' i' w) (hk : k < 4) (hi : i < 6) (hi' : i' < 6) (hn : m' ≠ m ∨ i' ≠ i) : pw_M (am_wI σ 1324 0 (54 * m + 9 * i + (5 + k)) v) m' i' w := by
  intro x hx
  have h := M x hx
  show (if 1324 = 1324 ∧ 0 = 0 ∧ 54 * m' + 9 * i' + x = 54 * m + 9 * i + (5 + k) then v else σ.1 1324 0 (54 * m' + 9 * i' + x)) = Int32.ofInt (w x)
  rw [if_neg (by omega)]
  exact h
/-- a wave of the reference that is turned by such teeth -/
theorem pt_place {σ : am_H} {m i : Nat} {w : Nat → Int} {h : Int} (M : pw_M σ m i w) (hm : m < 3) (hi : i < 6) (k4 : 0 < w 4 ∧ w 4 ≤ 2) (k3 : 0 ≤ w 3 ∧ w 3 ≤ 23) (ok : pt_ok w) (h0 : 0 ≤ h) (h1 : h ≤ 99999) : f_X12_placeOf (Int32.ofInt m) (Int32.ofInt i) (Int32.ofInt h) true σ = some (Int32.ofInt (pw_place w h true)) ∧ (0 ≤ pw_place w h true ∧ pw_place w h true ≤ 23) := by
  have p := pt_pr ok
  have u := pt_ug ok h0 h1
  obtain ⟨o0, o1, o2, o3, o4, o5, o6, o7, o8⟩ := pm_o M hm hi
  have eP : pw_place w h true = (w 3 + pw_ug w h).tmod 24 := by
    unfold pw_place
    rw [if_pos ⟨rfl, k4.1⟩]
  have em : (w 3 + pw_ug w h).tmod 24 = (w 3 + pw_ug w h) % 24 := Int.tmod_eq_emod_of_nonneg (by omega)
  have em2 : (pw_ug w h + w 3).tmod 24 = (w 3 + pw_ug w h).tmod 24 := by rw [Int.add_comm]
  have eu : (h * (w 5 * w 7)).tdiv (w 6 * w 8) = pw_ug w h := rfl
  refine ⟨?_, by rw [eP, em]; omega⟩
  rw [eP]
  obtain ⟨⟨a1, a2⟩, ⟨b1, b2⟩, ⟨c1, c2⟩, ⟨d1, d2⟩⟩ := ok
  simp (disch := omega) only [f_X12_placeOf, f_X12_turnedPlace, f_X12_hasTrain, o3, o4, o5, o6, o7, o8, qL_div, eu, qL_rem, em2, Option.bind_some, qi, ql, qI_lt, qI_le, qI_eq, qI_L, qI_ix, qL_lt, qL_eq, q_nat, q_cs, ← Int32.ofInt_add, ← Int32.ofInt_sub, ← Int32.ofInt_mul, ← Int32.ofInt_neg, ← Int64.ofInt_add, ← Int64.ofInt_sub, ← Int64.ofInt_mul, ← Int64.ofInt_neg, pL_I, q_mx, q_mn, q_ab, q_abL, q_mnL, q_nn0, q_nn1, q_rr, q_b1, q_b0, q_T, q_F, q_iT, q_iF, q_d, q_in, q_wi, q_hC, q_hM, pT_i, pU_i, pS_i, pS_j, pS_0, Sum.elim_inl, Sum.elim_inr, if_pos, if_neg]
/-- heights of the reference out of places -/
theorem pt_height {σ : am_H} {m wc : Nat} {ws : Nat → Nat → Int} {z h : Int} {b : Bool} (hm : m < 3) (w6 : wc ≤ 6) (q1 : σ.1 1320 0 m = Int32.ofInt wc) (q2 : σ.1 1323 0 m = Int32.ofInt z) (hw : ∀ i, i < wc → f_X12_placeOf (Int32.ofInt m) (Int32.ofInt i) (Int32.ofInt h) b σ = some (Int32.ofInt (pw_place (ws i) h b)) ∧ (0 ≤ pw_place (ws i) h b ∧ pw_place (ws i) h b ≤ 23) ∧ f_X12_of (Int32.ofInt m) (Int32.ofInt i) (Int32.ofInt 2) σ = some (Int32.ofInt (ws i 2))) : f_X12_heightOf (Int32.ofInt m) (Int32.ofInt h) b σ = some (Int32.ofInt (ph_sum ws z h b wc)) := by
  have lp := am_loop_n (body := fun s : Int32 × Int32 => f_X12_heightOf_14 (Int32.ofInt m) (Int32.ofInt h) b s.1 s.2 σ) (fun i => (Int32.ofInt (ph_sum ws z h b i), Int32.ofInt i)) wc (r := Int32.ofInt (ph_sum ws z h b wc)) ?_ ?_
  · have lp' : am_loop (fun s : Int32 × Int32 => f_X12_heightOf_14 (Int32.ofInt m) (Int32.ofInt h) b s.1 s.2 σ) (Int32.ofInt (12 * z), Int32.ofInt 0) = some (Int32.ofInt (ph_sum ws z h b wc)) := lp
    simp (disch := omega) only [f_X12_heightOf, q2, lp', Option.bind_some, qi, ql, qI_lt, qI_le, qI_eq, qI_L, qI_ix, qL_lt, qL_eq, q_nat, q_cs, ← Int32.ofInt_add, ← Int32.ofInt_sub, ← Int32.ofInt_mul, ← Int32.ofInt_neg, ← Int64.ofInt_add, ← Int64.ofInt_sub, ← Int64.ofInt_mul, ← Int64.ofInt_neg, pL_I, q_mx, q_mn, q_ab, q_abL, q_mnL, q_nn0, q_nn1, q_rr, q_b1, q_b0, q_T, q_F, q_iT, q_iF, q_d, q_in, q_wi, q_hC, q_hM, pT_i, pU_i, pS_i, pS_j, pS_0, Sum.elim_inl, Sum.elim_inr, if_pos, if_neg]
  · intro i hi
    obtain ⟨pl, pb, o2⟩ := hw i hi
    have cs := pm_cosine (σ := σ) pb.1 pb.2
    simp (disch := omega) only [f_X12_heightOf_14, q1, pl, o2, cs, Option.bind_some, qi, ql, qI_lt, qI_le, qI_eq, qI_L, qI_ix, qL_lt, qL_eq, q_nat, q_cs, ← Int32.ofInt_add, ← Int32.ofInt_sub, ← Int32.ofInt_mul, ← Int32.ofInt_neg, ← Int64.ofInt_add, ← Int64.ofInt_sub, ← Int64.ofInt_mul, ← Int64.ofInt_neg, pL_I, q_mx, q_mn, q_ab, q_abL, q_mnL, q_nn0, q_nn1, q_rr, q_b1, q_b0, q_T, q_F, q_iT, q_iF, q_d, q_in, q_wi, q_hC, q_hM, pT_i, pU_i, pS_i, pS_j, pS_0, Sum.elim_inl, Sum.elim_inr, if_pos, if_neg]
    rfl
  · simp (disch := omega) only [f_X12_heightOf_14, q1, Option.bind_some, qi, ql, qI_lt, qI_le, qI_eq, qI_L, qI_ix, qL_lt, qL_eq, q_nat, q_cs, ← Int32.ofInt_add, ← Int32.ofInt_sub, ← Int32.ofInt_mul, ← Int32.ofInt_neg, ← Int64.ofInt_add, ← Int64.ofInt_sub, ← Int64.ofInt_mul, ← Int64.ofInt_neg, pL_I, q_mx, q_mn, q_ab, q_abL, q_mnL, q_nn0, q_nn1, q_rr, q_b1, q_b0, q_T, q_F, q_iT, q_iF, q_d, q_in, q_wi, q_hC, q_hM, pT_i, pU_i, pS_i, pS_j, pS_0, Sum.elim_inl, Sum.elim_inr, if_pos, if_neg]
/-- heights, one wave another -/
theorem pt_sum {ws : Nat → Nat → Int} {z h : Int} {b : Bool} {i n : Nat} {w : Nat → Int} (hi : i < n) : ph_sum (fun j => if j = i then w else ws j) z h b n = ph_sum ws z h b n + (w 2 * pc_cos (pw_place w h b) - ws i 2 * pc_cos (pw_place (ws i) h b)) := by
  have lt : ∀ n, n ≤ i → ph_sum (fun j => if j = i then w else ws j) z h b n = ph_sum ws z h b n := by
    intro n hn
    induction n with
    | zero => rfl
    | succ n ih =>
      show ph_sum (fun j => if j = i then w else ws j) z h b n + (if n = i then w else ws n) 2 * pc_cos (pw_place (if n = i then w else ws n) h b) = ph_sum ws z h b n + ws n 2 * pc_cos (pw_place (ws n) h b)
      rw [ih (by omega), if_neg (by omega)]
  induction n with
  | zero => omega
  | succ n ih =>
    show ph_sum (fun j => if j = i then w else ws j) z h b n + (if n = i then w else ws n) 2 * pc_cos (pw_place (if n = i then w else ws n) h b) = ph_sum ws z h b n + ws n 2 * pc_cos (pw_place (ws n) h b) + _
    by_cases c : n = i
    · subst c
      rw [if_pos rfl, lt n (by omega)]
      omega
    · rw [if_neg c, ih (by omega)]
      omega
