/-! ===== TRADED ===== -/
theorem ps_upd {f : Nat → Int} {x n : Nat} {A : Int} (hx : x < n) : ps_sum (fun i => if i = x then A else f i) n = ps_sum f n + (A - f x) := by
  have lt : ∀ n, n ≤ x → ps_sum (fun i => if i = x then A else f i) n = ps_sum f n := fun n hn => ps_congr (fun j hj => if_neg (by omega))
  induction n with
  | zero => omega
  | succ n ih =>
    show ps_sum (fun i => if i = x then A else f i) n + (if n = x then A else f n) = ps_sum f n + f n + (A - f x)
    by_cases c : n = x
    · subst c
      rw [if_pos rfl, lt n (by omega)]
      omega
    · rw [if_neg c, ih (by omega)]
      omega
/-- thousandths of a PLACE that a TRAIN is OFF -/
def px_T (h : Int) (w : Nat → Int) : Int := if 0 < w 4 then (pw_off w (w 5 * w 7) (w 6 * w 8) * h * 1000).tdiv (w 6 * w 8 * w 1) else 0
theorem px_b {w : Nat → Int} (ok : pw_ok w) {h : Int} (h0 : 0 ≤ h) (h1 : h ≤ 99999) : (1 ≤ w 6 * w 8 * w 1 ∧ w 6 * w 8 * w 1 ≤ 399960000) ∧ (0 ≤ pw_off w (w 5 * w 7) (w 6 * w 8) ∧ pw_off w (w 5 * w 7) (w 6 * w 8) ≤ 9599040000) ∧ (0 ≤ pw_off w (w 5 * w 7) (w 6 * w 8) * h ∧ pw_off w (w 5 * w 7) (w 6 * w 8) * h ≤ 959894400960000) ∧ (0 ≤ px_T h w ∧ px_T h w ≤ 24000000000000) := by
  have ug := pw_ug_b ok (h := 0) (by omega) (by omega)
  obtain ⟨⟨a1, a2⟩, ⟨b1, b2⟩, -⟩ := ug
  obtain ⟨⟨p1, p2⟩, ⟨q1, q2⟩, -⟩ := ok
  unfold px_T
  generalize w 5 * w 7 = A at *
  generalize w 6 * w 8 = B at *
  have e1 : 1 * 1 ≤ B * w 1 := Int.mul_le_mul b1 q1 (by omega) (by omega)
  have e2 : B * w 1 ≤ 40000 * 9999 := Int.mul_le_mul b2 q2 (by omega) (by omega)
  have e3 : 24 * w 0 * B ≤ 239976 * B := Int.mul_le_mul_of_nonneg_right (by omega) (by omega)
  have e3' : 0 ≤ 24 * w 0 * B := Int.mul_nonneg (by omega) (by omega)
  have e4 : B * 1 ≤ B * w 1 := Int.mul_le_mul_of_nonneg_left q1 (by omega)
  have e5 : A * w 1 ≤ 40000 * w 1 := Int.mul_le_mul_of_nonneg_right a2 (by omega)
  have e5' : 0 ≤ A * w 1 := Int.mul_nonneg (by omega) (by omega)
  have e6 : 1 * w 1 ≤ B * w 1 := Int.mul_le_mul_of_nonneg_right b1 (by omega)
  have o1 : 0 ≤ pw_off w A B := by unfold pw_off; omega
  have o2 : pw_off w A B ≤ 9599040000 := by unfold pw_off; omega
  have o3 : pw_off w A B ≤ 239976 * (B * w 1) := by unfold pw_off; omega
  have e7 : 0 ≤ pw_off w A B * h := Int.mul_nonneg o1 h0
  have e8 : pw_off w A B * h ≤ 9599040000 * 99999 := Int.mul_le_mul o2 h1 h0 (by omega)
  refine ⟨by omega, ⟨o1, o2⟩, by omega, ?_⟩
  split
  · rw [Int.tdiv_eq_ediv_of_nonneg (by omega)]
    refine ⟨Int.ediv_nonneg (by omega) (by omega), ?_⟩
    have e9 : pw_off w A B * h ≤ 239976 * (B * w 1) * 99999 := Int.mul_le_mul o3 h1 h0 (by omega)
    have e10 : pw_off w A B * h * 1000 / (B * w 1) ≤ 24000000000000 ↔ pw_off w A B * h * 1000 / (B * w 1) < 24000000000000 + 1 := by omega
    rw [e10, Int.ediv_lt_iff_lt_mul (by omega)]
    omega
  · omega
theorem px_thC {σ : am_H} {r : Nat} {w : Nat → Int} (ok0 : pw_ok w) (C : pw_C σ r w) {u : Nat → Int} (ok : pw_ok u) (e0 : u 0 = w 0) (e1 : u 1 = w 1) (e4 : 0 < u 4) {h : Int} (h0 : 0 ≤ h) (h1 : h ≤ 99999) : f_X10_offThousandths r (Int64.ofInt (u 5 * u 7)) (Int64.ofInt (u 6 * u 8)) (Int32.ofInt h) σ = some (Int64.ofInt (px_T h u)) := by
  have b := px_b ok h0 h1
  have ug := pw_ug_b ok (h := 0) (by omega) (by omega)
  have t := pw_offTop ok0 C (a := u 5 * u 7) (b := u 6 * u 8) (h := h) (by omega) (by omega) (by omega) (by omega) h0 h1
  have d := pw_offBottom ok0 C (b := u 6 * u 8)
  have eo : pw_off w (u 5 * u 7) (u 6 * u 8) = pw_off u (u 5 * u 7) (u 6 * u 8) := by
    unfold pw_off
    rw [e0, e1]
  rw [eo] at t
  rw [← e1] at d
  unfold px_T
  rw [if_pos e4]
  simp (disch := omega) only [f_X10_offThousandths, d, t, qL_div, Option.bind_some, qi, ql, qI_lt, qI_le, qI_eq, qI_L, qI_ix, qL_lt, qL_eq, q_nat, q_cs, ← Int32.ofInt_add, ← Int32.ofInt_sub, ← Int32.ofInt_mul, ← Int32.ofInt_neg, ← Int64.ofInt_add, ← Int64.ofInt_sub, ← Int64.ofInt_mul, ← Int64.ofInt_neg, pL_I, q_mx, q_mn, q_ab, q_abL, q_mnL, q_nn0, q_nn1, q_rr, q_b1, q_b0, q_T, q_F, q_iT, q_iF, q_d, q_in, q_wi, q_hC, q_hM, pT_i, pU_i, pS_i, pS_j, pS_0, Sum.elim_inl, Sum.elim_inr, if_pos, if_neg]
theorem px_now {σ : am_H} {r : Nat} {w : Nat → Int} (ok : pw_ok w) (C : pw_C σ r w) {h : Int} (h0 : 0 ≤ h) (h1 : h ≤ 99999) (e6 : σ.1 6 0 0 = Int32.ofInt h) : f_X6_offNow r σ = some (Int64.ofInt (px_T h w)) := by
  have ht := pw_hasTrain ok C
  have q7 : σ.2.1 10 r 7 = Int64.ofInt (w 5 * w 7) := C.2.2.2.2.2.2.1
  have q8 : σ.2.1 10 r 8 = Int64.ofInt (w 6 * w 8) := C.2.2.2.2.2.2.2
  by_cases c : 0 < w 4
  · have t := px_thC ok C ok rfl rfl c h0 h1
    simp (disch := omega) only [f_X6_offNow, ht, q7, q8, e6, t, Option.bind_some, qi, ql, qI_lt, qI_le, qI_eq, qI_L, qI_ix, qL_lt, qL_eq, q_nat, q_cs, ← Int32.ofInt_add, ← Int32.ofInt_sub, ← Int32.ofInt_mul, ← Int32.ofInt_neg, ← Int64.ofInt_add, ← Int64.ofInt_sub, ← Int64.ofInt_mul, ← Int64.ofInt_neg, pL_I, q_mx, q_mn, q_ab, q_abL, q_mnL, q_nn0, q_nn1, q_rr, q_b1, q_b0, q_T, q_F, q_iT, q_iF, q_d, q_in, q_wi, q_hC, q_hM, pT_i, pU_i, pS_i, pS_j, pS_0, Sum.elim_inl, Sum.elim_inr, if_pos, if_neg]
  · unfold px_T
    rw [if_neg c]
    simp (disch := omega) only [f_X6_offNow, ht, Option.bind_some, qi, ql, qI_lt, qI_le, qI_eq, qI_L, qI_ix, qL_lt, qL_eq, q_nat, q_cs, ← Int32.ofInt_add, ← Int32.ofInt_sub, ← Int32.ofInt_mul, ← Int32.ofInt_neg, ← Int64.ofInt_add, ← Int64.ofInt_sub, ← Int64.ofInt_mul, ← Int64.ofInt_neg, pL_I, q_mx, q_mn, q_ab, q_abL, q_mnL, q_nn0, q_nn1, q_rr, q_b1, q_b0, q_T, q_F, q_iT, q_iF, q_d, q_in, q_wi, q_hC, q_hM, pT_i, pU_i, pS_i, pS_j, pS_0, Sum.elim_inl, Sum.elim_inr, if_pos, if_neg]
theorem px_okw {w : Nat → Int} (ok : pw_ok w) {k : Nat} {t : Int} (t1 : 1 ≤ t) (t2 : t ≤ 200) : pw_ok (pt_w w k t) := by
  obtain ⟨a, b, c, d, e, ⟨a1, a2⟩, ⟨b1, b2⟩, ⟨c1, c2⟩, ⟨d1, d2⟩⟩ := ok
  refine ⟨by rw [pt_w_s (by omega)]; exact a, by rw [pt_w_s (by omega)]; exact b, by rw [pt_w_s (by omega)]; exact c, by rw [pt_w_s (by omega)]; exact d, by rw [pt_w_s (by omega)]; exact e, ?_, ?_, ?_, ?_⟩ <;> (unfold pt_w; split <;> omega)
theorem px_with {σ : am_H} {r k : Nat} {w : Nat → Int} (ok : pw_ok w) (C : pw_C σ r w) {h t : Int} (h0 : 0 ≤ h) (h1 : h ≤ 99999) (e6 : σ.1 6 0 0 = Int32.ofInt h) (hk : k < 4) (c4 : 0 < w 4) (t1 : 1 ≤ t) (t2 : t ≤ 200) : f_X6_offWith r (Int32.ofInt k) (Int32.ofInt t) σ = some (Int64.ofInt (px_T h (pt_w w k t))) := by
  obtain ⟨d1, d2⟩ := pt_dr ok C hk t1 (by omega)
  have th := px_thC ok C (px_okw ok (k := k) t1 t2) (pt_w_s (by omega)) (pt_w_s (by omega)) (by rw [pt_w_s (by omega)]; exact c4) h0 h1
  simp (disch := omega) only [f_X6_offWith, d1, d2, e6, th, Option.bind_some, qi, ql, qI_lt, qI_le, qI_eq, qI_L, qI_ix, qL_lt, qL_eq, q_nat, q_cs, ← Int32.ofInt_add, ← Int32.ofInt_sub, ← Int32.ofInt_mul, ← Int32.ofInt_neg, ← Int64.ofInt_add, ← Int64.ofInt_sub, ← Int64.ofInt_mul, ← Int64.ofInt_neg, pL_I, q_mx, q_mn, q_ab, q_abL, q_mnL, q_nn0, q_nn1, q_rr, q_b1, q_b0, q_T, q_F, q_iT, q_iF, q_d, q_in, q_wi, q_hC, q_hM, pT_i, pU_i, pS_i, pS_j, pS_0, Sum.elim_inl, Sum.elim_inr, if_pos, if_neg]
theorem px_sumC {σ : am_H} {a wc : Nat} {ws : Nat → Nat → Int} {zr h : Int} (C : ph_C σ a wc ws zr) (h0 : 0 ≤ h) (h1 : h ≤ 99999) (e6 : σ.1 6 0 0 = Int32.ofInt h) : f_X6_sumOff a σ = some (Int64.ofInt (ps_sum (fun i => px_T h (ws i)) wc)) := by
  obtain ⟨c1, c2, c3, c4, c5⟩ := C
  have lp := am_loop_n (body := fun s : Int64 × Int32 => f_X6_sumOff_5 a s.1 s.2 σ) (fun i => (Int64.ofInt (ps_sum (fun i => px_T h (ws i)) i), Int32.ofInt i)) wc (r := Int64.ofInt (ps_sum (fun i => px_T h (ws i)) wc)) ?_ ?_
  · have lp' : am_loop (fun s : Int64 × Int32 => f_X6_sumOff_5 a s.1 s.2 σ) (Int64.ofInt 0, Int32.ofInt 0) = _ := lp
    simp (disch := omega) only [f_X6_sumOff, lp', Option.bind_some, qi, ql, qI_lt, qI_le, qI_eq, qI_L, qI_ix, qL_lt, qL_eq, q_nat, q_cs, ← Int32.ofInt_add, ← Int32.ofInt_sub, ← Int32.ofInt_mul, ← Int32.ofInt_neg, ← Int64.ofInt_add, ← Int64.ofInt_sub, ← Int64.ofInt_mul, ← Int64.ofInt_neg, pL_I, q_mx, q_mn, q_ab, q_abL, q_mnL, q_nn0, q_nn1, q_rr, q_b1, q_b0, q_T, q_F, q_iT, q_iF, q_d, q_in, q_wi, q_hC, q_hM, pT_i, pU_i, pS_i, pS_j, pS_0, Sum.elim_inl, Sum.elim_inr, if_pos, if_neg]
  · intro i hi
    have n := px_now (c5 i hi).1 (c5 i hi).2 h0 h1 e6
    simp (disch := omega) only [f_X6_sumOff_5, c2, n, Option.bind_some, qi, ql, qI_lt, qI_le, qI_eq, qI_L, qI_ix, qL_lt, qL_eq, q_nat, q_cs, ← Int32.ofInt_add, ← Int32.ofInt_sub, ← Int32.ofInt_mul, ← Int32.ofInt_neg, ← Int64.ofInt_add, ← Int64.ofInt_sub, ← Int64.ofInt_mul, ← Int64.ofInt_neg, pL_I, q_mx, q_mn, q_ab, q_abL, q_mnL, q_nn0, q_nn1, q_rr, q_b1, q_b0, q_T, q_F, q_iT, q_iF, q_d, q_in, q_wi, q_hC, q_hM, pT_i, pU_i, pS_i, pS_j, pS_0, Sum.elim_inl, Sum.elim_inr, if_pos, if_neg]
    rfl
  · simp (disch := omega) only [f_X6_sumOff_5, c2, Option.bind_some, qi, ql, qI_lt, qI_le, qI_eq, qI_L, qI_ix, qL_lt, qL_eq, q_nat, q_cs, ← Int32.ofInt_add, ← Int32.ofInt_sub, ← Int32.ofInt_mul, ← Int32.ofInt_neg, ← Int64.ofInt_add, ← Int64.ofInt_sub, ← Int64.ofInt_mul, ← Int64.ofInt_neg, pL_I, q_mx, q_mn, q_ab, q_abL, q_mnL, q_nn0, q_nn1, q_rr, q_b1, q_b0, q_T, q_F, q_iT, q_iF, q_d, q_in, q_wi, q_hC, q_hM, pT_i, pU_i, pS_i, pS_j, pS_0, Sum.elim_inl, Sum.elim_inr, if_pos, if_neg]
theorem px_sumM {σ : am_H} {m wc : Nat} {ws : Nat → Nat → Int} {z h s : Int} (hm : m < 2) (M : ph_M σ m wc ws z) (h0 : 0 ≤ h) (h1 : h ≤ 99999) : am_loop (fun t : Int64 × Int32 => f_X12_allOff_14 (Int32.ofInt h) t.1 (Int32.ofInt m) t.2 σ) (Int64.ofInt s, Int32.ofInt 0) = some (Int64.ofInt (s + ps_sum (fun i => px_T h (ws i)) wc)) := by
  obtain ⟨d1, d2, d3, d4, d5⟩ := M
  have lp := am_loop_n (body := fun t : Int64 × Int32 => f_X12_allOff_14 (Int32.ofInt h) t.1 (Int32.ofInt m) t.2 σ) (fun i => (Int64.ofInt (s + ps_sum (fun i => px_T h (ws i)) i), Int32.ofInt i)) wc (r := Int64.ofInt (s + ps_sum (fun i => px_T h (ws i)) wc)) ?_ ?_
  · have e : s + ps_sum (fun i => px_T h (ws i)) 0 = s := Int.add_zero s
    rw [e] at lp
    exact lp
  · intro i hi
    obtain ⟨ok, Mw⟩ := d5 i hi
    have ht := pm_hasTrain ok Mw (by omega) (by omega)
    have b := px_b ok h0 h1
    have ug := pw_ug_b ok (h := 0) (by omega) (by omega)
    obtain ⟨o0, o1, o2, o3, o4, o5, o6, o7, o8⟩ := pm_o Mw (by omega) (by omega)
    have fo := pm_offOf ok Mw (by omega) (by omega) (a := ws i 5 * ws i 7) (b := ws i 6 * ws i 8) (by omega) (by omega) (by omega) (by omega)
    show _ = some (Sum.inl (Int64.ofInt (s + (ps_sum (fun i => px_T h (ws i)) i + px_T h (ws i))), Int32.ofInt ((i + 1 : Nat) : Int)))
    rw [← Int.add_assoc]
    by_cases c : 0 < ws i 4
    · have eT : px_T h (ws i) = (pw_off (ws i) (ws i 5 * ws i 7) (ws i 6 * ws i 8) * h * 1000).tdiv (ws i 6 * ws i 8 * ws i 1) := if_pos c
      rw [eT]
      obtain ⟨⟨a01, a02⟩, ⟨a11, a12⟩, -, -, -, ⟨a51, a52⟩, ⟨a61, a62⟩, ⟨a71, a72⟩, ⟨a81, a82⟩⟩ := ok
      simp (disch := omega) only [f_X12_allOff_14, d2, ht, o1, o5, o6, o7, o8, fo, qL_div, Option.bind_some, qi, ql, qI_lt, qI_le, qI_eq, qI_L, qI_ix, qL_lt, qL_eq, q_nat, q_cs, ← Int32.ofInt_add, ← Int32.ofInt_sub, ← Int32.ofInt_mul, ← Int32.ofInt_neg, ← Int64.ofInt_add, ← Int64.ofInt_sub, ← Int64.ofInt_mul, ← Int64.ofInt_neg, pL_I, q_mx, q_mn, q_ab, q_abL, q_mnL, q_nn0, q_nn1, q_rr, q_b1, q_b0, q_T, q_F, q_iT, q_iF, q_d, q_in, q_wi, q_hC, q_hM, pT_i, pU_i, pS_i, pS_j, pS_0, Sum.elim_inl, Sum.elim_inr, if_pos, if_neg]
    · have eT : px_T h (ws i) = 0 := if_neg c
      rw [eT, Int.add_zero]
      simp (disch := omega) only [f_X12_allOff_14, d2, ht, Option.bind_some, qi, ql, qI_lt, qI_le, qI_eq, qI_L, qI_ix, qL_lt, qL_eq, q_nat, q_cs, ← Int32.ofInt_add, ← Int32.ofInt_sub, ← Int32.ofInt_mul, ← Int32.ofInt_neg, ← Int64.ofInt_add, ← Int64.ofInt_sub, ← Int64.ofInt_mul, ← Int64.ofInt_neg, pL_I, q_mx, q_mn, q_ab, q_abL, q_mnL, q_nn0, q_nn1, q_rr, q_b1, q_b0, q_T, q_F, q_iT, q_iF, q_d, q_in, q_wi, q_hC, q_hM, pT_i, pU_i, pS_i, pS_j, pS_0, Sum.elim_inl, Sum.elim_inr, if_pos, if_neg]
  · simp (disch := omega) only [f_X12_allOff_14, d2, Option.bind_some, qi, ql, qI_lt, qI_le, qI_eq, qI_L, qI_ix, qL_lt, qL_eq, q_nat, q_cs, ← Int32.ofInt_add, ← Int32.ofInt_sub, ← Int32.ofInt_mul, ← Int32.ofInt_neg, ← Int64.ofInt_add, ← Int64.ofInt_sub, ← Int64.ofInt_mul, ← Int64.ofInt_neg, pL_I, q_mx, q_mn, q_ab, q_abL, q_mnL, q_nn0, q_nn1, q_rr, q_b1, q_b0, q_T, q_F, q_iT, q_iF, q_d, q_in, q_wi, q_hC, q_hM, pT_i, pU_i, pS_i, pS_j, pS_0, Sum.elim_inl, Sum.elim_inr, if_pos, if_neg]
theorem px_all {σ : am_H} {wc0 wc1 : Nat} {ws0 ws1 : Nat → Nat → Int} {z0 z1 h : Int} (M0 : ph_M σ 0 wc0 ws0 z0) (M1 : ph_M σ 1 wc1 ws1 z1) (h0 : 0 ≤ h) (h1 : h ≤ 99999) : f_X12_allOff (Int32.ofInt h) σ = some (Int64.ofInt (ps_sum (fun i => px_T h (ws0 i)) wc0 + ps_sum (fun i => px_T h (ws1 i)) wc1)) := by
  have s0 := px_sumM (s := 0) (by omega) M0 h0 h1
  have s1 := px_sumM (s := 0 + ps_sum (fun i => px_T h (ws0 i)) wc0) (by omega) M1 h0 h1
  have s0' : am_loop (fun t : Int64 × Int32 => f_X12_allOff_14 (Int32.ofInt h) t.1 (Int32.ofInt 0) t.2 σ) (Int64.ofInt 0, Int32.ofInt 0) = _ := s0
  have s1' : am_loop (fun t : Int64 × Int32 => f_X12_allOff_14 (Int32.ofInt h) t.1 (Int32.ofInt 1) t.2 σ) (Int64.ofInt (0 + ps_sum (fun i => px_T h (ws0 i)) wc0), Int32.ofInt 0) = _ := s1
  have lp : am_loop (fun s : Int64 × Int32 => f_X12_allOff_5 (Int32.ofInt h) s.1 s.2 σ) (Int64.ofInt 0, Int32.ofInt 0) = some (Int64.ofInt (0 + ps_sum (fun i => px_T h (ws0 i)) wc0 + ps_sum (fun i => px_T h (ws1 i)) wc1)) := by
    refine (am_loop_in (s' := (Int64.ofInt (0 + ps_sum (fun i => px_T h (ws0 i)) wc0), Int32.ofInt 1)) ?_).trans ((am_loop_in (s' := (Int64.ofInt (0 + ps_sum (fun i => px_T h (ws0 i)) wc0 + ps_sum (fun i => px_T h (ws1 i)) wc1), Int32.ofInt 2)) ?_).trans (am_loop_out ?_))
    · simp (disch := omega) only [f_X12_allOff_5, s0', Option.bind_some, qi, ql, qI_lt, qI_le, qI_eq, qI_L, qI_ix, qL_lt, qL_eq, q_nat, q_cs, ← Int32.ofInt_add, ← Int32.ofInt_sub, ← Int32.ofInt_mul, ← Int32.ofInt_neg, ← Int64.ofInt_add, ← Int64.ofInt_sub, ← Int64.ofInt_mul, ← Int64.ofInt_neg, pL_I, q_mx, q_mn, q_ab, q_abL, q_mnL, q_nn0, q_nn1, q_rr, q_b1, q_b0, q_T, q_F, q_iT, q_iF, q_d, q_in, q_wi, q_hC, q_hM, pT_i, pU_i, pS_i, pS_j, pS_0, Sum.elim_inl, Sum.elim_inr, if_pos, if_neg]
      try rfl
    · simp (disch := omega) only [f_X12_allOff_5, s1', Option.bind_some, qi, ql, qI_lt, qI_le, qI_eq, qI_L, qI_ix, qL_lt, qL_eq, q_nat, q_cs, ← Int32.ofInt_add, ← Int32.ofInt_sub, ← Int32.ofInt_mul, ← Int32.ofInt_neg, ← Int64.ofInt_add, ← Int64.ofInt_sub, ← Int64.ofInt_mul, ← Int64.ofInt_neg, pL_I, q_mx, q_mn, q_ab, q_abL, q_mnL, q_nn0, q_nn1, q_rr, q_b1, q_b0, q_T, q_F, q_iT, q_iF, q_d, q_in, q_wi, q_hC, q_hM, pT_i, pU_i, pS_i, pS_j, pS_0, Sum.elim_inl, Sum.elim_inr, if_pos, if_neg]
      try rfl
    · simp (disch := omega) only [f_X12_allOff_5, Option.bind_some, qi, ql, qI_lt, qI_le, qI_eq, qI_L, qI_ix, qL_lt, qL_eq, q_nat, q_cs, ← Int32.ofInt_add, ← Int32.ofInt_sub, ← Int32.ofInt_mul, ← Int32.ofInt_neg, ← Int64.ofInt_add, ← Int64.ofInt_sub, ← Int64.ofInt_mul, ← Int64.ofInt_neg, pL_I, q_mx, q_mn, q_ab, q_abL, q_mnL, q_nn0, q_nn1, q_rr, q_b1, q_b0, q_T, q_F, q_iT, q_iF, q_d, q_in, q_wi, q_hC, q_hM, pT_i, pU_i, pS_i, pS_j, pS_0, Sum.elim_inl, Sum.elim_inr, if_pos, if_neg]
  rw [Int.zero_add] at lp
  simp (disch := omega) only [f_X12_allOff, lp, Option.bind_some, qi, ql, qI_lt, qI_le, qI_eq, qI_L, qI_ix, qL_lt, qL_eq, q_nat, q_cs, ← Int32.ofInt_add, ← Int32.ofInt_sub, ← Int32.ofInt_mul, ← Int32.ofInt_neg, ← Int64.ofInt_add, ← Int64.ofInt_sub, ← Int64.ofInt_mul, ← Int64.ofInt_neg, pL_I, q_mx, q_mn, q_ab, q_abL, q_mnL, q_nn0, q_nn1, q_rr, q_b1, q_b0, q_T, q_F, q_iT, q_iF, q_d, q_in, q_wi, q_hC, q_hM, pT_i, pU_i, pS_i, pS_j, pS_0, Sum.elim_inl, Sum.elim_inr, if_pos, if_neg]
/-- an exchange of the reference -/
def px_X (σ : am_H) (i k j l : Nat) (x y : Int) : am_H := am_wI (am_wI σ 1324 0 (54 * 0 + 9 * i + (5 + k)) (Int32.ofInt y)) 1324 0 (54 * 1 + 9 * j + (5 + l)) (Int32.ofInt x)
theorem px_ex {σ : am_H} {wc0 wc1 i k j l : Nat} {ws0 ws1 : Nat → Nat → Int} {z0 z1 : Int} (M0 : ph_M σ 0 wc0 ws0 z0) (M1 : ph_M σ 1 wc1 ws1 z1) (hi : i < wc0) (hk : k < 4) (hj : j < wc1) (hl : l < 4) : f_X12_exchange (Int32.ofInt i) (Int32.ofInt k) (Int32.ofInt j) (Int32.ofInt l) σ = some (px_X σ i k j l (ws0 i (5 + k)) (ws1 j (5 + l))) := by
  have w0 := M0.1
  have w1 := M1.1
  have o1 := pm_of (k := 5 + k) (M0.2.2.2.2 i hi).2 (by omega) (by omega) (by omega)
  have o2 := pm_of (k := 5 + l) (M1.2.2.2.2 j hj).2 (by omega) (by omega) (by omega)
  have o1' : f_X12_of (Int32.ofInt 0) (Int32.ofInt i) (Int32.ofInt (5 + (k : Int))) σ = some (Int32.ofInt (ws0 i (5 + k))) := o1
  have o2' : f_X12_of (Int32.ofInt 1) (Int32.ofInt j) (Int32.ofInt (5 + (l : Int))) σ = some (Int32.ofInt (ws1 j (5 + l))) := o2
  have x1 : (54 * (0 : Int) + 9 * i + (5 + (k : Int))).toNat = 54 * 0 + 9 * i + (5 + k) := by omega
  have x2 : (54 * (1 : Int) + 9 * j + (5 + (l : Int))).toNat = 54 * 1 + 9 * j + (5 + l) := by omega
  simp (disch := omega) only [f_X12_exchange, f_X12_cell, o1', o2', x1, x2, Option.bind_some, qi, ql, qI_lt, qI_le, qI_eq, qI_L, qI_ix, qL_lt, qL_eq, q_nat, q_cs, ← Int32.ofInt_add, ← Int32.ofInt_sub, ← Int32.ofInt_mul, ← Int32.ofInt_neg, ← Int64.ofInt_add, ← Int64.ofInt_sub, ← Int64.ofInt_mul, ← Int64.ofInt_neg, pL_I, q_mx, q_mn, q_ab, q_abL, q_mnL, q_nn0, q_nn1, q_rr, q_b1, q_b0, q_T, q_F, q_iT, q_iF, q_d, q_in, q_wi, q_hC, q_hM, pT_i, pU_i, pS_i, pS_j, pS_0, Sum.elim_inl, Sum.elim_inr, if_pos, if_neg]
  rfl
theorem px_exM {σ : am_H} {wc0 wc1 i k j l : Nat} {ws0 ws1 : Nat → Nat → Int} {z0 z1 x y : Int} (M0 : ph_M σ 0 wc0 ws0 z0) (M1 : ph_M σ 1 wc1 ws1 z1) (hi : i < wc0) (hk : k < 4) (hj : j < wc1) (hl : l < 4) (x1 : 1 ≤ x) (x2 : x ≤ 200) (y1 : 1 ≤ y) (y2 : y ≤ 200) : ph_M (px_X σ i k j l x y) 0 wc0 (fun q => if q = i then pt_w (ws0 i) k y else ws0 q) z0 ∧ ph_M (px_X σ i k j l x y) 1 wc1 (fun q => if q = j then pt_w (ws1 j) l x else ws1 q) z1 := by
  obtain ⟨a1, a2, a3, a4, a5⟩ := M0
  obtain ⟨b1, b2, b3, b4, b5⟩ := M1
  constructor
  · refine ⟨a1, a2, a3, a4, fun q hq => ?_⟩
    by_cases c : q = i
    · subst c
      simp only [if_true]
      exact ⟨px_okw (a5 q hq).1 y1 y2, pt_Mn (pt_M (a5 q hq).2 hk) hl (by omega) (by omega) (Or.inl (by omega))⟩
    · simp only [if_neg c]
      exact ⟨(a5 q hq).1, pt_Mn (pt_Mn (a5 q hq).2 hk (by omega) (by omega) (Or.inr c)) hl (by omega) (by omega) (Or.inl (by omega))⟩
  · refine ⟨b1, b2, b3, b4, fun q hq => ?_⟩
    by_cases c : q = j
    · subst c
      simp only [if_true]
      exact ⟨px_okw (b5 q hq).1 x1 x2, pt_M (pt_Mn (b5 q hq).2 hk (by omega) (by omega) (Or.inl (by omega))) hl⟩
    · simp only [if_neg c]
      exact ⟨(b5 q hq).1, pt_Mn (pt_Mn (b5 q hq).2 hk (by omega) (by omega) (Or.inl (by omega))) hl (by omega) (by omega) (Or.inr c)⟩
theorem px_back {σ : am_H} {i k j l : Nat} {x y : Int} (hi : i < 6) (hk : k < 4) (e1 : σ.1 1324 0 (54 * 0 + 9 * i + (5 + k)) = Int32.ofInt x) (e2 : σ.1 1324 0 (54 * 1 + 9 * j + (5 + l)) = Int32.ofInt y) : px_X (px_X σ i k j l x y) i k j l y x = σ := by
  unfold px_X am_wI am_u3
  refine Prod.ext (funext fun p => funext fun q => funext fun r => ?_) rfl
  show (if p = 1324 ∧ q = 0 ∧ r = 54 * 1 + 9 * j + (5 + l) then Int32.ofInt y else if p = 1324 ∧ q = 0 ∧ r = 54 * 0 + 9 * i + (5 + k) then Int32.ofInt x else if p = 1324 ∧ q = 0 ∧ r = 54 * 1 + 9 * j + (5 + l) then Int32.ofInt x else if p = 1324 ∧ q = 0 ∧ r = 54 * 0 + 9 * i + (5 + k) then Int32.ofInt y else σ.1 p q r) = σ.1 p q r
  by_cases c1 : p = 1324 ∧ q = 0 ∧ r = 54 * 1 + 9 * j + (5 + l)
  · rw [if_pos c1, c1.1, c1.2.1, c1.2.2, e2]
  · rw [if_neg c1]
    by_cases c2 : p = 1324 ∧ q = 0 ∧ r = 54 * 0 + 9 * i + (5 + k)
    · rw [if_pos c2, c2.1, c2.2.1, c2.2.2, e1]
    · rw [if_neg c2, if_neg c1, if_neg c2]
