/-! ===== a CLOCK SLIPPED, a ZERO MOVED ===== -/
def ps_sum (f : Nat → Int) : Nat → Int
  | 0 => 0
  | n + 1 => ps_sum f n + f n
theorem ps_congr {f g : Nat → Int} {n : Nat} (h : ∀ j, j < n → f j = g j) : ps_sum f n = ps_sum g n := by
  induction n with
  | zero => rfl
  | succ n ih =>
    show ps_sum f n + f n = ps_sum g n + g n
    rw [ih (fun j hj => h j (by omega)), h n (by omega)]
theorem ps_b {f : Nat → Int} {n : Nat} {B : Int} (h : ∀ j, j < n → 0 ≤ f j ∧ f j ≤ B) : 0 ≤ ps_sum f n ∧ ps_sum f n ≤ B * n := by
  induction n with
  | zero => show 0 ≤ (0 : Int) ∧ (0 : Int) ≤ B * ((0 : Nat) : Int); simp
  | succ n ih =>
    have ih := ih (fun j hj => h j (by omega))
    have h1 := h n (by omega)
    show 0 ≤ ps_sum f n + f n ∧ ps_sum f n + f n ≤ B * ((n + 1 : Nat) : Int)
    rw [show ((n + 1 : Nat) : Int) = (n : Int) + 1 by omega, Int.mul_add, Int.mul_one]
    omega
theorem ps_swap {f g : Nat → Int} {k n : Nat} (hk : k < n) : ps_sum (fun j => if j < k + 1 then f j else g j) n = ps_sum (fun j => if j < k then f j else g j) n + (f k - g k) := by
  induction n with
  | zero => omega
  | succ n ih =>
    show ps_sum (fun j => if j < k + 1 then f j else g j) n + (if n < k + 1 then f n else g n) = ps_sum (fun j => if j < k then f j else g j) n + (if n < k then f n else g n) + (f k - g k)
    by_cases c : k < n
    · rw [ih c, if_neg (by omega), if_neg (by omega)]
      omega
    · have : k = n := by omega
      subst this
      rw [if_pos (by omega), if_neg (by omega), ps_congr (f := fun j => if j < k + 1 then f j else g j) (g := fun j => if j < k then f j else g j) (fun j hj => by rw [if_pos (by omega), if_pos (by omega)])]
      omega
theorem ph_Cq {σ τ : am_H} {a wc : Nat} {ws : Nat → Nat → Int} {zr : Int} (h : qa (pr_fC 4) σ τ) (C : ph_C σ a wc ws zr) : ph_C τ a wc ws zr := by
  obtain ⟨c1, c2, c3, c4, c5⟩ := C
  refine ⟨c1, by rw [h.I (k := 3) (fun j => rfl)]; exact c2, by rw [h.I (k := 3) (fun j => rfl)]; exact c3, c4, fun i hi => ⟨(c5 i hi).1, ?_⟩⟩
  have := (c5 i hi).2
  unfold pw_C at this ⊢
  rw [h.I (k := 10) (fun j => rfl), h.L (k := 10) (fun j => rfl), h.I (k := 1106) (fun j => rfl)]
  exact this
theorem pg_Cq {σ τ : am_H} {r n : Nat} {hs rd : Nat → Int} (h : qa pg_l σ τ) (C : pg_C σ r n hs rd) : pg_C τ r n hs rd := by
  obtain ⟨c1, c2⟩ := C
  refine ⟨by rw [h.I (k := 1) (fun j => rfl)]; exact c1, ?_⟩
  rw [h.I (k := 201) (fun j => rfl), h.I (k := 202) (fun j => rfl)]
  exact c2
/-- by how much a reading differs, its HOUR s later, z more -/
def pd_e (Hf : Int → Int) (hs rd : Nat → Int) (s z : Int) (j : Nat) : Int := if rd j = 1000 then 0 else (((rd j - (Hf (max 0 (hs j + s))).tdiv 12 - z).natAbs : Nat) : Int)
theorem pd_t12 {x : Int} (h1 : -9000 ≤ x) (h2 : x ≤ 9000) : -9000 ≤ x.tdiv 12 ∧ x.tdiv 12 ≤ 9000 := by
  have := Int.natAbs_tdiv_le_natAbs x 12
  omega
theorem pd_eb {Hf : Int → Int} {hs rd : Nat → Int} {s z : Int} {j : Nat} (hH : -9000 ≤ Hf (max 0 (hs j + s)) ∧ Hf (max 0 (hs j + s)) ≤ 9000) (hr : -999 ≤ rd j ∧ rd j ≤ 1000) (hz : -50 ≤ z ∧ z ≤ 50) : 0 ≤ pd_e Hf hs rd s z j ∧ pd_e Hf hs rd s z j ≤ 11000 := by
  have := pd_t12 hH.1 hH.2
  unfold pd_e
  split <;> omega
theorem pd_miss {σ : am_H} {n j : Nat} {hs rd : Nat → Int} {x : Int} (C : pg_C σ 0 n hs rd) (hj : j < n) (hn : n ≤ 24) (hr : -999 ≤ rd j ∧ rd j ≤ 1000) (hx : -20000 ≤ x ∧ x ≤ 20000) : f_X1_missOf 0 (Int32.ofInt j) (Int32.ofInt x) σ = some (Int32.ofInt (if rd j = 1000 then 0 else (((rd j - x).natAbs : Nat) : Int))) := by
  have e := (C.2 j hj).2
  by_cases c : rd j = 1000
  · rw [if_pos c]
    simp (disch := omega) only [f_X1_missOf, f_X1_isGap, e, Option.bind_some, qi, ql, qI_lt, qI_le, qI_eq, qI_L, qI_ix, qL_lt, qL_eq, q_nat, q_cs, ← Int32.ofInt_add, ← Int32.ofInt_sub, ← Int32.ofInt_mul, ← Int32.ofInt_neg, ← Int64.ofInt_add, ← Int64.ofInt_sub, ← Int64.ofInt_mul, ← Int64.ofInt_neg, pL_I, q_mx, q_mn, q_ab, q_abL, q_mnL, q_nn0, q_nn1, q_rr, q_b1, q_b0, q_T, q_F, q_iT, q_iF, q_d, q_in, q_wi, q_hC, q_hM, pT_i, pU_i, pS_i, pS_j, pS_0, Sum.elim_inl, Sum.elim_inr, if_pos, if_neg]
  · rw [if_neg c]
    simp (disch := omega) only [f_X1_missOf, f_X1_isGap, e, Option.bind_some, qi, ql, qI_lt, qI_le, qI_eq, qI_L, qI_ix, qL_lt, qL_eq, q_nat, q_cs, ← Int32.ofInt_add, ← Int32.ofInt_sub, ← Int32.ofInt_mul, ← Int32.ofInt_neg, ← Int64.ofInt_add, ← Int64.ofInt_sub, ← Int64.ofInt_mul, ← Int64.ofInt_neg, pL_I, q_mx, q_mn, q_ab, q_abL, q_mnL, q_nn0, q_nn1, q_rr, q_b1, q_b0, q_T, q_F, q_iT, q_iF, q_d, q_in, q_wi, q_hC, q_hM, pT_i, pU_i, pS_i, pS_j, pS_0, Sum.elim_inl, Sum.elim_inr, if_pos, if_neg]
theorem pd_differs {σ : am_H} {m th tr n wc : Nat} {ws : Nat → Nat → Int} {zz : Int} {hs rd : Nat → Int} (hm : m < 3) (hth : th < 5) (htr : tr < 5) (hn : n ≤ 24) (M : ph_M σ m wc ws zz) (G : pg_M σ th tr n hs rd) {k : Nat} {s z : Int} (hk : k ≤ 24) (hs1 : -5 ≤ s ∧ s ≤ 5) (hz : -50 ≤ z ∧ z ≤ 50) : f_X12_differs (Int32.ofInt m) (Int32.ofInt th) (Int32.ofInt tr) (Int32.ofInt n) (Int32.ofInt k) (Int32.ofInt s) (Int32.ofInt z) σ = some (Int64.ofInt (ps_sum (fun j => if j < k then pd_e (fun h => ph_sum ws zz h false wc) hs rd 0 0 j else pd_e (fun h => ph_sum ws zz h false wc) hs rd s z j) n)) := by
  have hb : ∀ h, -9000 ≤ ph_sum ws zz h false wc ∧ ph_sum ws zz h false wc ≤ 9000 := fun h => by
    have := ph_b (ws := ws) (z := zz) (h := h) (b := false) (n := wc) M.2.2.2.1 (fun i hi => (M.2.2.2.2 i hi).1)
    have := M.1
    have := M.2.2.2.1
    omega
  have eb : ∀ j, j < n → 0 ≤ (if j < k then pd_e (fun h => ph_sum ws zz h false wc) hs rd 0 0 j else pd_e (fun h => ph_sum ws zz h false wc) hs rd s z j) ∧ (if j < k then pd_e (fun h => ph_sum ws zz h false wc) hs rd 0 0 j else pd_e (fun h => ph_sum ws zz h false wc) hs rd s z j) ≤ 11000 := fun j hj => by
    have hr := (G j hj).2.2.2
    have b1 := pd_eb (Hf := fun h => ph_sum ws zz h false wc) (hs := hs) (rd := rd) (s := 0) (z := 0) (j := j) (hb _) hr (by omega)
    have b2 := pd_eb (Hf := fun h => ph_sum ws zz h false wc) (hs := hs) (rd := rd) (s := s) (z := z) (j := j) (hb _) hr hz
    split
    · exact b1
    · exact b2
  have lp := am_loop_n (body := fun t : Int64 × Int32 => f_X12_differs_6 (Int32.ofInt m) (Int32.ofInt th) (Int32.ofInt tr) (Int32.ofInt n) (Int32.ofInt k) (Int32.ofInt s) (Int32.ofInt z) t.1 t.2 σ) (fun i => (Int64.ofInt (ps_sum (fun j => if j < k then pd_e (fun h => ph_sum ws zz h false wc) hs rd 0 0 j else pd_e (fun h => ph_sum ws zz h false wc) hs rd s z j) i), Int32.ofInt i)) n (r := Int64.ofInt (ps_sum (fun j => if j < k then pd_e (fun h => ph_sum ws zz h false wc) hs rd 0 0 j else pd_e (fun h => ph_sum ws zz h false wc) hs rd s z j) n)) ?_ ?_
  · have lp' : am_loop (fun t : Int64 × Int32 => f_X12_differs_6 (Int32.ofInt m) (Int32.ofInt th) (Int32.ofInt tr) (Int32.ofInt n) (Int32.ofInt k) (Int32.ofInt s) (Int32.ofInt z) t.1 t.2 σ) (Int64.ofInt 0, Int32.ofInt 0) = _ := lp
    simp (disch := omega) only [f_X12_differs, lp', Option.bind_some, qi, ql, qI_lt, qI_le, qI_eq, qI_L, qI_ix, qL_lt, qL_eq, q_nat, q_cs, ← Int32.ofInt_add, ← Int32.ofInt_sub, ← Int32.ofInt_mul, ← Int32.ofInt_neg, ← Int64.ofInt_add, ← Int64.ofInt_sub, ← Int64.ofInt_mul, ← Int64.ofInt_neg, pL_I, q_mx, q_mn, q_ab, q_abL, q_mnL, q_nn0, q_nn1, q_rr, q_b1, q_b0, q_T, q_F, q_iT, q_iF, q_d, q_in, q_wi, q_hC, q_hM, pT_i, pU_i, pS_i, pS_j, pS_0, Sum.elim_inl, Sum.elim_inr, if_pos, if_neg]
  · intro i hi
    obtain ⟨g1, g2, g3, g4⟩ := G i hi
    have n1 := pg_num hth (by omega : i < 60) g1
    have n2 := pg_num htr (by omega : i < 60) g2
    have sb := ps_b (n := i) (fun j hj => eb j (by omega))
    show f_X12_differs_6 _ _ _ _ _ _ _ (Int64.ofInt (ps_sum _ i)) (Int32.ofInt i) σ = some (.inl (Int64.ofInt (ps_sum _ i + (if i < k then pd_e (fun h => ph_sum ws zz h false wc) hs rd 0 0 i else pd_e (fun h => ph_sum ws zz h false wc) hs rd s z i)), Int32.ofInt ((i + 1 : Nat) : Int)))
    generalize ps_sum (fun j => if j < k then pd_e (fun h => ph_sum ws zz h false wc) hs rd 0 0 j else pd_e (fun h => ph_sum ws zz h false wc) hs rd s z j) i = A at sb ⊢
    by_cases cg : rd i = 1000
    · have e0 : (if i < k then pd_e (fun h => ph_sum ws zz h false wc) hs rd 0 0 i else pd_e (fun h => ph_sum ws zz h false wc) hs rd s z i) = 0 := by
        unfold pd_e
        rw [if_pos cg, if_pos cg]
        split <;> rfl
      rw [e0]
      simp (disch := omega) only [f_X12_differs_6, n2, Int.add_zero, Option.bind_some, qi, ql, qI_lt, qI_le, qI_eq, qI_L, qI_ix, qL_lt, qL_eq, q_nat, q_cs, ← Int32.ofInt_add, ← Int32.ofInt_sub, ← Int32.ofInt_mul, ← Int32.ofInt_neg, ← Int64.ofInt_add, ← Int64.ofInt_sub, ← Int64.ofInt_mul, ← Int64.ofInt_neg, pL_I, q_mx, q_mn, q_ab, q_abL, q_mnL, q_nn0, q_nn1, q_rr, q_b1, q_b0, q_T, q_F, q_iT, q_iF, q_d, q_in, q_wi, q_hC, q_hM, pT_i, pU_i, pS_i, pS_j, pS_0, Sum.elim_inl, Sum.elim_inr, if_pos, if_neg]
    · by_cases ck : i < k
      · rw [if_pos ck]
        unfold pd_e
        rw [if_neg cg]
        have hh := ph_heightOf (b := false) M hm (h := max 0 (hs i + 0)) (by omega) (by omega)
        have hb1 := hb (max 0 (hs i + 0))
        have hb2 := pd_t12 hb1.1 hb1.2
        simp (disch := omega) only [f_X12_differs_6, f_X12_differs_51, f_X12_differs_92, f_X12_hourOf, n1, n2, hh, qI_div, Option.bind_some, qi, ql, qI_lt, qI_le, qI_eq, qI_L, qI_ix, qL_lt, qL_eq, q_nat, q_cs, ← Int32.ofInt_add, ← Int32.ofInt_sub, ← Int32.ofInt_mul, ← Int32.ofInt_neg, ← Int64.ofInt_add, ← Int64.ofInt_sub, ← Int64.ofInt_mul, ← Int64.ofInt_neg, pL_I, q_mx, q_mn, q_ab, q_abL, q_mnL, q_nn0, q_nn1, q_rr, q_b1, q_b0, q_T, q_F, q_iT, q_iF, q_d, q_in, q_wi, q_hC, q_hM, pT_i, pU_i, pS_i, pS_j, pS_0, Sum.elim_inl, Sum.elim_inr, if_pos, if_neg]
      · rw [if_neg ck]
        unfold pd_e
        rw [if_neg cg]
        have hh := ph_heightOf (b := false) M hm (h := max 0 (hs i + s)) (by omega) (by omega)
        have hb1 := hb (max 0 (hs i + s))
        have hb2 := pd_t12 hb1.1 hb1.2
        simp (disch := omega) only [f_X12_differs_6, f_X12_differs_51, f_X12_differs_92, f_X12_hourOf, n1, n2, hh, qI_div, Option.bind_some, qi, ql, qI_lt, qI_le, qI_eq, qI_L, qI_ix, qL_lt, qL_eq, q_nat, q_cs, ← Int32.ofInt_add, ← Int32.ofInt_sub, ← Int32.ofInt_mul, ← Int32.ofInt_neg, ← Int64.ofInt_add, ← Int64.ofInt_sub, ← Int64.ofInt_mul, ← Int64.ofInt_neg, pL_I, q_mx, q_mn, q_ab, q_abL, q_mnL, q_nn0, q_nn1, q_rr, q_b1, q_b0, q_T, q_F, q_iT, q_iF, q_d, q_in, q_wi, q_hC, q_hM, pT_i, pU_i, pS_i, pS_j, pS_0, Sum.elim_inl, Sum.elim_inr, if_pos, if_neg]
  · simp (disch := omega) only [f_X12_differs_6, Option.bind_some, qi, ql, qI_lt, qI_le, qI_eq, qI_L, qI_ix, qL_lt, qL_eq, q_nat, q_cs, ← Int32.ofInt_add, ← Int32.ofInt_sub, ← Int32.ofInt_mul, ← Int32.ofInt_neg, ← Int64.ofInt_add, ← Int64.ofInt_sub, ← Int64.ofInt_mul, ← Int64.ofInt_neg, pL_I, q_mx, q_mn, q_ab, q_abL, q_mnL, q_nn0, q_nn1, q_rr, q_b1, q_b0, q_T, q_F, q_iT, q_iF, q_d, q_in, q_wi, q_hC, q_hM, pT_i, pU_i, pS_i, pS_j, pS_0, Sum.elim_inl, Sum.elim_inr, if_pos, if_neg]
/-- the best of k, of the first ones -/
def pk_F (D : Nat → Int) (y : Int) : Nat → Int × Int × Int → Int × Int × Int
  | 0, s => s
  | k + 1, s => if D k < (pk_F D y k s).2.2 then ((k : Int), y, D k) else pk_F D y k s
theorem pk_Fb {D : Nat → Int} {y : Int} {n : Nat} {s : Int × Int × Int} (hD : ∀ k, k < n → 0 ≤ D k ∧ D k ≤ 1000000) (hn : n ≤ 24) (hy : -50 ≤ y ∧ y ≤ 50) (hs : (0 ≤ s.1 ∧ s.1 ≤ 24) ∧ (-50 ≤ s.2.1 ∧ s.2.1 ≤ 50) ∧ (0 ≤ s.2.2 ∧ s.2.2 ≤ 1000000)) : (0 ≤ (pk_F D y n s).1 ∧ (pk_F D y n s).1 ≤ 24) ∧ (-50 ≤ (pk_F D y n s).2.1 ∧ (pk_F D y n s).2.1 ≤ 50) ∧ (0 ≤ (pk_F D y n s).2.2 ∧ (pk_F D y n s).2.2 ≤ 1000000) := by
  induction n with
  | zero => exact hs
  | succ n ih =>
    have ih := ih (fun k hk => hD k (by omega)) (by omega)
    show (0 ≤ (if D n < (pk_F D y n s).2.2 then ((n : Int), y, D n) else pk_F D y n s).1 ∧ _) ∧ _
    have h1 := hD n (by omega)
    by_cases c : D n < (pk_F D y n s).2.2
    · simp only [pk_F, if_pos c]
      exact ⟨by omega, hy, h1⟩
    · simp only [pk_F, if_neg c]
      exact ih
