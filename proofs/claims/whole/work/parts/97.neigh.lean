/-! ===== NEIGHBOUR ===== -/
theorem ph_Mq {σ τ : am_H} {m wc : Nat} {ws : Nat → Nat → Int} {z : Int} (g : qa (pr_fM 4) σ τ) (M : ph_M σ m wc ws z) : ph_M τ m wc ws z := by
  obtain ⟨d1, d2, d3, d4, d5⟩ := M
  refine ⟨d1, by rw [g.I (k := 1320) (fun j => rfl)]; exact d2, by rw [g.I (k := 1323) (fun j => rfl)]; exact d3, d4, fun i hi => ⟨(d5 i hi).1, ?_⟩⟩
  have := (d5 i hi).2
  unfold pw_M at this ⊢
  rw [g.I (k := 1324) (fun j => rfl)]
  exact this
theorem pg_Mq {σ τ : am_H} {th tr n : Nat} {hs rd : Nat → Int} (g : qa (pr_fM 1) σ τ) (M : pg_M σ th tr n hs rd) : pg_M τ th tr n hs rd := by
  unfold pg_M at M ⊢
  rw [g.L (k := 1306) (fun j => rfl)]
  exact M
/-- HEIGHT without ZERO, all PLACES g less, of the first waves -/
def pn_L (ws : Nat → Nat → Int) (h g : Int) : Nat → Int
  | 0 => 0
  | i + 1 => pn_L ws h g i + ws i 2 * pc_cos (pw_place (ws i) h false - g)
theorem pn_Lb {ws : Nat → Nat → Int} {h g : Int} {n : Nat} (hw : ∀ i, i < n → pw_ok (ws i)) : -(1188 * n) ≤ pn_L ws h g n ∧ pn_L ws h g n ≤ 1188 * n := by
  induction n with
  | zero => show -(1188 * ((0 : Nat) : Int)) ≤ 0 ∧ (0 : Int) ≤ 1188 * ((0 : Nat) : Int); omega
  | succ n ih =>
    have ih := ih (fun i hi => hw i (by omega))
    obtain ⟨-, -, ⟨a1, a2⟩, -⟩ := hw n (by omega)
    have c := pc_b (pw_place (ws n) h false - g)
    have e1 : ws n 2 * pc_cos (pw_place (ws n) h false - g) ≤ ws n 2 * 12 := Int.mul_le_mul_of_nonneg_left c.2 a1
    have e2 : ws n 2 * (-12) ≤ ws n 2 * pc_cos (pw_place (ws n) h false - g) := Int.mul_le_mul_of_nonneg_left c.1 a1
    show -(1188 * ((n + 1 : Nat) : Int)) ≤ pn_L ws h g n + ws n 2 * pc_cos (pw_place (ws n) h false - g) ∧ pn_L ws h g n + ws n 2 * pc_cos (pw_place (ws n) h false - g) ≤ 1188 * ((n + 1 : Nat) : Int)
    omega
theorem pn_LC {σ : am_H} {a wc : Nat} {ws : Nat → Nat → Int} {zr h g : Int} (C : ph_C σ a wc ws zr) (h0 : 0 ≤ h) (h1 : h ≤ 200000) (g0 : 0 ≤ g) (g1 : g ≤ 23) : f_X3_laggedHeightAt a (Int64.ofInt h) (Int32.ofInt g) σ = some (Int32.ofInt (pn_L ws h g wc)) := by
  obtain ⟨c1, c2, c3, c4, c5⟩ := C
  have lp := am_loop_n (body := fun s : Int32 × Int32 => f_X3_laggedHeightAt_6 a (Int64.ofInt h) (Int32.ofInt g) s.1 s.2 σ) (fun i => (Int32.ofInt (pn_L ws h g i), Int32.ofInt i)) wc (r := Int32.ofInt (pn_L ws h g wc)) ?_ ?_
  · have lp' : am_loop (fun s : Int32 × Int32 => f_X3_laggedHeightAt_6 a (Int64.ofInt h) (Int32.ofInt g) s.1 s.2 σ) (Int32.ofInt 0, Int32.ofInt 0) = some (Int32.ofInt (pn_L ws h g wc)) := lp
    simp (disch := omega) only [f_X3_laggedHeightAt, lp', Option.bind_some, qi, ql, qI_lt, qI_le, qI_eq, qI_L, qI_ix, qL_lt, qL_eq, q_nat, q_cs, ← Int32.ofInt_add, ← Int32.ofInt_sub, ← Int32.ofInt_mul, ← Int32.ofInt_neg, ← Int64.ofInt_add, ← Int64.ofInt_sub, ← Int64.ofInt_mul, ← Int64.ofInt_neg, pL_I, q_mx, q_mn, q_ab, q_abL, q_mnL, q_nn0, q_nn1, q_rr, q_b1, q_b0, q_T, q_F, q_iT, q_iF, q_d, q_in, q_wi, q_hC, q_hM, pT_i, pU_i, pS_i, pS_j, pS_0, Sum.elim_inl, Sum.elim_inr, if_pos, if_neg]
  · intro i hi
    obtain ⟨ok, Cw⟩ := c5 i hi
    have pl := pw_placeAt (b := false) ok Cw h0 h1
    have pb := pw_place_b (b := false) ok h0 h1
    have q2 : σ.1 10 (6 * a + i) 3 = Int32.ofInt (ws i 2) := Cw.2.2.1
    simp (disch := omega) only [f_X3_laggedHeightAt_6, c2, pl, q_cos, q2, Option.bind_some, qi, ql, qI_lt, qI_le, qI_eq, qI_L, qI_ix, qL_lt, qL_eq, q_nat, q_cs, ← Int32.ofInt_add, ← Int32.ofInt_sub, ← Int32.ofInt_mul, ← Int32.ofInt_neg, ← Int64.ofInt_add, ← Int64.ofInt_sub, ← Int64.ofInt_mul, ← Int64.ofInt_neg, pL_I, q_mx, q_mn, q_ab, q_abL, q_mnL, q_nn0, q_nn1, q_rr, q_b1, q_b0, q_T, q_F, q_iT, q_iF, q_d, q_in, q_wi, q_hC, q_hM, pT_i, pU_i, pS_i, pS_j, pS_0, Sum.elim_inl, Sum.elim_inr, if_pos, if_neg]
    rfl
  · simp (disch := omega) only [f_X3_laggedHeightAt_6, c2, Option.bind_some, qi, ql, qI_lt, qI_le, qI_eq, qI_L, qI_ix, qL_lt, qL_eq, q_nat, q_cs, ← Int32.ofInt_add, ← Int32.ofInt_sub, ← Int32.ofInt_mul, ← Int32.ofInt_neg, ← Int64.ofInt_add, ← Int64.ofInt_sub, ← Int64.ofInt_mul, ← Int64.ofInt_neg, pL_I, q_mx, q_mn, q_ab, q_abL, q_mnL, q_nn0, q_nn1, q_rr, q_b1, q_b0, q_T, q_F, q_iT, q_iF, q_d, q_in, q_wi, q_hC, q_hM, pT_i, pU_i, pS_i, pS_j, pS_0, Sum.elim_inl, Sum.elim_inr, if_pos, if_neg]
theorem pn_LM {σ : am_H} {m th j wc : Nat} {ws : Nat → Nat → Int} {z h g : Int} {v3 v4 v5 : Int32} {v7 : Int64} (hm : m < 3) (hth : th < 5) (hj : j < 24) (M : ph_M σ m wc ws z) (e : σ.2.1 1306 0 (60 * th + j) = Int64.ofInt h) (h0 : 0 ≤ h) (h1 : h ≤ 99999) (g0 : 0 ≤ g) (g1 : g ≤ 23) : am_loop (fun s : Int32 × Int32 => f_X12_there_36 (Int32.ofInt m) (Int32.ofInt th) v3 v4 v5 (Int32.ofInt g) v7 (Int32.ofInt j) s.1 s.2 σ) (Int32.ofInt 0, Int32.ofInt 0) = some (Int32.ofInt (pn_L ws h g wc)) := by
  obtain ⟨d1, d2, d3, d4, d5⟩ := M
  have n1 := pg_num hth (by omega : j < 60) e
  refine am_loop_n (body := fun s : Int32 × Int32 => f_X12_there_36 (Int32.ofInt m) (Int32.ofInt th) v3 v4 v5 (Int32.ofInt g) v7 (Int32.ofInt j) s.1 s.2 σ) (fun i => (Int32.ofInt (pn_L ws h g i), Int32.ofInt i)) wc ?_ ?_
  · intro i hi
    obtain ⟨ok, Mw⟩ := d5 i hi
    have pt := pm_truePlace ok Mw hm (by omega) h0 (by omega : h ≤ 200000)
    have pb := pw_place_b (b := false) ok h0 (by omega : h ≤ 200000)
    obtain ⟨o0, o1, o2, -⟩ := pm_o Mw hm (by omega)
    have em : (pw_place (ws i) h false + 24 - g).tmod 24 = (pw_place (ws i) h false + 24 - g) % 24 := Int.tmod_eq_emod_of_nonneg (by omega)
    have ec : f_X12_cosine (Int32.ofInt ((pw_place (ws i) h false + 24 - g) % 24)) σ = some (Int32.ofInt (pc_cos (pw_place (ws i) h false - g))) := by
      rw [pm_cosine (by omega) (by omega), pc_mod, show pw_place (ws i) h false + 24 - g = pw_place (ws i) h false - g + 24 by omega, pc_24]
    simp (disch := omega) only [f_X12_there_36, f_X12_hourOf, d2, o2, n1, pt, qI_rem, em, ec, Option.bind_some, qi, ql, qI_lt, qI_le, qI_eq, qI_L, qI_ix, qL_lt, qL_eq, q_nat, q_cs, ← Int32.ofInt_add, ← Int32.ofInt_sub, ← Int32.ofInt_mul, ← Int32.ofInt_neg, ← Int64.ofInt_add, ← Int64.ofInt_sub, ← Int64.ofInt_mul, ← Int64.ofInt_neg, pL_I, q_mx, q_mn, q_ab, q_abL, q_mnL, q_nn0, q_nn1, q_rr, q_b1, q_b0, q_T, q_F, q_iT, q_iF, q_d, q_in, q_wi, q_hC, q_hM, pT_i, pU_i, pS_i, pS_j, pS_0, Sum.elim_inl, Sum.elim_inr, if_pos, if_neg]
    rfl
  · simp (disch := omega) only [f_X12_there_36, d2, Option.bind_some, qi, ql, qI_lt, qI_le, qI_eq, qI_L, qI_ix, qL_lt, qL_eq, q_nat, q_cs, ← Int32.ofInt_add, ← Int32.ofInt_sub, ← Int32.ofInt_mul, ← Int32.ofInt_neg, ← Int64.ofInt_add, ← Int64.ofInt_sub, ← Int64.ofInt_mul, ← Int64.ofInt_neg, pL_I, q_mx, q_mn, q_ab, q_abL, q_mnL, q_nn0, q_nn1, q_rr, q_b1, q_b0, q_T, q_F, q_iT, q_iF, q_d, q_in, q_wi, q_hC, q_hM, pT_i, pU_i, pS_i, pS_j, pS_0, Sum.elim_inl, Sum.elim_inr, if_pos, if_neg]
/-- the sum of differences with a RATIO r and a LAG g -/
def pn_d (ws : Nat → Nat → Int) (wc : Nat) (hs rd : Nat → Int) (n : Nat) (r g : Int) : Int := ps_sum (fun j => if rd j = 1000 then 0 else (((rd j - (pn_L ws (hs j) g wc * r).tdiv 144).natAbs : Nat) : Int)) n
theorem pn_t {x r : Int} (h1 : -7128 ≤ x) (h2 : x ≤ 7128) (r1 : 1 ≤ r) (r2 : r ≤ 24) : (-171072 ≤ x * r ∧ x * r ≤ 171072) ∧ (-171072 ≤ (x * r).tdiv 144 ∧ (x * r).tdiv 144 ≤ 171072) := by
  have e1 : x * r ≤ 7128 * r := Int.mul_le_mul_of_nonneg_right h2 (by omega)
  have e2 : -7128 * r ≤ x * r := Int.mul_le_mul_of_nonneg_right h1 (by omega)
  have := Int.natAbs_tdiv_le_natAbs (x * r) 144
  omega
theorem pn_there {σ : am_H} {m th tr n wc : Nat} {ws : Nat → Nat → Int} {z r g : Int} {hs rd : Nat → Int} (hm : m < 3) (hth : th < 5) (htr : tr < 5) (hn : n ≤ 24) (M : ph_M σ m wc ws z) (G : pg_M σ th tr n hs rd) (r1 : 1 ≤ r) (r2 : r ≤ 24) (g0 : 0 ≤ g) (g1 : g ≤ 23) : f_X12_there (Int32.ofInt m) (Int32.ofInt th) (Int32.ofInt tr) (Int32.ofInt n) (Int32.ofInt r) (Int32.ofInt g) σ = some (Int64.ofInt (pn_d ws wc hs rd n r g)) := by
  have Lb : ∀ h, -7128 ≤ pn_L ws h g wc ∧ pn_L ws h g wc ≤ 7128 := fun h => by
    have := pn_Lb (ws := ws) (h := h) (g := g) (n := wc) (fun i hi => (M.2.2.2.2 i hi).1)
    have := M.1
    omega
  have lp := am_loop_n (body := fun t : Int64 × Int32 => f_X12_there_6 (Int32.ofInt m) (Int32.ofInt th) (Int32.ofInt tr) (Int32.ofInt n) (Int32.ofInt r) (Int32.ofInt g) t.1 t.2 σ) (fun i => (Int64.ofInt (pn_d ws wc hs rd i r g), Int32.ofInt i)) n (r := Int64.ofInt (pn_d ws wc hs rd n r g)) ?_ ?_
  · have lp' : am_loop (fun t : Int64 × Int32 => f_X12_there_6 (Int32.ofInt m) (Int32.ofInt th) (Int32.ofInt tr) (Int32.ofInt n) (Int32.ofInt r) (Int32.ofInt g) t.1 t.2 σ) (Int64.ofInt 0, Int32.ofInt 0) = _ := lp
    simp (disch := omega) only [f_X12_there, lp', Option.bind_some, qi, ql, qI_lt, qI_le, qI_eq, qI_L, qI_ix, qL_lt, qL_eq, q_nat, q_cs, ← Int32.ofInt_add, ← Int32.ofInt_sub, ← Int32.ofInt_mul, ← Int32.ofInt_neg, ← Int64.ofInt_add, ← Int64.ofInt_sub, ← Int64.ofInt_mul, ← Int64.ofInt_neg, pL_I, q_mx, q_mn, q_ab, q_abL, q_mnL, q_nn0, q_nn1, q_rr, q_b1, q_b0, q_T, q_F, q_iT, q_iF, q_d, q_in, q_wi, q_hC, q_hM, pT_i, pU_i, pS_i, pS_j, pS_0, Sum.elim_inl, Sum.elim_inr, if_pos, if_neg]
  · intro i hi
    obtain ⟨q1, q2, q3, q4⟩ := G i hi
    have n2 := pg_num htr (by omega : i < 60) q2
    have lm := pn_LM (v3 := Int32.ofInt tr) (v4 := Int32.ofInt n) (v5 := Int32.ofInt r) (v7 := Int64.ofInt (pn_d ws wc hs rd i r g)) hm hth (by omega : i < 24) M q1 q3.1 q3.2 g0 g1
    have b1 := Lb (hs i)
    have b2 := pn_t b1.1 b1.2 r1 r2
    show _ = some (Sum.inl (Int64.ofInt (pn_d ws wc hs rd i r g + (if rd i = 1000 then 0 else (((rd i - (pn_L ws (hs i) g wc * r).tdiv 144).natAbs : Nat) : Int))), Int32.ofInt ((i + 1 : Nat) : Int)))
    by_cases cg : rd i = 1000
    · rw [if_pos cg]
      simp (disch := omega) only [f_X12_there_6, n2, Int.add_zero, Option.bind_some, qi, ql, qI_lt, qI_le, qI_eq, qI_L, qI_ix, qL_lt, qL_eq, q_nat, q_cs, ← Int32.ofInt_add, ← Int32.ofInt_sub, ← Int32.ofInt_mul, ← Int32.ofInt_neg, ← Int64.ofInt_add, ← Int64.ofInt_sub, ← Int64.ofInt_mul, ← Int64.ofInt_neg, pL_I, q_mx, q_mn, q_ab, q_abL, q_mnL, q_nn0, q_nn1, q_rr, q_b1, q_b0, q_T, q_F, q_iT, q_iF, q_d, q_in, q_wi, q_hC, q_hM, pT_i, pU_i, pS_i, pS_j, pS_0, Sum.elim_inl, Sum.elim_inr, if_pos, if_neg]
    · rw [if_neg cg]
      simp (disch := omega) only [f_X12_there_6, n2, lm, qI_div, Option.bind_some, qi, ql, qI_lt, qI_le, qI_eq, qI_L, qI_ix, qL_lt, qL_eq, q_nat, q_cs, ← Int32.ofInt_add, ← Int32.ofInt_sub, ← Int32.ofInt_mul, ← Int32.ofInt_neg, ← Int64.ofInt_add, ← Int64.ofInt_sub, ← Int64.ofInt_mul, ← Int64.ofInt_neg, pL_I, q_mx, q_mn, q_ab, q_abL, q_mnL, q_nn0, q_nn1, q_rr, q_b1, q_b0, q_T, q_F, q_iT, q_iF, q_d, q_in, q_wi, q_hC, q_hM, pT_i, pU_i, pS_i, pS_j, pS_0, Sum.elim_inl, Sum.elim_inr, if_pos, if_neg]
  · simp (disch := omega) only [f_X12_there_6, Option.bind_some, qi, ql, qI_lt, qI_le, qI_eq, qI_L, qI_ix, qL_lt, qL_eq, q_nat, q_cs, ← Int32.ofInt_add, ← Int32.ofInt_sub, ← Int32.ofInt_mul, ← Int32.ofInt_neg, ← Int64.ofInt_add, ← Int64.ofInt_sub, ← Int64.ofInt_mul, ← Int64.ofInt_neg, pL_I, q_mx, q_mn, q_ab, q_abL, q_mnL, q_nn0, q_nn1, q_rr, q_b1, q_b0, q_T, q_F, q_iT, q_iF, q_d, q_in, q_wi, q_hC, q_hM, pT_i, pU_i, pS_i, pS_j, pS_0, Sum.elim_inl, Sum.elim_inr, if_pos, if_neg]
theorem pn_db {ws : Nat → Nat → Int} {wc : Nat} {hs rd : Nat → Int} {n : Nat} {r g : Int} (hw : ∀ i, i < wc → pw_ok (ws i)) (hwc : wc ≤ 6) (hn : n ≤ 24) (hr : ∀ j, j < n → -999 ≤ rd j ∧ rd j ≤ 1000) (r1 : 1 ≤ r) (r2 : r ≤ 24) : 0 ≤ pn_d ws wc hs rd n r g ∧ pn_d ws wc hs rd n r g ≤ 10000000 := by
  have := ps_b (f := fun j => if rd j = 1000 then 0 else (((rd j - (pn_L ws (hs j) g wc * r).tdiv 144).natAbs : Nat) : Int)) (n := n) (B := 180000) (fun j hj => by
    have b0 := pn_Lb (ws := ws) (h := hs j) (g := g) (n := wc) hw
    have b2 := pn_t (x := pn_L ws (hs j) g wc) (r := r) (by omega) (by omega) r1 r2
    have := hr j hj
    show 0 ≤ (if rd j = 1000 then 0 else (((rd j - (pn_L ws (hs j) g wc * r).tdiv 144).natAbs : Nat) : Int)) ∧ _
    split
    · omega
    · omega)
  unfold pn_d
  omega
/-- the best of those looked at -/
def pn_ok (V : Int → Int → Prop) (d : Int → Int → Int) (r g : Int) : Prop := V r g ∧ ∀ r' g', V r' g' → d r g < d r' g' ∨ (d r g = d r' g' ∧ (r < r' ∨ (r = r' ∧ g ≤ g')))
theorem pn_one {V : Int → Int → Prop} {d : Int → Int → Int} {r g r' g' : Int} (h : pn_ok V d r g) (h' : pn_ok V d r' g') : r = r' ∧ g = g' := by
  have a := h.2 r' g' h'.1
  have b := h'.2 r g h.1
  omega
def pn_C (σ : am_H) (V : Int → Int → Prop) (d : Int → Int → Int) : Prop := (σ.1 0 0 7 = Int32.ofInt (-1) ∧ ∀ r g, ¬ V r g) ∨ ∃ r g : Int, (1 ≤ r ∧ r ≤ 24) ∧ (0 ≤ g ∧ g ≤ 23) ∧ σ.1 0 0 7 = Int32.ofInt r ∧ σ.1 0 0 8 = Int32.ofInt g ∧ σ.1 0 0 3 = Int32.ofInt (d r g) ∧ pn_ok V d r g
theorem pn_weigh {σ : am_H} {a n wc : Nat} {ws : Nat → Nat → Int} {zr : Int} {hs rd : Nat → Int} {V V' : Int → Int → Prop} {r g : Int} (hn : n ≤ 24) (C : ph_C σ a wc ws zr) (G : pg_C σ 0 n hs rd) (hb : ∀ j, j < n → (0 ≤ hs j ∧ hs j ≤ 99999) ∧ (-999 ≤ rd j ∧ rd j ≤ 1000)) (hd : ∀ j, j < n → σ.1 100 0 j = Int32.ofInt (pn_L ws (hs j) g wc)) (r1 : 1 ≤ r) (r2 : r ≤ 24) (g0 : 0 ≤ g) (g1 : g ≤ 23) (hS : pn_C σ V (pn_d ws wc hs rd n)) (hV : ∀ r' g', V' r' g' ↔ V r' g' ∨ (r' = r ∧ g' = g)) (hord : ∀ r' g', V r' g' → g' ≤ g) : ∃ τ : am_H, f_X0_weighNeighbour 0 (Int32.ofInt g) (Int32.ofInt r) σ = some τ ∧ qf [(0, 3), (0, 7), (0, 8)] σ τ ∧ pn_C τ V' (pn_d ws wc hs rd n) := by
  have hw : ∀ i, i < wc → pw_ok (ws i) := fun i hi => (C.2.2.2.2 i hi).1
  have db := fun (r g : Int) (r1 : 1 ≤ r) (r2 : r ≤ 24) => pn_db (ws := ws) (wc := wc) (hs := hs) (rd := rd) (n := n) (r := r) (g := g) hw C.1 hn (fun j hj => (hb j hj).2) r1 r2
  have d0 := db r g r1 r2
  have lp := am_loop_n (body := fun t : Int32 × Int32 => f_X0_weighNeighbour_6 0 (Int32.ofInt g) (Int32.ofInt r) t.1 t.2 σ) (fun i => (Int32.ofInt (pn_d ws wc hs rd i r g), Int32.ofInt i)) n (r := Int32.ofInt (pn_d ws wc hs rd n r g)) ?_ ?_
  · have lp' : am_loop (fun t : Int32 × Int32 => f_X0_weighNeighbour_6 0 (Int32.ofInt g) (Int32.ofInt r) t.1 t.2 σ) (Int32.ofInt 0, Int32.ofInt 0) = some (Int32.ofInt (pn_d ws wc hs rd n r g)) := lp
    have new : pn_ok V' (pn_d ws wc hs rd n) r g → pn_C (am_wI (am_wI (am_wI σ 0 0 3 (Int32.ofInt (pn_d ws wc hs rd n r g))) 0 0 7 (Int32.ofInt r)) 0 0 8 (Int32.ofInt g)) V' (pn_d ws wc hs rd n) := fun hk => Or.inr ⟨r, g, ⟨r1, r2⟩, ⟨g0, g1⟩, rfl, rfl, rfl, hk⟩
    rcases hS with ⟨s7, hno⟩ | ⟨r', g', rb, gb, s7, s8, s3, hok⟩
    · refine ⟨_, ?_, ((qf.rf.wI rfl).wI rfl).wI rfl, new ⟨(hV r g).mpr (Or.inr ⟨rfl, rfl⟩), fun x y hx => ?_⟩⟩
      · simp (disch := omega) only [f_X0_weighNeighbour, f_X0_weighNeighbour_79, lp', s7, Option.bind_some, qi, ql, qI_lt, qI_le, qI_eq, qI_L, qI_ix, qL_lt, qL_eq, q_nat, q_cs, ← Int32.ofInt_add, ← Int32.ofInt_sub, ← Int32.ofInt_mul, ← Int32.ofInt_neg, ← Int64.ofInt_add, ← Int64.ofInt_sub, ← Int64.ofInt_mul, ← Int64.ofInt_neg, pL_I, q_mx, q_mn, q_ab, q_abL, q_mnL, q_nn0, q_nn1, q_rr, q_b1, q_b0, q_T, q_F, q_iT, q_iF, q_d, q_in, q_wi, q_hC, q_hM, pT_i, pU_i, pS_i, pS_j, pS_0, Sum.elim_inl, Sum.elim_inr, if_pos, if_neg]
      · rcases (hV x y).mp hx with hx | ⟨rfl, rfl⟩
        · exact absurd hx (hno x y)
        · omega
    · have d1 := db r' g' rb.1 rb.2
      by_cases c1 : pn_d ws wc hs rd n r g < pn_d ws wc hs rd n r' g'
      · refine ⟨_, ?_, ((qf.rf.wI rfl).wI rfl).wI rfl, new ⟨(hV r g).mpr (Or.inr ⟨rfl, rfl⟩), fun x y hx => ?_⟩⟩
        · simp (disch := omega) only [f_X0_weighNeighbour, f_X0_weighNeighbour_79, lp', s7, s3, Option.bind_some, qi, ql, qI_lt, qI_le, qI_eq, qI_L, qI_ix, qL_lt, qL_eq, q_nat, q_cs, ← Int32.ofInt_add, ← Int32.ofInt_sub, ← Int32.ofInt_mul, ← Int32.ofInt_neg, ← Int64.ofInt_add, ← Int64.ofInt_sub, ← Int64.ofInt_mul, ← Int64.ofInt_neg, pL_I, q_mx, q_mn, q_ab, q_abL, q_mnL, q_nn0, q_nn1, q_rr, q_b1, q_b0, q_T, q_F, q_iT, q_iF, q_d, q_in, q_wi, q_hC, q_hM, pT_i, pU_i, pS_i, pS_j, pS_0, Sum.elim_inl, Sum.elim_inr, if_pos, if_neg]
        · rcases (hV x y).mp hx with hx | ⟨rfl, rfl⟩
          · have := hok.2 x y hx
            omega
          · omega
      · by_cases c2 : pn_d ws wc hs rd n r g = pn_d ws wc hs rd n r' g' ∧ r < r'
        · refine ⟨_, ?_, ((qf.rf.wI rfl).wI rfl).wI rfl, new ⟨(hV r g).mpr (Or.inr ⟨rfl, rfl⟩), fun x y hx => ?_⟩⟩
          · simp (disch := omega) only [f_X0_weighNeighbour, f_X0_weighNeighbour_79, lp', s7, s3, Option.bind_some, qi, ql, qI_lt, qI_le, qI_eq, qI_L, qI_ix, qL_lt, qL_eq, q_nat, q_cs, ← Int32.ofInt_add, ← Int32.ofInt_sub, ← Int32.ofInt_mul, ← Int32.ofInt_neg, ← Int64.ofInt_add, ← Int64.ofInt_sub, ← Int64.ofInt_mul, ← Int64.ofInt_neg, pL_I, q_mx, q_mn, q_ab, q_abL, q_mnL, q_nn0, q_nn1, q_rr, q_b1, q_b0, q_T, q_F, q_iT, q_iF, q_d, q_in, q_wi, q_hC, q_hM, pT_i, pU_i, pS_i, pS_j, pS_0, Sum.elim_inl, Sum.elim_inr, if_pos, if_neg]
          · rcases (hV x y).mp hx with hx | ⟨rfl, rfl⟩
            · have := hok.2 x y hx
              omega
            · omega
        · refine ⟨σ, ?_, qf.rf, Or.inr ⟨r', g', rb, gb, s7, s8, s3, (hV r' g').mpr (Or.inl hok.1), fun x y hx => ?_⟩⟩
          · by_cases c3 : pn_d ws wc hs rd n r g = pn_d ws wc hs rd n r' g'
            · simp (disch := omega) only [f_X0_weighNeighbour, lp', s7, s3, Option.bind_some, qi, ql, qI_lt, qI_le, qI_eq, qI_L, qI_ix, qL_lt, qL_eq, q_nat, q_cs, ← Int32.ofInt_add, ← Int32.ofInt_sub, ← Int32.ofInt_mul, ← Int32.ofInt_neg, ← Int64.ofInt_add, ← Int64.ofInt_sub, ← Int64.ofInt_mul, ← Int64.ofInt_neg, pL_I, q_mx, q_mn, q_ab, q_abL, q_mnL, q_nn0, q_nn1, q_rr, q_b1, q_b0, q_T, q_F, q_iT, q_iF, q_d, q_in, q_wi, q_hC, q_hM, pT_i, pU_i, pS_i, pS_j, pS_0, Sum.elim_inl, Sum.elim_inr, if_pos, if_neg]
            · simp (disch := omega) only [f_X0_weighNeighbour, lp', s7, s3, Option.bind_some, qi, ql, qI_lt, qI_le, qI_eq, qI_L, qI_ix, qL_lt, qL_eq, q_nat, q_cs, ← Int32.ofInt_add, ← Int32.ofInt_sub, ← Int32.ofInt_mul, ← Int32.ofInt_neg, ← Int64.ofInt_add, ← Int64.ofInt_sub, ← Int64.ofInt_mul, ← Int64.ofInt_neg, pL_I, q_mx, q_mn, q_ab, q_abL, q_mnL, q_nn0, q_nn1, q_rr, q_b1, q_b0, q_T, q_F, q_iT, q_iF, q_d, q_in, q_wi, q_hC, q_hM, pT_i, pU_i, pS_i, pS_j, pS_0, Sum.elim_inl, Sum.elim_inr, if_pos, if_neg]
          · rcases (hV x y).mp hx with hx | ⟨rfl, rfl⟩
            · exact hok.2 x y hx
            · have := hord r' g' hok.1
              omega
  · intro i hi
    have bi := hb i hi
    have b0 := pn_Lb (ws := ws) (h := hs i) (g := g) (n := wc) hw
    have hwc := C.1
    have b2 := pn_t (x := pn_L ws (hs i) g wc) (r := r) (by omega) (by omega) r1 r2
    have e := hd i hi
    have g2 := G.1
    have gr := (G.2 i hi).2
    show _ = some (Sum.inl (Int32.ofInt (pn_d ws wc hs rd i r g + (if rd i = 1000 then 0 else (((rd i - (pn_L ws (hs i) g wc * r).tdiv 144).natAbs : Nat) : Int))), Int32.ofInt ((i + 1 : Nat) : Int)))
    by_cases cg : rd i = 1000
    · rw [if_pos cg]
      simp (disch := omega) only [f_X0_weighNeighbour_6, f_X1_missOf, f_X1_isGap, g2, e, gr, qI_div, Option.bind_some, qi, ql, qI_lt, qI_le, qI_eq, qI_L, qI_ix, qL_lt, qL_eq, q_nat, q_cs, ← Int32.ofInt_add, ← Int32.ofInt_sub, ← Int32.ofInt_mul, ← Int32.ofInt_neg, ← Int64.ofInt_add, ← Int64.ofInt_sub, ← Int64.ofInt_mul, ← Int64.ofInt_neg, pL_I, q_mx, q_mn, q_ab, q_abL, q_mnL, q_nn0, q_nn1, q_rr, q_b1, q_b0, q_T, q_F, q_iT, q_iF, q_d, q_in, q_wi, q_hC, q_hM, pT_i, pU_i, pS_i, pS_j, pS_0, Sum.elim_inl, Sum.elim_inr, if_pos, if_neg]
    · rw [if_neg cg]
      simp (disch := omega) only [f_X0_weighNeighbour_6, f_X1_missOf, f_X1_isGap, g2, e, gr, qI_div, Option.bind_some, qi, ql, qI_lt, qI_le, qI_eq, qI_L, qI_ix, qL_lt, qL_eq, q_nat, q_cs, ← Int32.ofInt_add, ← Int32.ofInt_sub, ← Int32.ofInt_mul, ← Int32.ofInt_neg, ← Int64.ofInt_add, ← Int64.ofInt_sub, ← Int64.ofInt_mul, ← Int64.ofInt_neg, pL_I, q_mx, q_mn, q_ab, q_abL, q_mnL, q_nn0, q_nn1, q_rr, q_b1, q_b0, q_T, q_F, q_iT, q_iF, q_d, q_in, q_wi, q_hC, q_hM, pT_i, pU_i, pS_i, pS_j, pS_0, Sum.elim_inl, Sum.elim_inr, if_pos, if_neg]
  · have g2 := G.1
    simp (disch := omega) only [f_X0_weighNeighbour_6, g2, Option.bind_some, qi, ql, qI_lt, qI_le, qI_eq, qI_L, qI_ix, qL_lt, qL_eq, q_nat, q_cs, ← Int32.ofInt_add, ← Int32.ofInt_sub, ← Int32.ofInt_mul, ← Int32.ofInt_neg, ← Int64.ofInt_add, ← Int64.ofInt_sub, ← Int64.ofInt_mul, ← Int64.ofInt_neg, pL_I, q_mx, q_mn, q_ab, q_abL, q_mnL, q_nn0, q_nn1, q_rr, q_b1, q_b0, q_T, q_F, q_iT, q_iF, q_d, q_in, q_wi, q_hC, q_hM, pT_i, pU_i, pS_i, pS_j, pS_0, Sum.elim_inl, Sum.elim_inr, if_pos, if_neg]
