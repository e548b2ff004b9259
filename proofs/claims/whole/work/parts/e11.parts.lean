/-! ===== SETTINGS: tops and bottoms of both sides ===== -/
def sd (d n : Nat) (x : Nat → Nat → Int) : Int := dl (gg n x) d d 0 0
def sdt (d n j : Nat) (x : Nat → Nat → Int) (y : Nat → Int) : Int := dl (gR n j x (fun i => ip n (x i) y)) d d 0 0
theorem sx_b {w1 w2 : Nat → Int} {hs rd : Nat → Int} {n : Nat} (hn : n ≤ 24) : gg n (sx w1 w2 hs rd) 0 0 ≤ 24 ∧ ∀ i, i < 5 → gg n (sx w1 w2 hs rd) i i ≤ 3456 := by
  constructor
  · have := ip_b (n := n) (f := sx w1 w2 hs rd 0) (B := 1) (fun t ht => by
      unfold sx
      by_cases c : rd t = 1000
      · rw [if_pos c]
        omega
      · rw [if_neg c]
        show -1 ≤ (1 : Int) ∧ (1 : Int) ≤ 1
        omega) (by omega)
    unfold gg
    omega
  · intro i _
    have := ip_b (n := n) (f := sx w1 w2 hs rd i) (B := 12) (fun t ht => by
      unfold sx
      by_cases c : rd t = 1000
      · rw [if_pos c]
        omega
      · rw [if_neg c]
        exact sc_b _ _ _ _) (by omega)
    unfold gg
    omega
theorem sy_b {rd : Nat → Int} {n : Nat} (hn : n ≤ 24) (hr : ∀ t, t < n → -999 ≤ rd t ∧ rd t ≤ 1000) : ip n (sy rd) (sy rd) ≤ 23952024 := by
  have := ip_b (n := n) (f := sy rd) (B := 999) (fun t ht => by
    have := hr t ht
    unfold sy
    by_cases c : rd t = 1000
    · rw [if_pos c]
      omega
    · rw [if_neg c]
      omega) (by omega)
  omega
theorem sd_b {w1 w2 : Nat → Int} {hs rd : Nat → Int} {n d : Nat} (hn : n ≤ 24) (hd : d = 3 ∨ d = 5) : 0 ≤ sd d n (sx w1 w2 hs rd) ∧ sd d n (sx w1 w2 hs rd) < 9223372036854775808 := by
  obtain ⟨b0, b1⟩ := sx_b (w1 := w1) (w2 := w2) (hs := hs) (rd := rd) hn
  have g := gr_bot b0 b1
  unfold sd
  rcases hd with rfl | rfl
  · rw [dl_3]
    exact g.1
  · rw [dl_5]
    exact g.2
theorem sdt_b {w1 w2 : Nat → Int} {hs rd : Nat → Int} {n d j : Nat} (hn : n ≤ 24) (hd : d = 3 ∨ d = 5) (hj : j < d) (hr : ∀ t, t < n → -999 ≤ rd t ∧ rd t ≤ 1000) : -9223372036854775808 < sdt d n j (sx w1 w2 hs rd) (sy rd) ∧ sdt d n j (sx w1 w2 hs rd) (sy rd) < 9223372036854775808 := by
  obtain ⟨b0, b1⟩ := sx_b (w1 := w1) (w2 := w2) (hs := hs) (rd := rd) hn
  have yb := sy_b hn hr
  unfold sdt
  rcases hd with rfl | rfl
  · rw [dl_3]
    exact gr_top3 hj b1 yb
  · rw [dl_5]
    exact gr_top5 hj b0 b1 yb
/-- what the class has reckoned -/
def sK (σ : am_H) (r d n : Nat) (x : Nat → Nat → Int) (y : Nat → Int) : Prop := σ.1 1 r 3 = Int32.ofInt (d : Int) ∧ σ.2.1 1 r 7 = Int64.ofInt (sd d n x) ∧ (∀ i k, i < 5 → k < 5 → σ.2.1 205 r (5 * i + k) = Int64.ofInt (gg n x i k)) ∧ ∀ i, i < 5 → σ.2.1 206 r i = Int64.ofInt (ip n (x i) y)
/-- what the reference has reckoned -/
def sL (σ : am_H) (d n : Nat) (x : Nat → Nat → Int) (y : Nat → Int) : Prop := σ.1 12 0 81 = Int32.ofInt (d : Int) ∧ σ.2.1 12 0 82 = Int64.ofInt (sd d n x) ∧ (∀ i k, i < d → k < d → σ.2.1 1379 0 (5 * i + k) = Int64.ofInt (gg n x i k)) ∧ ∀ i, i < d → σ.2.1 1380 0 i = Int64.ofInt (ip n (x i) y)
theorem sK_top {σ : am_H} {r d n j : Nat} {x : Nat → Nat → Int} {y : Nat → Int} (hd : d ≤ 5) (hj : j < 5) (K : sK σ r d n x y) : f_X1_determinant 8 r (Int32.ofInt 0) (Int32.ofInt 0) (Int32.ofInt (j : Int)) σ = some (Int64.ofInt (sdt d n j x y)) := by
  obtain ⟨k1, -, k3, k4⟩ := K
  refine dr_cls (m := gR n j x (fun i => ip n (x i) y)) (col := (j : Int)) hd k1 ⟨by omega, by omega⟩ (fun i k hi hk => ?_) d 0 0 8 (by omega) (by omega) (by omega)
  unfold gR
  by_cases e : k = j
  · rw [if_pos (by omega), if_pos e]
    exact k4 i (by omega)
  · rw [if_neg (by omega), if_neg e]
    exact k3 i k (by omega) (by omega)
theorem sL_top {σ : am_H} {d n j : Nat} {x : Nat → Nat → Int} {y : Nat → Int} (hd : d ≤ 5) (hj : j < 5) (K : sL σ d n x y) : f_X12_reckon 8 (Int32.ofInt 0) (Int32.ofInt 0) (Int32.ofInt (j : Int)) σ = some (Int64.ofInt (sdt d n j x y)) := by
  obtain ⟨k1, -, k3, k4⟩ := K
  refine dr_ref (m := gR n j x (fun i => ip n (x i) y)) (col := (j : Int)) hd k1 ⟨by omega, by omega⟩ (fun i k hi hk => ?_) d 0 0 8 (by omega) (by omega) (by omega)
  unfold gR
  by_cases e : k = j
  · rw [if_pos (by omega), if_pos e]
    exact k4 i hi
  · rw [if_neg (by omega), if_neg e]
    exact k3 i k hi hk
theorem sw_C {σ τ : am_H} {r : Nat} {w : Nat → Int} {l : List (Nat × Nat)} (h : qf l σ τ) (hd : qf_dj l [(10, 999), (1106, 999)] = true) (C : pw_C σ r w) : pw_C τ r w := by
  have g := h.a hd
  unfold pw_C at C ⊢
  rw [g.I (k := 10) (fun j => rfl), g.L (k := 10) (fun j => rfl), g.I (k := 1106) (fun j => rfl)]
  exact C
theorem sw_M {σ τ : am_H} {m i : Nat} {w : Nat → Int} {l : List (Nat × Nat)} (h : qf l σ τ) (hd : qf_dj l [(1324, 999)] = true) (M : pw_M σ m i w) : pw_M τ m i w := by
  have g := h.a hd
  unfold pw_M at M ⊢
  rw [g.I (k := 1324) (fun j => rfl)]
  exact M
theorem sK_parts {σ : am_H} {r a b n d : Nat} {hs rd : Nat → Int} {w1 w2 : Nat → Int} {same : Bool} (hd : d = if same = true then 3 else 5) (hn : n ≤ 24) (C : pg_C σ r n hs rd) (hb : ∀ t, t < n → (0 ≤ hs t ∧ hs t ≤ 99999) ∧ (-999 ≤ rd t ∧ rd t ≤ 1000)) (o1 : pw_ok w1) (C1 : pw_C σ a w1) (o2 : pw_ok w2) (C2 : pw_C σ b w2) : ∃ τ : am_H, f_X1_partsWaves r a b same σ = some (decide (0 < sd d n (sx w1 w2 hs rd)), τ) ∧ qf [(1, 3), (1, 7), (204, 999), (205, 999), (206, 999)] σ τ ∧ qo r σ τ ∧ sK τ r d n (sx w1 w2 hs rd) (sy rd) := by
  have q0 : qf [(1, 3)] σ (am_wI σ 1 r 3 (Int32.ofInt (d : Int))) := qf.rf.wI rfl
  have o0 : qo r σ (am_wI σ 1 r 3 (Int32.ofInt (d : Int))) := qo.rf.wI
  obtain ⟨τ1, y1, y2, y3, y4⟩ := sa_z1 (σ := am_wI σ 1 r 3 (Int32.ofInt (d : Int))) (r := r) (a := a) (b := b)
  obtain ⟨τ2, z1, z2, z3, z4⟩ := sa_z2 (σ := τ1) (r := r) (a := a) (b := b)
  have Q2 : qf [(1, 3), (205, 999), (206, 999)] σ τ2 := ((q0.mo (by decide)).tr (y2.mo (by decide))).tr (z2.mo (by decide))
  have P : pg_C τ2 r n hs rd := ⟨((Q2 1 r 0 rfl).1).trans C.1, fun j hj => ⟨((Q2 201 r j rfl).1).trans (C.2 j hj).1, ((Q2 202 r j rfl).1).trans (C.2 j hj).2⟩⟩
  obtain ⟨τ3, l1, l2, l3, l4, l5⟩ := sa_4 (σ := τ2) (r := r) (a := a) (b := b) hn P hb o1 (sw_C Q2 (by decide +kernel) C1) o2 (sw_C Q2 (by decide +kernel) C2) (fun j hj => ((z2 205 r j rfl).2.1).trans (y4 j hj)) z4
  have d3' : d ≤ 5 := by
    rw [hd]
    split <;> omega
  have dd : d = 3 ∨ d = 5 := by
    rw [hd]
    split <;> omega
  have B := sd_b (w1 := w1) (w2 := w2) (hs := hs) (rd := rd) hn dd
  have e3 : τ3.1 1 r 3 = Int32.ofInt (d : Int) := by
    rw [(l2 1 r 3 rfl).1, (z2 1 r 3 rfl).1, (y2 1 r 3 rfl).1, am_wI_r, if_pos ⟨rfl, rfl, rfl⟩]
  have dt : f_X1_determinant 8 r (Int32.ofInt 0) (Int32.ofInt 0) (Int32.ofInt (-1)) τ3 = some (Int64.ofInt (sd d n (sx w1 w2 hs rd))) := by
    refine dr_cls (m := gg n (sx w1 w2 hs rd)) (col := -1) d3' e3 ⟨by omega, by omega⟩ (fun i k hi hk => ?_) d 0 0 8 (by omega) (by omega) (by omega)
    rw [if_neg (by omega)]
    exact l4 i k (by omega) (by omega)
  have r7 : (am_wL τ3 1 r 7 (Int64.ofInt (sd d n (sx w1 w2 hs rd)))).2.1 1 r 7 = Int64.ofInt (sd d n (sx w1 w2 hs rd)) := by
    rw [am_wL_r, if_pos ⟨rfl, rfl, rfl⟩]
  refine ⟨am_wL τ3 1 r 7 (Int64.ofInt (sd d n (sx w1 w2 hs rd))), ?_, (((Q2.mo (by decide)).tr (l2.mo (by decide))).wL rfl), ((o0.tr (y3.tr (z3.tr l3))).wL), e3, r7, l4, l5⟩
  have body : f_X1_partsWaves_10 r a b r (Int32.ofInt (d : Int)) σ = some (decide (0 < sd d n (sx w1 w2 hs rd)), am_wL τ3 1 r 7 (Int64.ofInt (sd d n (sx w1 w2 hs rd)))) := by
    by_cases pos : 0 < sd d n (sx w1 w2 hs rd)
    · rw [decide_eq_true pos]
      simp (disch := omega) only [f_X1_partsWaves_10, y1, z1, l1, dt, r7, Option.bind_some, qi, ql, qI_lt, qI_le, qI_eq, qI_L, qI_ix, qL_lt, qL_eq, q_nat, q_cs, ← Int32.ofInt_add, ← Int32.ofInt_sub, ← Int32.ofInt_mul, ← Int32.ofInt_neg, ← Int64.ofInt_add, ← Int64.ofInt_sub, ← Int64.ofInt_mul, ← Int64.ofInt_neg, pL_I, q_mx, q_mn, q_ab, q_abL, q_mnL, q_nn0, q_nn1, q_rr, q_b1, q_b0, q_T, q_F, q_iT, q_iF, q_d, q_in, q_wi, q_hC, q_hM, pT_i, pU_i, pS_i, pS_j, pS_0, Sum.elim_inl, Sum.elim_inr, if_pos, if_neg]
    · rw [decide_eq_false pos]
      simp (disch := omega) only [f_X1_partsWaves_10, y1, z1, l1, dt, r7, Option.bind_some, qi, ql, qI_lt, qI_le, qI_eq, qI_L, qI_ix, qL_lt, qL_eq, q_nat, q_cs, ← Int32.ofInt_add, ← Int32.ofInt_sub, ← Int32.ofInt_mul, ← Int32.ofInt_neg, ← Int64.ofInt_add, ← Int64.ofInt_sub, ← Int64.ofInt_mul, ← Int64.ofInt_neg, pL_I, q_mx, q_mn, q_ab, q_abL, q_mnL, q_nn0, q_nn1, q_rr, q_b1, q_b0, q_T, q_F, q_iT, q_iF, q_d, q_in, q_wi, q_hC, q_hM, pT_i, pU_i, pS_i, pS_j, pS_0, Sum.elim_inl, Sum.elim_inr, if_pos, if_neg]
  cases same with
  | true =>
    rw [if_pos rfl] at hd
    subst hd
    exact body
  | false =>
    rw [if_neg (by decide)] at hd
    subst hd
    exact body
theorem sL_square {σ : am_H} {m i1 i2 th tr n d : Nat} {hs rd : Nat → Int} {w1 w2 : Nat → Int} (hd : d = if i1 = i2 then 3 else 5) (hm : m < 3) (h1 : i1 < 6) (h2 : i2 < 6) (hth : th < 5) (htr : tr < 5) (hn : n ≤ 24) (M : pg_M σ th tr n hs rd) (o1 : pw_ok w1) (M1 : pw_M σ m i1 w1) (o2 : pw_ok w2) (M2 : pw_M σ m i2 w2) : ∃ τ : am_H, f_X12_square (Int32.ofInt (m : Int)) (Int32.ofInt (i1 : Int)) (Int32.ofInt (i2 : Int)) (Int32.ofInt (th : Int)) (Int32.ofInt (tr : Int)) (Int32.ofInt (n : Int)) σ = some τ ∧ qf [(12, 81), (12, 82), (1379, 999), (1380, 999), (1383, 999)] σ τ ∧ sL τ d n (sx w1 w2 hs rd) (sy rd) := by
  have q0 : qf [(12, 81)] σ (am_wI σ 12 0 81 (Int32.ofInt (d : Int))) := qf.rf.wI rfl
  obtain ⟨τ1, y1, y2, y4⟩ := sm_z1 (σ := am_wI σ 12 0 81 (Int32.ofInt (d : Int))) (v1 := Int32.ofInt (m : Int)) (v2 := Int32.ofInt (i1 : Int)) (v3 := Int32.ofInt (i2 : Int)) (v4 := Int32.ofInt (th : Int)) (v5 := Int32.ofInt (tr : Int)) (v6 := Int32.ofInt (n : Int))
  obtain ⟨τ2, z1, z2, z4⟩ := sm_z2 (σ := τ1) (v1 := Int32.ofInt (m : Int)) (v2 := Int32.ofInt (i1 : Int)) (v3 := Int32.ofInt (i2 : Int)) (v4 := Int32.ofInt (th : Int)) (v5 := Int32.ofInt (tr : Int)) (v6 := Int32.ofInt (n : Int))
  have Q2 : qf [(12, 81), (1379, 999), (1380, 999)] σ τ2 := ((q0.mo (by decide)).tr (y2.mo (by decide))).tr (z2.mo (by decide))
  have d3' : d ≤ 5 := by
    rw [hd]
    split <;> omega
  have e81 : τ2.1 12 0 81 = Int32.ofInt (d : Int) := by
    rw [(z2 12 0 81 rfl).1, (y2 12 0 81 rfl).1, am_wI_r, if_pos ⟨rfl, rfl, rfl⟩]
  have P : pg_M τ2 th tr n hs rd := pg_Mq (Q2.a (by decide +kernel)) M
  obtain ⟨τ3, l1, l2, l4, l5⟩ := sm_4 (σ := τ2) (d := d) hm h1 h2 hth htr hn d3' e81 P o1 (sw_M Q2 (by decide +kernel) M1) o2 (sw_M Q2 (by decide +kernel) M2) (fun j hj => ((z2 1379 0 j rfl).2.1).trans (y4 j hj)) z4
  have e3 : τ3.1 12 0 81 = Int32.ofInt (d : Int) := ((l2 12 0 81 rfl).1).trans e81
  have dt : f_X12_reckon 8 (Int32.ofInt 0) (Int32.ofInt 0) (Int32.ofInt (-1)) τ3 = some (Int64.ofInt (sd d n (sx w1 w2 hs rd))) := by
    refine dr_ref (m := gg n (sx w1 w2 hs rd)) (col := -1) d3' e3 ⟨by omega, by omega⟩ (fun i k hi hk => ?_) d 0 0 8 (by omega) (by omega) (by omega)
    rw [if_neg (by omega)]
    exact l4 i k (by omega) (by omega)
  refine ⟨am_wL τ3 12 0 82 (Int64.ofInt (sd d n (sx w1 w2 hs rd))), ?_, (((Q2.mo (by decide)).tr (l2.mo (by decide))).wL rfl), e3, rfl, l4, l5⟩
  have body : f_X12_square_11 (Int32.ofInt (m : Int)) (Int32.ofInt (i1 : Int)) (Int32.ofInt (i2 : Int)) (Int32.ofInt (th : Int)) (Int32.ofInt (tr : Int)) (Int32.ofInt (n : Int)) (Int32.ofInt (d : Int)) σ = some (am_wL τ3 12 0 82 (Int64.ofInt (sd d n (sx w1 w2 hs rd)))) := by
    simp (disch := omega) only [f_X12_square_11, y1, z1, l1, dt, Option.bind_some, qi, ql, qI_lt, qI_le, qI_eq, qI_L, qI_ix, qL_lt, qL_eq, q_nat, q_cs, ← Int32.ofInt_add, ← Int32.ofInt_sub, ← Int32.ofInt_mul, ← Int32.ofInt_neg, ← Int64.ofInt_add, ← Int64.ofInt_sub, ← Int64.ofInt_mul, ← Int64.ofInt_neg, pL_I, q_mx, q_mn, q_ab, q_abL, q_mnL, q_nn0, q_nn1, q_rr, q_b1, q_b0, q_T, q_F, q_iT, q_iF, q_d, q_in, q_wi, q_hC, q_hM, pT_i, pU_i, pS_i, pS_j, pS_0, Sum.elim_inl, Sum.elim_inr, if_pos, if_neg]
  unfold f_X12_square
  by_cases ci : i1 = i2
  · rw [if_pos ci] at hd
    rw [if_pos (by rw [ci])]
    subst hd
    exact body
  · rw [if_neg ci] at hd
    rw [if_neg (by rw [qI_eq (by omega) (by omega) (by omega) (by omega)]; omega)]
    subst hd
    exact body
