theorem pn_class {σ : am_H} {a n wc : Nat} {ws : Nat → Nat → Int} {zr : Int} {hs rd : Nat → Int} (hn : n ≤ 24) (C : ph_C σ a wc ws zr) (G : pg_C σ 0 n hs rd) (hb : ∀ j, j < n → (0 ≤ hs j ∧ hs j ≤ 99999) ∧ (-999 ≤ rd j ∧ rd j ≤ 1000)) : ∃ τ : am_H, f_X0_findNeighbour a 0 σ = some τ ∧ qf [(0, 3), (0, 7), (0, 8), (100, 999)] σ τ ∧ pn_C τ (fun r g => (1 ≤ r ∧ r ≤ 24) ∧ (0 ≤ g ∧ g ≤ 23)) (pn_d ws wc hs rd n) := by
  obtain ⟨τ, k1, q1, s1⟩ := am_loop_1 (B := fun t : Int32 × am_H => f_X0_findNeighbour_7 a 0 t.1 t.2) (fun N t => ∃ (g : Int) (ρ : am_H), t = (Int32.ofInt g, ρ) ∧ (0 ≤ g ∧ g ≤ 24) ∧ qf [(0, 3), (0, 7), (0, 8), (100, 999)] σ ρ ∧ pn_C ρ (fun r' g' => (1 ≤ r' ∧ r' ≤ 24) ∧ (0 ≤ g' ∧ g' < g)) (pn_d ws wc hs rd n) ∧ N = (24 - g).toNat) (fun ρ => qf [(0, 3), (0, 7), (0, 8), (100, 999)] σ ρ ∧ pn_C ρ (fun r g => (1 ≤ r ∧ r ≤ 24) ∧ (0 ≤ g ∧ g ≤ 23)) (pn_d ws wc hs rd n)) (by
    rintro N t ⟨g, ρ, rfl, gb, hq, hS, rfl⟩
    by_cases ce : g < 24
    · right
      obtain ⟨ρ1, l1, q1, d1⟩ := am_loop_1 (B := fun t : Int32 × am_H => f_X0_findNeighbour_16 a 0 (Int32.ofInt g) t.1 t.2) (fun N t => ∃ (i : Nat) (π : am_H), t = (Int32.ofInt i, π) ∧ i ≤ n ∧ qf [(100, 999)] ρ π ∧ (∀ j, j < i → π.1 100 0 j = Int32.ofInt (pn_L ws (hs j) g wc)) ∧ N = n - i) (fun π => qf [(100, 999)] ρ π ∧ ∀ j, j < n → π.1 100 0 j = Int32.ofInt (pn_L ws (hs j) g wc)) (by
        rintro N t ⟨i, π, rfl, hi, hp, hj, rfl⟩
        have Q : qf [(0, 3), (0, 7), (0, 8), (100, 999)] σ π := hq.tr (hp.mo (by decide))
        have Gt := pg_Cq (Q.a (by decide +kernel)) G
        have Ct := ph_Cq (Q.a (by decide +kernel)) C
        have g0 := Gt.1
        by_cases ci : i < n
        · right
          have gh := (Gt.2 i ci).1
          have bi := hb i ci
          have lc := pn_LC Ct (h := hs i) (g := g) (by omega) (by omega) (by omega) (by omega)
          refine ⟨(Int32.ofInt ((i : Int) + 1), am_wI π 100 0 i (Int32.ofInt (pn_L ws (hs i) g wc))), n - (i + 1), ?_, by omega, i + 1, _, rfl, by omega, hp.wI rfl, fun j hj' => ?_, rfl⟩
          · simp (disch := omega) only [f_X0_findNeighbour_16, g0, gh, lc, Option.bind_some, qi, ql, qI_lt, qI_le, qI_eq, qI_L, qI_ix, qL_lt, qL_eq, q_nat, q_cs, ← Int32.ofInt_add, ← Int32.ofInt_sub, ← Int32.ofInt_mul, ← Int32.ofInt_neg, ← Int64.ofInt_add, ← Int64.ofInt_sub, ← Int64.ofInt_mul, ← Int64.ofInt_neg, pL_I, q_mx, q_mn, q_ab, q_abL, q_mnL, q_nn0, q_nn1, q_rr, q_b1, q_b0, q_T, q_F, q_iT, q_iF, q_d, q_in, q_wi, q_hC, q_hM, pT_i, pU_i, pS_i, pS_j, pS_0, Sum.elim_inl, Sum.elim_inr, if_pos, if_neg]
          · by_cases cj : j = i
            · subst cj
              simp [am_wI, am_u3]
            · have := hj j (by omega)
              simp [am_wI, am_u3, cj]
              exact this
        · left
          have : i = n := by omega
          subst this
          refine ⟨π, ?_, hp, hj⟩
          simp (disch := omega) only [f_X0_findNeighbour_16, g0, Option.bind_some, qi, ql, qI_lt, qI_le, qI_eq, qI_L, qI_ix, qL_lt, qL_eq, q_nat, q_cs, ← Int32.ofInt_add, ← Int32.ofInt_sub, ← Int32.ofInt_mul, ← Int32.ofInt_neg, ← Int64.ofInt_add, ← Int64.ofInt_sub, ← Int64.ofInt_mul, ← Int64.ofInt_neg, pL_I, q_mx, q_mn, q_ab, q_abL, q_mnL, q_nn0, q_nn1, q_rr, q_b1, q_b0, q_T, q_F, q_iT, q_iF, q_d, q_in, q_wi, q_hC, q_hM, pT_i, pU_i, pS_i, pS_j, pS_0, Sum.elim_inl, Sum.elim_inr, if_pos, if_neg]) n (Int32.ofInt 0, ρ) ⟨0, ρ, rfl, by omega, qf.rf, fun j hj => by omega, rfl⟩
      have S1 : pn_C ρ1 (fun r' g' => (1 ≤ r' ∧ r' ≤ 24) ∧ (0 ≤ g' ∧ g' < g)) (pn_d ws wc hs rd n) := by
        unfold pn_C
        rw [(q1 0 0 7 rfl).1, (q1 0 0 8 rfl).1, (q1 0 0 3 rfl).1]
        exact hS
      obtain ⟨ρ2, l2, q2, S2⟩ := am_loop_1 (B := fun t : Int32 × am_H => f_X0_findNeighbour_54 a 0 (Int32.ofInt g) t.1 t.2) (fun N t => ∃ (r : Int) (π : am_H), t = (Int32.ofInt r, π) ∧ (1 ≤ r ∧ r ≤ 25) ∧ qf [(0, 3), (0, 7), (0, 8)] ρ1 π ∧ pn_C π (fun r' g' => (1 ≤ r' ∧ r' ≤ 24) ∧ (0 ≤ g' ∧ (g' < g ∨ (g' = g ∧ r' < r)))) (pn_d ws wc hs rd n) ∧ N = (25 - r).toNat) (fun π => qf [(0, 3), (0, 7), (0, 8)] ρ1 π ∧ pn_C π (fun r' g' => (1 ≤ r' ∧ r' ≤ 24) ∧ (0 ≤ g' ∧ g' < g + 1)) (pn_d ws wc hs rd n)) (by
        rintro N t ⟨r, π, rfl, rb, hp, hS', rfl⟩
        by_cases cr : 24 < r
        · left
          refine ⟨π, ?_, hp, ?_⟩
          · simp (disch := omega) only [f_X0_findNeighbour_54, Option.bind_some, qi, ql, qI_lt, qI_le, qI_eq, qI_L, qI_ix, qL_lt, qL_eq, q_nat, q_cs, ← Int32.ofInt_add, ← Int32.ofInt_sub, ← Int32.ofInt_mul, ← Int32.ofInt_neg, ← Int64.ofInt_add, ← Int64.ofInt_sub, ← Int64.ofInt_mul, ← Int64.ofInt_neg, pL_I, q_mx, q_mn, q_ab, q_abL, q_mnL, q_nn0, q_nn1, q_rr, q_b1, q_b0, q_T, q_F, q_iT, q_iF, q_d, q_in, q_wi, q_hC, q_hM, pT_i, pU_i, pS_i, pS_j, pS_0, Sum.elim_inl, Sum.elim_inr, if_pos, if_neg]
          · have e : (fun r' g' : Int => (1 ≤ r' ∧ r' ≤ 24) ∧ (0 ≤ g' ∧ (g' < g ∨ (g' = g ∧ r' < r)))) = (fun r' g' : Int => (1 ≤ r' ∧ r' ≤ 24) ∧ (0 ≤ g' ∧ g' < g + 1)) := funext fun x => funext fun y => propext (by omega)
            rw [e] at hS'
            exact hS'
        · right
          have Q : qf [(0, 3), (0, 7), (0, 8), (100, 999)] σ π := (hq.tr (q1.mo (by decide))).tr (hp.mo (by decide))
          obtain ⟨π', e1, e2, e3⟩ := pn_weigh (V' := fun r' g' => (1 ≤ r' ∧ r' ≤ 24) ∧ (0 ≤ g' ∧ (g' < g ∨ (g' = g ∧ r' < r + 1)))) (r := r) (g := g) hn (ph_Cq (Q.a (by decide +kernel)) C) (pg_Cq (Q.a (by decide +kernel)) G) hb (fun j hj => by rw [(hp 100 0 j rfl).1]; exact d1 j hj) rb.1 (by omega) gb.1 (by omega) hS' (fun x y => by omega) (fun x y h => by omega)
          refine ⟨(Int32.ofInt (r + 1), π'), (25 - (r + 1)).toNat, ?_, by omega, r + 1, π', rfl, by omega, hp.tr e2, e3, rfl⟩
          simp (disch := omega) only [f_X0_findNeighbour_54, e1, Option.bind_some, qi, ql, qI_lt, qI_le, qI_eq, qI_L, qI_ix, qL_lt, qL_eq, q_nat, q_cs, ← Int32.ofInt_add, ← Int32.ofInt_sub, ← Int32.ofInt_mul, ← Int32.ofInt_neg, ← Int64.ofInt_add, ← Int64.ofInt_sub, ← Int64.ofInt_mul, ← Int64.ofInt_neg, pL_I, q_mx, q_mn, q_ab, q_abL, q_mnL, q_nn0, q_nn1, q_rr, q_b1, q_b0, q_T, q_F, q_iT, q_iF, q_d, q_in, q_wi, q_hC, q_hM, pT_i, pU_i, pS_i, pS_j, pS_0, Sum.elim_inl, Sum.elim_inr, if_pos, if_neg]) _ (Int32.ofInt 1, ρ1) ⟨1, ρ1, rfl, by omega, qf.rf, by
        have e : (fun r' g' : Int => (1 ≤ r' ∧ r' ≤ 24) ∧ (0 ≤ g' ∧ (g' < g ∨ (g' = g ∧ r' < 1)))) = (fun r' g' : Int => (1 ≤ r' ∧ r' ≤ 24) ∧ (0 ≤ g' ∧ g' < g)) := funext fun x => funext fun y => propext (by omega)
        rw [e]
        exact S1, rfl⟩
      refine ⟨(Int32.ofInt (g + 1), ρ2), (24 - (g + 1)).toNat, ?_, by omega, g + 1, ρ2, rfl, by omega, (hq.tr (q1.mo (by decide))).tr (q2.mo (by decide)), S2, rfl⟩
      simp (disch := omega) only [f_X0_findNeighbour_7, l1, l2, Option.bind_some, qi, ql, qI_lt, qI_le, qI_eq, qI_L, qI_ix, qL_lt, qL_eq, q_nat, q_cs, ← Int32.ofInt_add, ← Int32.ofInt_sub, ← Int32.ofInt_mul, ← Int32.ofInt_neg, ← Int64.ofInt_add, ← Int64.ofInt_sub, ← Int64.ofInt_mul, ← Int64.ofInt_neg, pL_I, q_mx, q_mn, q_ab, q_abL, q_mnL, q_nn0, q_nn1, q_rr, q_b1, q_b0, q_T, q_F, q_iT, q_iF, q_d, q_in, q_wi, q_hC, q_hM, pT_i, pU_i, pS_i, pS_j, pS_0, Sum.elim_inl, Sum.elim_inr, if_pos, if_neg]
    · left
      refine ⟨ρ, ?_, hq, ?_⟩
      · simp (disch := omega) only [f_X0_findNeighbour_7, Option.bind_some, qi, ql, qI_lt, qI_le, qI_eq, qI_L, qI_ix, qL_lt, qL_eq, q_nat, q_cs, ← Int32.ofInt_add, ← Int32.ofInt_sub, ← Int32.ofInt_mul, ← Int32.ofInt_neg, ← Int64.ofInt_add, ← Int64.ofInt_sub, ← Int64.ofInt_mul, ← Int64.ofInt_neg, pL_I, q_mx, q_mn, q_ab, q_abL, q_mnL, q_nn0, q_nn1, q_rr, q_b1, q_b0, q_T, q_F, q_iT, q_iF, q_d, q_in, q_wi, q_hC, q_hM, pT_i, pU_i, pS_i, pS_j, pS_0, Sum.elim_inl, Sum.elim_inr, if_pos, if_neg]
      · have e : (fun r' g' : Int => (1 ≤ r' ∧ r' ≤ 24) ∧ (0 ≤ g' ∧ g' < g)) = (fun r' g' : Int => (1 ≤ r' ∧ r' ≤ 24) ∧ (0 ≤ g' ∧ g' ≤ 23)) := funext fun x => funext fun y => propext (by omega)
        rw [e] at hS
        exact hS) _ (Int32.ofInt 0, am_wI σ 0 0 7 (Int32.ofInt (-1))) ⟨0, _, rfl, by omega, qf.rf.wI rfl, Or.inl ⟨rfl, fun r g h => by omega⟩, rfl⟩
  refine ⟨τ, ?_, q1, s1⟩
  simp (disch := omega) only [f_X0_findNeighbour, k1, Option.bind_some, qi, ql, qI_lt, qI_le, qI_eq, qI_L, qI_ix, qL_lt, qL_eq, q_nat, q_cs, ← Int32.ofInt_add, ← Int32.ofInt_sub, ← Int32.ofInt_mul, ← Int32.ofInt_neg, ← Int64.ofInt_add, ← Int64.ofInt_sub, ← Int64.ofInt_mul, ← Int64.ofInt_neg, pL_I, q_mx, q_mn, q_ab, q_abL, q_mnL, q_nn0, q_nn1, q_rr, q_b1, q_b0, q_T, q_F, q_iT, q_iF, q_d, q_in, q_wi, q_hC, q_hM, pT_i, pU_i, pS_i, pS_j, pS_0, Sum.elim_inl, Sum.elim_inr, if_pos, if_neg]
def pn_M (σ : am_H) (b : Int) (l : Int) (V : Int → Int → Prop) (d : Int → Int → Int) : Prop := (l = -1 ∧ ∀ r g, ¬ V r g) ∨ ∃ g : Int, (1 ≤ b ∧ b ≤ 24) ∧ (0 ≤ g ∧ g ≤ 23) ∧ σ.1 12 0 41 = Int32.ofInt g ∧ l = d b g ∧ pn_ok V d b g
theorem pn_ref {σ : am_H} {m th tr n wc : Nat} {ws : Nat → Nat → Int} {z : Int} {hs rd : Nat → Int} (hm : m < 3) (hth : th < 5) (htr : tr < 5) (hn : n ≤ 24) (M : ph_M σ m wc ws z) (G : pg_M σ th tr n hs rd) : ∃ (τ : am_H) (b l : Int), am_loop (fun t : Int32 × Int64 × Int32 × am_H => f_X12_neighbour_39 (Int32.ofInt m) (Int32.ofInt th) (Int32.ofInt tr) (Int32.ofInt n) t.1 t.2.1 t.2.2.1 t.2.2.2) (Int32.ofInt 0, Int64.ofInt (-1), Int32.ofInt 1, σ) = some (Int32.ofInt b, τ) ∧ qf [(12, 41)] σ τ ∧ pn_M τ b l (fun r g => (1 ≤ r ∧ r ≤ 24) ∧ (0 ≤ g ∧ g ≤ 23)) (pn_d ws wc hs rd n) := by
  have db := fun (r g : Int) (r1 : 1 ≤ r) (r2 : r ≤ 24) => pn_db (ws := ws) (wc := wc) (hs := hs) (rd := rd) (n := n) (r := r) (g := g) (fun i hi => (M.2.2.2.2 i hi).1) M.1 hn (fun j hj => (G j hj).2.2.2) r1 r2
  have lb : ∀ {ρ : am_H} {b l : Int} {V : Int → Int → Prop}, pn_M ρ b l V (pn_d ws wc hs rd n) → -1 ≤ l ∧ l ≤ 10000000 := by
    rintro ρ b l V (⟨rfl, -⟩ | ⟨g, bb, gb, -, rfl, -⟩)
    · omega
    · have := db b g bb.1 bb.2
      omega
  obtain ⟨w, k1, τ, b, l, rfl, q1, s1⟩ := am_loop_1 (B := fun t : Int32 × Int64 × Int32 × am_H => f_X12_neighbour_39 (Int32.ofInt m) (Int32.ofInt th) (Int32.ofInt tr) (Int32.ofInt n) t.1 t.2.1 t.2.2.1 t.2.2.2) (fun N t => ∃ (b l r : Int) (ρ : am_H), t = (Int32.ofInt b, Int64.ofInt l, Int32.ofInt r, ρ) ∧ (1 ≤ r ∧ r ≤ 25) ∧ qf [(12, 41)] σ ρ ∧ pn_M ρ b l (fun r' g' => (1 ≤ r' ∧ r' < r) ∧ (0 ≤ g' ∧ g' ≤ 23)) (pn_d ws wc hs rd n) ∧ N = (25 - r).toNat) (fun w => ∃ (τ : am_H) (b l : Int), w = (Int32.ofInt b, τ) ∧ qf [(12, 41)] σ τ ∧ pn_M τ b l (fun r g => (1 ≤ r ∧ r ≤ 24) ∧ (0 ≤ g ∧ g ≤ 23)) (pn_d ws wc hs rd n)) (by
    rintro N t ⟨b, l, r, ρ, rfl, rb, hq, hS, rfl⟩
    by_cases cr : 24 < r
    · left
      refine ⟨(Int32.ofInt b, ρ), ?_, ρ, b, l, rfl, hq, ?_⟩
      · simp (disch := omega) only [f_X12_neighbour_39, Option.bind_some, qi, ql, qI_lt, qI_le, qI_eq, qI_L, qI_ix, qL_lt, qL_eq, q_nat, q_cs, ← Int32.ofInt_add, ← Int32.ofInt_sub, ← Int32.ofInt_mul, ← Int32.ofInt_neg, ← Int64.ofInt_add, ← Int64.ofInt_sub, ← Int64.ofInt_mul, ← Int64.ofInt_neg, pL_I, q_mx, q_mn, q_ab, q_abL, q_mnL, q_nn0, q_nn1, q_rr, q_b1, q_b0, q_T, q_F, q_iT, q_iF, q_d, q_in, q_wi, q_hC, q_hM, pT_i, pU_i, pS_i, pS_j, pS_0, Sum.elim_inl, Sum.elim_inr, if_pos, if_neg]
      · have e : (fun r' g' : Int => (1 ≤ r' ∧ r' < r) ∧ (0 ≤ g' ∧ g' ≤ 23)) = (fun r' g' : Int => (1 ≤ r' ∧ r' ≤ 24) ∧ (0 ≤ g' ∧ g' ≤ 23)) := funext fun x => funext fun y => propext (by omega)
        rw [e] at hS
        exact hS
    · right
      obtain ⟨w, l1, b', l', ρ', rfl, q1, S1⟩ := am_loop_1 (B := fun t : Int32 × Int64 × Int32 × am_H => f_X12_neighbour_49 (Int32.ofInt m) (Int32.ofInt th) (Int32.ofInt tr) (Int32.ofInt n) t.1 t.2.1 (Int32.ofInt r) t.2.2.1 t.2.2.2) (fun N t => ∃ (b l g : Int) (π : am_H), t = (Int32.ofInt b, Int64.ofInt l, Int32.ofInt g, π) ∧ (0 ≤ g ∧ g ≤ 24) ∧ qf [(12, 41)] σ π ∧ pn_M π b l (fun r' g' => (1 ≤ r' ∧ (r' < r ∨ (r' = r ∧ g' < g))) ∧ (0 ≤ g' ∧ g' ≤ 23)) (pn_d ws wc hs rd n) ∧ N = (24 - g).toNat) (fun w => ∃ (b l : Int) (π : am_H), w = (Int32.ofInt b, Int64.ofInt l, π) ∧ qf [(12, 41)] σ π ∧ pn_M π b l (fun r' g' => (1 ≤ r' ∧ r' < r + 1) ∧ (0 ≤ g' ∧ g' ≤ 23)) (pn_d ws wc hs rd n)) (by
        rintro N t ⟨b, l, g, π, rfl, gb, hp, hS', rfl⟩
        by_cases cg : g < 24
        · right
          have th' := pn_there hm hth htr hn (ph_Mq (hp.a (by decide +kernel)) M) (pg_Mq (hp.a (by decide +kernel)) G) rb.1 (by omega : r ≤ 24) gb.1 (by omega : g ≤ 23)
          have d0 := db r g rb.1 (by omega)
          have lb' := lb hS'
          have new : pn_ok (fun r' g' => (1 ≤ r' ∧ (r' < r ∨ (r' = r ∧ g' < g + 1))) ∧ (0 ≤ g' ∧ g' ≤ 23)) (pn_d ws wc hs rd n) r g → pn_M (am_wI π 12 0 41 (Int32.ofInt g)) r (pn_d ws wc hs rd n r g) (fun r' g' => (1 ≤ r' ∧ (r' < r ∨ (r' = r ∧ g' < g + 1))) ∧ (0 ≤ g' ∧ g' ≤ 23)) (pn_d ws wc hs rd n) := fun hk => Or.inr ⟨g, by omega, by omega, rfl, rfl, hk⟩
          by_cases cl : l < 0
          · refine ⟨(Int32.ofInt r, Int64.ofInt (pn_d ws wc hs rd n r g), Int32.ofInt (g + 1), am_wI π 12 0 41 (Int32.ofInt g)), (24 - (g + 1)).toNat, ?_, by omega, _, _, _, _, rfl, by omega, hp.wI rfl, new ⟨by omega, fun x y hx => ?_⟩, rfl⟩
            · simp (disch := omega) only [f_X12_neighbour_49, f_X12_neighbour_89, th', Option.bind_some, qi, ql, qI_lt, qI_le, qI_eq, qI_L, qI_ix, qL_lt, qL_eq, q_nat, q_cs, ← Int32.ofInt_add, ← Int32.ofInt_sub, ← Int32.ofInt_mul, ← Int32.ofInt_neg, ← Int64.ofInt_add, ← Int64.ofInt_sub, ← Int64.ofInt_mul, ← Int64.ofInt_neg, pL_I, q_mx, q_mn, q_ab, q_abL, q_mnL, q_nn0, q_nn1, q_rr, q_b1, q_b0, q_T, q_F, q_iT, q_iF, q_d, q_in, q_wi, q_hC, q_hM, pT_i, pU_i, pS_i, pS_j, pS_0, Sum.elim_inl, Sum.elim_inr, if_pos, if_neg]
            · rcases hS' with ⟨-, hno⟩ | ⟨g', bb, gb', -, rfl, -⟩
              · by_cases ex : x = r ∧ y = g
                · obtain ⟨rfl, rfl⟩ := ex
                  omega
                · exact absurd (show (1 ≤ x ∧ (x < r ∨ (x = r ∧ y < g))) ∧ (0 ≤ y ∧ y ≤ 23) by omega) (hno x y)
              · have := db b g' bb.1 bb.2
                omega
          · rcases hS' with ⟨hl, -⟩ | ⟨g', bb, gb', e41, hl, hok⟩
            · omega
            · by_cases cd : pn_d ws wc hs rd n r g < l
              · refine ⟨(Int32.ofInt r, Int64.ofInt (pn_d ws wc hs rd n r g), Int32.ofInt (g + 1), am_wI π 12 0 41 (Int32.ofInt g)), (24 - (g + 1)).toNat, ?_, by omega, _, _, _, _, rfl, by omega, hp.wI rfl, new ⟨by omega, fun x y hx => ?_⟩, rfl⟩
                · simp (disch := omega) only [f_X12_neighbour_49, f_X12_neighbour_89, th', Option.bind_some, qi, ql, qI_lt, qI_le, qI_eq, qI_L, qI_ix, qL_lt, qL_eq, q_nat, q_cs, ← Int32.ofInt_add, ← Int32.ofInt_sub, ← Int32.ofInt_mul, ← Int32.ofInt_neg, ← Int64.ofInt_add, ← Int64.ofInt_sub, ← Int64.ofInt_mul, ← Int64.ofInt_neg, pL_I, q_mx, q_mn, q_ab, q_abL, q_mnL, q_nn0, q_nn1, q_rr, q_b1, q_b0, q_T, q_F, q_iT, q_iF, q_d, q_in, q_wi, q_hC, q_hM, pT_i, pU_i, pS_i, pS_j, pS_0, Sum.elim_inl, Sum.elim_inr, if_pos, if_neg]
                · by_cases ex : x = r ∧ y = g
                  · obtain ⟨rfl, rfl⟩ := ex
                    omega
                  · have := hok.2 x y (by omega)
                    omega
              · refine ⟨(Int32.ofInt b, Int64.ofInt l, Int32.ofInt (g + 1), π), (24 - (g + 1)).toNat, ?_, by omega, _, _, _, _, rfl, by omega, hp, Or.inr ⟨g', bb, gb', e41, hl, by have := hok.1; omega, fun x y hx => ?_⟩, rfl⟩
                · simp (disch := omega) only [f_X12_neighbour_49, th', Option.bind_some, qi, ql, qI_lt, qI_le, qI_eq, qI_L, qI_ix, qL_lt, qL_eq, q_nat, q_cs, ← Int32.ofInt_add, ← Int32.ofInt_sub, ← Int32.ofInt_mul, ← Int32.ofInt_neg, ← Int64.ofInt_add, ← Int64.ofInt_sub, ← Int64.ofInt_mul, ← Int64.ofInt_neg, pL_I, q_mx, q_mn, q_ab, q_abL, q_mnL, q_nn0, q_nn1, q_rr, q_b1, q_b0, q_T, q_F, q_iT, q_iF, q_d, q_in, q_wi, q_hC, q_hM, pT_i, pU_i, pS_i, pS_j, pS_0, Sum.elim_inl, Sum.elim_inr, if_pos, if_neg]
                · by_cases ex : x = r ∧ y = g
                  · obtain ⟨rfl, rfl⟩ := ex
                    have := hok.1
                    omega
                  · exact hok.2 x y (by omega)
        · left
          refine ⟨(Int32.ofInt b, Int64.ofInt l, π), ?_, b, l, π, rfl, hp, ?_⟩
          · simp (disch := omega) only [f_X12_neighbour_49, Option.bind_some, qi, ql, qI_lt, qI_le, qI_eq, qI_L, qI_ix, qL_lt, qL_eq, q_nat, q_cs, ← Int32.ofInt_add, ← Int32.ofInt_sub, ← Int32.ofInt_mul, ← Int32.ofInt_neg, ← Int64.ofInt_add, ← Int64.ofInt_sub, ← Int64.ofInt_mul, ← Int64.ofInt_neg, pL_I, q_mx, q_mn, q_ab, q_abL, q_mnL, q_nn0, q_nn1, q_rr, q_b1, q_b0, q_T, q_F, q_iT, q_iF, q_d, q_in, q_wi, q_hC, q_hM, pT_i, pU_i, pS_i, pS_j, pS_0, Sum.elim_inl, Sum.elim_inr, if_pos, if_neg]
          · have e : (fun r' g' : Int => (1 ≤ r' ∧ (r' < r ∨ (r' = r ∧ g' < g))) ∧ (0 ≤ g' ∧ g' ≤ 23)) = (fun r' g' : Int => (1 ≤ r' ∧ r' < r + 1) ∧ (0 ≤ g' ∧ g' ≤ 23)) := funext fun x => funext fun y => propext (by omega)
            rw [e] at hS'
            exact hS') _ (Int32.ofInt b, Int64.ofInt l, Int32.ofInt 0, ρ) ⟨b, l, 0, ρ, rfl, by omega, hq, by
        have e : (fun r' g' : Int => (1 ≤ r' ∧ (r' < r ∨ (r' = r ∧ g' < 0))) ∧ (0 ≤ g' ∧ g' ≤ 23)) = (fun r' g' : Int => (1 ≤ r' ∧ r' < r) ∧ (0 ≤ g' ∧ g' ≤ 23)) := funext fun x => funext fun y => propext (by omega)
        rw [e]
        exact hS, rfl⟩
      refine ⟨(Int32.ofInt b', Int64.ofInt l', Int32.ofInt (r + 1), ρ'), (25 - (r + 1)).toNat, ?_, by omega, b', l', r + 1, ρ', rfl, by omega, q1, S1, rfl⟩
      simp (disch := omega) only [f_X12_neighbour_39, l1, Option.bind_some, qi, ql, qI_lt, qI_le, qI_eq, qI_L, qI_ix, qL_lt, qL_eq, q_nat, q_cs, ← Int32.ofInt_add, ← Int32.ofInt_sub, ← Int32.ofInt_mul, ← Int32.ofInt_neg, ← Int64.ofInt_add, ← Int64.ofInt_sub, ← Int64.ofInt_mul, ← Int64.ofInt_neg, pL_I, q_mx, q_mn, q_ab, q_abL, q_mnL, q_nn0, q_nn1, q_rr, q_b1, q_b0, q_T, q_F, q_iT, q_iF, q_d, q_in, q_wi, q_hC, q_hM, pT_i, pU_i, pS_i, pS_j, pS_0, Sum.elim_inl, Sum.elim_inr, if_pos, if_neg]) _ (Int32.ofInt 0, Int64.ofInt (-1), Int32.ofInt 1, σ) ⟨0, -1, 1, σ, rfl, by omega, qf.rf, Or.inl ⟨rfl, fun r g h => by omega⟩, rfl⟩
  exact ⟨τ, b, l, k1, q1, s1⟩
theorem po_25 : am_op_25 pr_Rel := by
  intro σ1 σ2 h v1 v2 v3 v4
  obtain ⟨x, x1, x2, rfl⟩ := q_ex v1
  obtain ⟨t, t1, t2, rfl⟩ := q_ex v2
  obtain ⟨u, u1, u2, rfl⟩ := q_ex v3
  obtain ⟨k, k1, k2, rfl⟩ := q_ex v4
  obtain ⟨c, τ, ⟨c0, c5⟩, e1, e2, hq, hc⟩ := pg_ask h.2.U x1 x2 t1 t2 u1 u2 k1 k2 true
  by_cases cc : c = 0
  · subst cc
    obtain ⟨wl, m, a, th, tr, n, hs, rd, ⟨hm, ha, hth, htr⟩, hn, rfl, rfl, rfl, rfl, hr, MM, G, GM⟩ := hc rfl
    obtain ⟨wc, ws, zr, sl, kc, kw, kt, C, M, -⟩ := MM
    have M' : ph_M (pS σ2 0) m wc ws (max zr 0) := M
    have GM' : pg_M (pS σ2 0) th tr n hs rd := GM
    obtain ⟨ρ, f1, q1, S1⟩ := pn_class hn.2 C G (fun j hj => (GM j hj).2.2)
    obtain ⟨π, b, l, f2, q2, S2⟩ := pn_ref (by omega) hth htr hn.2 M' GM'
    have rr : am_rr 3 (τ.2.2 1205 0 m) = some a := by rw [hr]; exact q_rr ha
    rcases S1 with ⟨-, hno⟩ | ⟨r, g, rb, gb, s7, s8, s3, hok⟩
    · exact absurd (show (1 ≤ (1 : Int) ∧ (1 : Int) ≤ 24) ∧ (0 ≤ (0 : Int) ∧ (0 : Int) ≤ 23) by omega) (hno 1 0)
    · rcases S2 with ⟨-, hno⟩ | ⟨g', rb', gb', e41, -, hok'⟩
      · exact absurd (show (1 ≤ (1 : Int) ∧ (1 : Int) ≤ 24) ∧ (0 ≤ (0 : Int) ∧ (0 : Int) ≤ 23) by omega) (hno 1 0)
      · obtain ⟨rfl, rfl⟩ := pn_one hok hok'
        refine ⟨Int32.ofInt r, pT ρ 0, am_wI π 12 0 38 (Int32.ofInt 1), ?_, ?_, ?_, ?_⟩
        · simp (disch := omega) only [f_X11_neighbour, f_X11_answer, e1, rr, f1, s7, Option.bind_some, qi, ql, qI_lt, qI_le, qI_eq, qI_L, qI_ix, qL_lt, qL_eq, q_nat, q_cs, ← Int32.ofInt_add, ← Int32.ofInt_sub, ← Int32.ofInt_mul, ← Int32.ofInt_neg, ← Int64.ofInt_add, ← Int64.ofInt_sub, ← Int64.ofInt_mul, ← Int64.ofInt_neg, pL_I, q_mx, q_mn, q_ab, q_abL, q_mnL, q_nn0, q_nn1, q_rr, q_b1, q_b0, q_T, q_F, q_iT, q_iF, q_d, q_in, q_wi, q_hC, q_hM, pT_i, pU_i, pS_i, pS_j, pS_0, Sum.elim_inl, Sum.elim_inr, if_pos, if_neg]
        · simp (disch := omega) only [f_X12_neighbour, e2, f2, Option.bind_some, qi, ql, qI_lt, qI_le, qI_eq, qI_L, qI_ix, qL_lt, qL_eq, q_nat, q_cs, ← Int32.ofInt_add, ← Int32.ofInt_sub, ← Int32.ofInt_mul, ← Int32.ofInt_neg, ← Int64.ofInt_add, ← Int64.ofInt_sub, ← Int64.ofInt_mul, ← Int64.ofInt_neg, pL_I, q_mx, q_mn, q_ab, q_abL, q_mnL, q_nn0, q_nn1, q_rr, q_b1, q_b0, q_T, q_F, q_iT, q_iF, q_d, q_in, q_wi, q_hC, q_hM, pT_i, pU_i, pS_i, pS_j, pS_0, Sum.elim_inl, Sum.elim_inr, if_pos, if_neg]
        · show Int32.ofInt 0 = (am_wI π 12 0 38 (Int32.ofInt 1)).1 12 0 0
          exact ((q2 12 0 0 rfl).1).symm
        · refine (h.2.S 0).st [(11, 0), (1, 999), (201, 999), (202, 999), (0, 3), (0, 7), (0, 8), (100, 999)] [(12, 41), (12, 38)] [9] (by decide +kernel) (((hq.mo (by decide)).tr (q1.mo (by decide))).wI rfl) ((q2.mo (by decide)).wI rfl) ?_
          intro N hN
          rw [List.mem_singleton] at hN
          subst hN
          exact ⟨r, 1, s7, rfl, Or.inr ⟨rb, rfl, s8.trans e41.symm⟩⟩
  · refine ⟨Int32.ofInt (-1), pT τ c, pS σ2 c, ?_, ?_, (pg_core h.2 hq).TS c⟩
    · simp (disch := omega) only [f_X11_neighbour, f_X11_none, e1, Option.bind_some, qi, ql, qI_lt, qI_le, qI_eq, qI_L, qI_ix, qL_lt, qL_eq, q_nat, q_cs, ← Int32.ofInt_add, ← Int32.ofInt_sub, ← Int32.ofInt_mul, ← Int32.ofInt_neg, ← Int64.ofInt_add, ← Int64.ofInt_sub, ← Int64.ofInt_mul, ← Int64.ofInt_neg, pL_I, q_mx, q_mn, q_ab, q_abL, q_mnL, q_nn0, q_nn1, q_rr, q_b1, q_b0, q_T, q_F, q_iT, q_iF, q_d, q_in, q_wi, q_hC, q_hM, pT_i, pU_i, pS_i, pS_j, pS_0, Sum.elim_inl, Sum.elim_inr, if_pos, if_neg]
    · simp (disch := omega) only [f_X12_neighbour, e2, Option.bind_some, qi, ql, qI_lt, qI_le, qI_eq, qI_L, qI_ix, qL_lt, qL_eq, q_nat, q_cs, ← Int32.ofInt_add, ← Int32.ofInt_sub, ← Int32.ofInt_mul, ← Int32.ofInt_neg, ← Int64.ofInt_add, ← Int64.ofInt_sub, ← Int64.ofInt_mul, ← Int64.ofInt_neg, pL_I, q_mx, q_mn, q_ab, q_abL, q_mnL, q_nn0, q_nn1, q_rr, q_b1, q_b0, q_T, q_F, q_iT, q_iF, q_d, q_in, q_wi, q_hC, q_hM, pT_i, pU_i, pS_i, pS_j, pS_0, Sum.elim_inl, Sum.elim_inr, if_pos, if_neg]
