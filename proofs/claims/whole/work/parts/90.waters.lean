/-! ===== HIGH and LOW WATERS ===== -/
def ph_sw (ws : Nat → Nat → Int) : Nat → Int
  | 0 => 0
  | n + 1 => ph_sw ws n + 12 * ws n 2
theorem ph_swb {ws : Nat → Nat → Int} {n : Nat} (hw : ∀ i, i < n → pw_ok (ws i)) : 0 ≤ ph_sw ws n ∧ ph_sw ws n ≤ 1188 * n := by
  induction n with
  | zero => show 0 ≤ (0 : Int) ∧ (0 : Int) ≤ _; omega
  | succ n ih =>
    have ih := ih (fun i hi => hw i (by omega))
    obtain ⟨-, -, ⟨a1, a2⟩, -⟩ := hw n (by omega)
    show 0 ≤ ph_sw ws n + 12 * ws n 2 ∧ ph_sw ws n + 12 * ws n 2 ≤ 1188 * ((n + 1 : Nat) : Int)
    omega
theorem ph_swh {ws : Nat → Nat → Int} {z h : Int} {b : Bool} {n : Nat} (hw : ∀ i, i < n → pw_ok (ws i)) : 12 * z - ph_sw ws n ≤ ph_sum ws z h b n ∧ ph_sum ws z h b n ≤ 12 * z + ph_sw ws n := by
  induction n with
  | zero => show 12 * z - 0 ≤ 12 * z ∧ 12 * z ≤ 12 * z + 0; omega
  | succ n ih =>
    have ih := ih (fun i hi => hw i (by omega))
    obtain ⟨-, -, ⟨a1, a2⟩, -⟩ := hw n (by omega)
    have c := pc_b (pw_place (ws n) h b)
    have e1 : ws n 2 * pc_cos (pw_place (ws n) h b) ≤ ws n 2 * 12 := Int.mul_le_mul_of_nonneg_left c.2 a1
    have e2 : ws n 2 * (-12) ≤ ws n 2 * pc_cos (pw_place (ws n) h b) := Int.mul_le_mul_of_nonneg_left c.1 a1
    show 12 * z - (ph_sw ws n + 12 * ws n 2) ≤ ph_sum ws z h b n + ws n 2 * pc_cos (pw_place (ws n) h b) ∧ ph_sum ws z h b n + ws n 2 * pc_cos (pw_place (ws n) h b) ≤ 12 * z + (ph_sw ws n + 12 * ws n 2)
    omega
/-- both sides' heights, and how far they swing -/
def pr_HH (σ1 σ2 : am_H) (m a : Nat) (H : Bool → Int → Int) (S Z : Int) : Prop := (∀ b h, 0 ≤ h → h ≤ 200000 → f_X3_heightAt a (Int64.ofInt h) b σ1 = some (Int32.ofInt (H b h)) ∧ f_X12_heightOf (Int32.ofInt m) (Int32.ofInt h) b σ2 = some (Int32.ofInt (H b h)) ∧ -9000 ≤ H b h ∧ H b h ≤ 9000) ∧ f_X3_mostSwing a σ1 = some (Int32.ofInt S) ∧ f_X3_zeroHeight a σ1 = some (Int32.ofInt Z) ∧ (0 ≤ S ∧ S ≤ 8000) ∧ (0 ≤ Z ∧ Z ≤ 1188) ∧ ∀ b h, 0 ≤ h → h ≤ 200000 → Z - S ≤ H b h ∧ H b h ≤ Z + S
theorem pr_HHe {σ1 σ2 : am_H} {m a : Nat} (hm : m < 3) (M : pr_mach σ1 σ2 m a) : ∃ H S Z, pr_HH σ1 σ2 m a H S Z := by
  obtain ⟨wc, ws, zr, sl, kc, kw, kt, C, M, -⟩ := M
  have hz := ph_zero C
  refine ⟨fun b h => ph_sum ws (max zr 0) h b wc, ph_sw ws wc, 12 * max zr 0, fun b h h0 h1 => ⟨ph_heightAt C h0 h1, ph_heightOf M hm h0 h1, ?_⟩, ?_, hz, ?_, ?_, fun b h h0 h1 => ?_⟩
  · obtain ⟨c1, -, -, ⟨z1, z2⟩, c5⟩ := C
    have hb := ph_b (ws := ws) (z := max zr 0) (h := h) (b := b) (n := wc) (by omega) (fun i hi => (c5 i hi).1)
    show -9000 ≤ ph_sum ws (max zr 0) h b wc ∧ ph_sum ws (max zr 0) h b wc ≤ 9000
    omega
  · obtain ⟨c1, c2, c3, c4, c5⟩ := C
    have lp := am_loop_n (body := fun s : Int32 × Int32 => f_X3_mostSwing_4 a s.1 s.2 σ1) (fun i => (Int32.ofInt (ph_sw ws i), Int32.ofInt i)) wc (r := Int32.ofInt (ph_sw ws wc)) ?_ ?_
    · have lp' : am_loop (fun s : Int32 × Int32 => f_X3_mostSwing_4 a s.1 s.2 σ1) (Int32.ofInt 0, Int32.ofInt 0) = some (Int32.ofInt (ph_sw ws wc)) := lp
      simp (disch := omega) only [f_X3_mostSwing, lp', Option.bind_some, qi, ql, qI_lt, qI_le, qI_eq, qI_L, qI_ix, qL_lt, qL_eq, q_nat, q_cs, ← Int32.ofInt_add, ← Int32.ofInt_sub, ← Int32.ofInt_mul, ← Int32.ofInt_neg, ← Int64.ofInt_add, ← Int64.ofInt_sub, ← Int64.ofInt_mul, ← Int64.ofInt_neg, pL_I, q_mx, q_mn, q_ab, q_abL, q_mnL, q_nn0, q_nn1, q_rr, q_b1, q_b0, q_T, q_F, q_iT, q_iF, q_d, q_in, q_wi, q_hC, q_hM, pT_i, pU_i, pS_i, pS_j, pS_0, Sum.elim_inl, Sum.elim_inr, if_pos, if_neg]
    · intro i hi
      obtain ⟨ok, Cw⟩ := c5 i hi
      have q2 : σ1.1 10 (6 * a + i) 3 = Int32.ofInt (ws i 2) := Cw.2.2.1
      simp (disch := omega) only [f_X3_mostSwing_4, c2, q2, Option.bind_some, qi, ql, qI_lt, qI_le, qI_eq, qI_L, qI_ix, qL_lt, qL_eq, q_nat, q_cs, ← Int32.ofInt_add, ← Int32.ofInt_sub, ← Int32.ofInt_mul, ← Int32.ofInt_neg, ← Int64.ofInt_add, ← Int64.ofInt_sub, ← Int64.ofInt_mul, ← Int64.ofInt_neg, pL_I, q_mx, q_mn, q_ab, q_abL, q_mnL, q_nn0, q_nn1, q_rr, q_b1, q_b0, q_T, q_F, q_iT, q_iF, q_d, q_in, q_wi, q_hC, q_hM, pT_i, pU_i, pS_i, pS_j, pS_0, Sum.elim_inl, Sum.elim_inr, if_pos, if_neg]
      try rfl
    · simp (disch := omega) only [f_X3_mostSwing_4, c2, Option.bind_some, qi, ql, qI_lt, qI_le, qI_eq, qI_L, qI_ix, qL_lt, qL_eq, q_nat, q_cs, ← Int32.ofInt_add, ← Int32.ofInt_sub, ← Int32.ofInt_mul, ← Int32.ofInt_neg, ← Int64.ofInt_add, ← Int64.ofInt_sub, ← Int64.ofInt_mul, ← Int64.ofInt_neg, pL_I, q_mx, q_mn, q_ab, q_abL, q_mnL, q_nn0, q_nn1, q_rr, q_b1, q_b0, q_T, q_F, q_iT, q_iF, q_d, q_in, q_wi, q_hC, q_hM, pT_i, pU_i, pS_i, pS_j, pS_0, Sum.elim_inl, Sum.elim_inr, if_pos, if_neg]
  · obtain ⟨c1, -, -, -, c5⟩ := C
    have := ph_swb (ws := ws) (n := wc) (fun i hi => (c5 i hi).1)
    omega
  · obtain ⟨c1, -, -, ⟨z1, z2⟩, c5⟩ := C
    omega
  · obtain ⟨c1, -, -, -, c5⟩ := C
    exact ph_swh (fun i hi => (c5 i hi).1)
/-- HIGH (LOW) WATER by heights -/
def pv_G (H : Int → Int) (g : Bool) (k : Int) : Int := if g = true then H k else -H k
def pv_W (G : Int → Int) (h : Int) : Prop := 0 < h ∧ G (h - 1) < G h ∧ ∃ k, (h < k ∧ k ≤ 100100) ∧ (∀ j, h < j → j < k → G j = G h) ∧ G k < G h
theorem pv_water {σ1 σ2 : am_H} {m a : Nat} {H : Bool → Int → Int} {S Z : Int} (hh : pr_HH σ1 σ2 m a H S Z) (g b : Bool) {h : Int} (h0 : 0 ≤ h) (h1 : h ≤ 100000) : ∃ c : Bool, f_X12_isWater (Int32.ofInt m) (Int32.ofInt h) g b σ2 = some c ∧ (c = true ↔ pv_W (pv_G (H b) g) h) := by
  obtain ⟨hH, -⟩ := hh
  by_cases hp : 0 < h
  · obtain ⟨-, e1, e2, e3⟩ := hH b h h0 (by omega)
    obtain ⟨-, f1, f2, f3⟩ := hH b (h - 1) (by omega) (by omega)
    have L : ∃ r : Int32 ⊕ Unit, am_loop (fun s : Int32 => f_X12_isWater_56 (Int32.ofInt m) g b (Int32.ofInt (H b h)) s σ2) (Int32.ofInt (h + 1)) = some r ∧ ((∃ k, (h < k ∧ k ≤ 100100) ∧ (∀ j, h < j → j < k → H b j = H b h) ∧ H b k ≠ H b h ∧ r = .inl (Int32.ofInt (H b k))) ∨ ((∀ j, h < j → j ≤ 100100 → H b j = H b h) ∧ r = .inr ())) := am_loop_1 (B := fun s : Int32 => f_X12_isWater_56 (Int32.ofInt m) g b (Int32.ofInt (H b h)) s σ2) (fun n s => ∃ k : Int, s = Int32.ofInt k ∧ (h < k ∧ k ≤ 100101) ∧ (∀ j, h < j → j < k → H b j = H b h) ∧ n = (100101 - k).toNat) (fun r => (∃ k, (h < k ∧ k ≤ 100100) ∧ (∀ j, h < j → j < k → H b j = H b h) ∧ H b k ≠ H b h ∧ r = .inl (Int32.ofInt (H b k))) ∨ ((∀ j, h < j → j ≤ 100100 → H b j = H b h) ∧ r = .inr ())) (by
      rintro n s ⟨k, rfl, kb, hk, rfl⟩
      by_cases ce : 100100 < k
      · left
        refine ⟨.inr (), ?_, Or.inr ⟨fun j j0 j1 => hk j j0 (by omega), rfl⟩⟩
        simp (disch := omega) only [f_X12_isWater_56, Option.bind_some, qi, ql, qI_lt, qI_le, qI_eq, qI_L, qI_ix, qL_lt, qL_eq, q_nat, q_cs, ← Int32.ofInt_add, ← Int32.ofInt_sub, ← Int32.ofInt_mul, ← Int32.ofInt_neg, ← Int64.ofInt_add, ← Int64.ofInt_sub, ← Int64.ofInt_mul, ← Int64.ofInt_neg, pL_I, q_mx, q_mn, q_ab, q_abL, q_mnL, q_nn0, q_nn1, q_rr, q_b1, q_b0, q_T, q_F, q_iT, q_iF, q_d, q_in, q_wi, q_hC, q_hM, pT_i, pU_i, pS_i, pS_j, pS_0, Sum.elim_inl, Sum.elim_inr, if_pos, if_neg]
      · obtain ⟨-, q1, q2, q3⟩ := hH b k (by omega) (by omega)
        by_cases cq : H b k = H b h
        · right
          refine ⟨Int32.ofInt (k + 1), _, ?_, ?_, _, rfl, by omega, fun j j0 j1 => ?_, rfl⟩
          · simp (disch := omega) only [f_X12_isWater_56, q1, Option.bind_some, qi, ql, qI_lt, qI_le, qI_eq, qI_L, qI_ix, qL_lt, qL_eq, q_nat, q_cs, ← Int32.ofInt_add, ← Int32.ofInt_sub, ← Int32.ofInt_mul, ← Int32.ofInt_neg, ← Int64.ofInt_add, ← Int64.ofInt_sub, ← Int64.ofInt_mul, ← Int64.ofInt_neg, pL_I, q_mx, q_mn, q_ab, q_abL, q_mnL, q_nn0, q_nn1, q_rr, q_b1, q_b0, q_T, q_F, q_iT, q_iF, q_d, q_in, q_wi, q_hC, q_hM, pT_i, pU_i, pS_i, pS_j, pS_0, Sum.elim_inl, Sum.elim_inr, if_pos, if_neg]
          · omega
          · by_cases cj : j = k
            · subst cj; exact cq
            · exact hk j j0 (by omega)
        · left
          refine ⟨.inl (Int32.ofInt (H b k)), ?_, Or.inl ⟨k, by omega, hk, cq, rfl⟩⟩
          simp (disch := omega) only [f_X12_isWater_56, q1, Option.bind_some, qi, ql, qI_lt, qI_le, qI_eq, qI_L, qI_ix, qL_lt, qL_eq, q_nat, q_cs, ← Int32.ofInt_add, ← Int32.ofInt_sub, ← Int32.ofInt_mul, ← Int32.ofInt_neg, ← Int64.ofInt_add, ← Int64.ofInt_sub, ← Int64.ofInt_mul, ← Int64.ofInt_neg, pL_I, q_mx, q_mn, q_ab, q_abL, q_mnL, q_nn0, q_nn1, q_rr, q_b1, q_b0, q_T, q_F, q_iT, q_iF, q_d, q_in, q_wi, q_hC, q_hM, pT_i, pU_i, pS_i, pS_j, pS_0, Sum.elim_inl, Sum.elim_inr, if_pos, if_neg]) _ _ ⟨h + 1, rfl, by omega, fun j j0 j1 => by omega, rfl⟩
    obtain ⟨r, L1, L2⟩ := L
    cases g with
    | true =>
      have eG : ∀ k, pv_G (H b) true k = H b k := fun k => if_pos rfl
      by_cases c1 : H b (h - 1) < H b h
      · rcases L2 with ⟨k, kb, hk, kn, rfl⟩ | ⟨hk, rfl⟩
        · obtain ⟨-, -, q2, q3⟩ := hH b k (by omega) (by omega)
          by_cases c2 : H b k < H b h
          · refine ⟨true, ?_, ⟨fun _ => ⟨hp, by rw [eG, eG]; exact c1, k, kb, fun j j0 j1 => by rw [eG, eG]; exact hk j j0 j1, by rw [eG, eG]; exact c2⟩, fun _ => rfl⟩⟩
            simp (disch := omega) only [f_X12_isWater, f_X12_isWater_95, e1, f1, L1, Option.bind_some, qi, ql, qI_lt, qI_le, qI_eq, qI_L, qI_ix, qL_lt, qL_eq, q_nat, q_cs, ← Int32.ofInt_add, ← Int32.ofInt_sub, ← Int32.ofInt_mul, ← Int32.ofInt_neg, ← Int64.ofInt_add, ← Int64.ofInt_sub, ← Int64.ofInt_mul, ← Int64.ofInt_neg, pL_I, q_mx, q_mn, q_ab, q_abL, q_mnL, q_nn0, q_nn1, q_rr, q_b1, q_b0, q_T, q_F, q_iT, q_iF, q_d, q_in, q_wi, q_hC, q_hM, pT_i, pU_i, pS_i, pS_j, pS_0, Sum.elim_inl, Sum.elim_inr, if_pos, if_neg]
          · refine ⟨false, ?_, ⟨fun z => (by cases z), fun ⟨_, _, k', kb', hk', kc⟩ => ?_⟩⟩
            · simp (disch := omega) only [f_X12_isWater, f_X12_isWater_95, e1, f1, L1, Option.bind_some, qi, ql, qI_lt, qI_le, qI_eq, qI_L, qI_ix, qL_lt, qL_eq, q_nat, q_cs, ← Int32.ofInt_add, ← Int32.ofInt_sub, ← Int32.ofInt_mul, ← Int32.ofInt_neg, ← Int64.ofInt_add, ← Int64.ofInt_sub, ← Int64.ofInt_mul, ← Int64.ofInt_neg, pL_I, q_mx, q_mn, q_ab, q_abL, q_mnL, q_nn0, q_nn1, q_rr, q_b1, q_b0, q_T, q_F, q_iT, q_iF, q_d, q_in, q_wi, q_hC, q_hM, pT_i, pU_i, pS_i, pS_j, pS_0, Sum.elim_inl, Sum.elim_inr, if_pos, if_neg]
            · rw [eG, eG] at kc
              exfalso
              by_cases t1 : k' < k
              · have := hk k' (by omega) t1
                omega
              · by_cases t2 : k' = k
                · subst t2; omega
                · have := hk' k (by omega) (by omega)
                  rw [eG, eG] at this
                  omega
        · refine ⟨false, ?_, ⟨fun z => (by cases z), fun ⟨_, _, k', kb', hk', kc⟩ => ?_⟩⟩
          · simp (disch := omega) only [f_X12_isWater, f_X12_isWater_95, e1, f1, L1, Option.bind_some, qi, ql, qI_lt, qI_le, qI_eq, qI_L, qI_ix, qL_lt, qL_eq, q_nat, q_cs, ← Int32.ofInt_add, ← Int32.ofInt_sub, ← Int32.ofInt_mul, ← Int32.ofInt_neg, ← Int64.ofInt_add, ← Int64.ofInt_sub, ← Int64.ofInt_mul, ← Int64.ofInt_neg, pL_I, q_mx, q_mn, q_ab, q_abL, q_mnL, q_nn0, q_nn1, q_rr, q_b1, q_b0, q_T, q_F, q_iT, q_iF, q_d, q_in, q_wi, q_hC, q_hM, pT_i, pU_i, pS_i, pS_j, pS_0, Sum.elim_inl, Sum.elim_inr, if_pos, if_neg]
          · rw [eG, eG] at kc
            have := hk k' (by omega) (by omega)
            omega
      · refine ⟨false, ?_, ⟨fun z => (by cases z), fun ⟨_, t, _⟩ => ?_⟩⟩
        · simp (disch := omega) only [f_X12_isWater, e1, f1, Option.bind_some, qi, ql, qI_lt, qI_le, qI_eq, qI_L, qI_ix, qL_lt, qL_eq, q_nat, q_cs, ← Int32.ofInt_add, ← Int32.ofInt_sub, ← Int32.ofInt_mul, ← Int32.ofInt_neg, ← Int64.ofInt_add, ← Int64.ofInt_sub, ← Int64.ofInt_mul, ← Int64.ofInt_neg, pL_I, q_mx, q_mn, q_ab, q_abL, q_mnL, q_nn0, q_nn1, q_rr, q_b1, q_b0, q_T, q_F, q_iT, q_iF, q_d, q_in, q_wi, q_hC, q_hM, pT_i, pU_i, pS_i, pS_j, pS_0, Sum.elim_inl, Sum.elim_inr, if_pos, if_neg]
        · rw [eG, eG] at t
          exact absurd t c1
    | false =>
      have eG : ∀ k, pv_G (H b) false k = -H b k := fun k => if_neg (by decide)
      by_cases c1 : H b h < H b (h - 1)
      · rcases L2 with ⟨k, kb, hk, kn, rfl⟩ | ⟨hk, rfl⟩
        · obtain ⟨-, -, q2, q3⟩ := hH b k (by omega) (by omega)
          by_cases c2 : H b k < H b h
          · refine ⟨false, ?_, ⟨fun z => (by cases z), fun ⟨_, _, k', kb', hk', kc⟩ => ?_⟩⟩
            · simp (disch := omega) only [f_X12_isWater, f_X12_isWater_95, e1, f1, L1, Option.bind_some, qi, ql, qI_lt, qI_le, qI_eq, qI_L, qI_ix, qL_lt, qL_eq, q_nat, q_cs, ← Int32.ofInt_add, ← Int32.ofInt_sub, ← Int32.ofInt_mul, ← Int32.ofInt_neg, ← Int64.ofInt_add, ← Int64.ofInt_sub, ← Int64.ofInt_mul, ← Int64.ofInt_neg, pL_I, q_mx, q_mn, q_ab, q_abL, q_mnL, q_nn0, q_nn1, q_rr, q_b1, q_b0, q_T, q_F, q_iT, q_iF, q_d, q_in, q_wi, q_hC, q_hM, pT_i, pU_i, pS_i, pS_j, pS_0, Sum.elim_inl, Sum.elim_inr, if_pos, if_neg]
            · rw [eG, eG] at kc
              exfalso
              by_cases t1 : k' < k
              · have := hk k' (by omega) t1
                omega
              · by_cases t2 : k' = k
                · subst t2; omega
                · have := hk' k (by omega) (by omega)
                  rw [eG, eG] at this
                  omega
          · refine ⟨true, ?_, ⟨fun _ => ⟨hp, by rw [eG, eG]; omega, k, kb, fun j j0 j1 => by rw [eG, eG, hk j j0 j1], by rw [eG, eG]; omega⟩, fun _ => rfl⟩⟩
            simp (disch := omega) only [f_X12_isWater, f_X12_isWater_95, e1, f1, L1, Option.bind_some, qi, ql, qI_lt, qI_le, qI_eq, qI_L, qI_ix, qL_lt, qL_eq, q_nat, q_cs, ← Int32.ofInt_add, ← Int32.ofInt_sub, ← Int32.ofInt_mul, ← Int32.ofInt_neg, ← Int64.ofInt_add, ← Int64.ofInt_sub, ← Int64.ofInt_mul, ← Int64.ofInt_neg, pL_I, q_mx, q_mn, q_ab, q_abL, q_mnL, q_nn0, q_nn1, q_rr, q_b1, q_b0, q_T, q_F, q_iT, q_iF, q_d, q_in, q_wi, q_hC, q_hM, pT_i, pU_i, pS_i, pS_j, pS_0, Sum.elim_inl, Sum.elim_inr, if_pos, if_neg]
        · refine ⟨false, ?_, ⟨fun z => (by cases z), fun ⟨_, _, k', kb', hk', kc⟩ => ?_⟩⟩
          · simp (disch := omega) only [f_X12_isWater, f_X12_isWater_95, e1, f1, L1, Option.bind_some, qi, ql, qI_lt, qI_le, qI_eq, qI_L, qI_ix, qL_lt, qL_eq, q_nat, q_cs, ← Int32.ofInt_add, ← Int32.ofInt_sub, ← Int32.ofInt_mul, ← Int32.ofInt_neg, ← Int64.ofInt_add, ← Int64.ofInt_sub, ← Int64.ofInt_mul, ← Int64.ofInt_neg, pL_I, q_mx, q_mn, q_ab, q_abL, q_mnL, q_nn0, q_nn1, q_rr, q_b1, q_b0, q_T, q_F, q_iT, q_iF, q_d, q_in, q_wi, q_hC, q_hM, pT_i, pU_i, pS_i, pS_j, pS_0, Sum.elim_inl, Sum.elim_inr, if_pos, if_neg]
          · rw [eG, eG] at kc
            have := hk k' (by omega) (by omega)
            omega
      · refine ⟨false, ?_, ⟨fun z => (by cases z), fun ⟨_, t, _⟩ => ?_⟩⟩
        · simp (disch := omega) only [f_X12_isWater, e1, f1, Option.bind_some, qi, ql, qI_lt, qI_le, qI_eq, qI_L, qI_ix, qL_lt, qL_eq, q_nat, q_cs, ← Int32.ofInt_add, ← Int32.ofInt_sub, ← Int32.ofInt_mul, ← Int32.ofInt_neg, ← Int64.ofInt_add, ← Int64.ofInt_sub, ← Int64.ofInt_mul, ← Int64.ofInt_neg, pL_I, q_mx, q_mn, q_ab, q_abL, q_mnL, q_nn0, q_nn1, q_rr, q_b1, q_b0, q_T, q_F, q_iT, q_iF, q_d, q_in, q_wi, q_hC, q_hM, pT_i, pU_i, pS_i, pS_j, pS_0, Sum.elim_inl, Sum.elim_inr, if_pos, if_neg]
        · rw [eG, eG] at t
          omega
  · refine ⟨false, ?_, ⟨fun z => (by cases z), fun z => absurd z.1 hp⟩⟩
    simp (disch := omega) only [f_X12_isWater, Option.bind_some, qi, ql, qI_lt, qI_le, qI_eq, qI_L, qI_ix, qL_lt, qL_eq, q_nat, q_cs, ← Int32.ofInt_add, ← Int32.ofInt_sub, ← Int32.ofInt_mul, ← Int32.ofInt_neg, ← Int64.ofInt_add, ← Int64.ofInt_sub, ← Int64.ofInt_mul, ← Int64.ofInt_neg, pL_I, q_mx, q_mn, q_ab, q_abL, q_mnL, q_nn0, q_nn1, q_rr, q_b1, q_b0, q_T, q_F, q_iT, q_iF, q_d, q_in, q_wi, q_hC, q_hM, pT_i, pU_i, pS_i, pS_j, pS_0, Sum.elim_inl, Sum.elim_inr, if_pos, if_neg]
/-- the first water from y to z -/
def pv_N (G : Int → Int) (y z r : Int) : Prop := (r = -1 ∧ ∀ k, y ≤ k → k ≤ z → ¬ pv_W G k) ∨ ((y ≤ r ∧ r ≤ z ∧ 0 < r) ∧ pv_W G r ∧ ∀ k, y ≤ k → k < r → ¬ pv_W G k)
theorem pv_next {σ1 σ2 : am_H} {m a : Nat} {H : Bool → Int → Int} {S Z : Int} (hh : pr_HH σ1 σ2 m a H S Z) (g b : Bool) {y z : Int} (y0 : 0 ≤ y) (y1 : y ≤ 100000) (z1 : z ≤ 99999) (z0 : 0 ≤ z) : ∃ r : Int, (-1 ≤ r ∧ r ≤ 99999) ∧ f_X3_nextWater a (Int32.ofInt y) (Int32.ofInt z) g b σ1 = some (Int32.ofInt r) ∧ pv_N (pv_G (H b) g) y z r := by
  obtain ⟨hH, hS, -, ⟨s0, s1⟩, ⟨Z0, Z1⟩, hB⟩ := hh
  obtain ⟨e1, -, e2, e3⟩ := hH b (max y 1 - 1) (by omega) (by omega)
  by_cases cS : S = 0
  · subst cS
    have hc : ∀ k, 0 ≤ k → k ≤ 200000 → H b k = Z := fun k k0 k1 => by
      have := hB b k k0 k1
      omega
    refine ⟨-1, by omega, ?_, Or.inl ⟨rfl, fun k k0 k1 ⟨w1, w2, _⟩ => ?_⟩⟩
    · have lp : am_loop (fun s : Int32 × Int32 × Int32 => f_X3_nextWater_42 a (Int32.ofInt z) g b s.1 s.2.1 (Int32.ofInt (-1)) s.2.2 σ1) (Int32.ofInt (-1), Int32.ofInt (H b (max y 1 - 1)), Int32.ofInt (max y 1)) = some (.inr ()) := by
        rw [am_loop_eq]
        simp (disch := omega) only [f_X3_nextWater_42, Option.bind_some, qi, ql, qI_lt, qI_le, qI_eq, qI_L, qI_ix, qL_lt, qL_eq, q_nat, q_cs, ← Int32.ofInt_add, ← Int32.ofInt_sub, ← Int32.ofInt_mul, ← Int32.ofInt_neg, ← Int64.ofInt_add, ← Int64.ofInt_sub, ← Int64.ofInt_mul, ← Int64.ofInt_neg, pL_I, q_mx, q_mn, q_ab, q_abL, q_mnL, q_nn0, q_nn1, q_rr, q_b1, q_b0, q_T, q_F, q_iT, q_iF, q_d, q_in, q_wi, q_hC, q_hM, pT_i, pU_i, pS_i, pS_j, pS_0, Sum.elim_inl, Sum.elim_inr, if_pos, if_neg]
      simp (disch := omega) only [f_X3_nextWater, e1, hS, lp, Option.bind_some, qi, ql, qI_lt, qI_le, qI_eq, qI_L, qI_ix, qL_lt, qL_eq, q_nat, q_cs, ← Int32.ofInt_add, ← Int32.ofInt_sub, ← Int32.ofInt_mul, ← Int32.ofInt_neg, ← Int64.ofInt_add, ← Int64.ofInt_sub, ← Int64.ofInt_mul, ← Int64.ofInt_neg, pL_I, q_mx, q_mn, q_ab, q_abL, q_mnL, q_nn0, q_nn1, q_rr, q_b1, q_b0, q_T, q_F, q_iT, q_iF, q_d, q_in, q_wi, q_hC, q_hM, pT_i, pU_i, pS_i, pS_j, pS_0, Sum.elim_inl, Sum.elim_inr, if_pos, if_neg]
    · unfold pv_G at w2
      rw [hc k (by omega) (by omega), hc (k - 1) (by omega) (by omega)] at w2
      omega
  · have key : ∃ r : Int32 ⊕ Unit, am_loop (fun s : Int32 × Int32 × Int32 => f_X3_nextWater_42 a (Int32.ofInt z) g b s.1 s.2.1 (Int32.ofInt 100100) s.2.2 σ1) (Int32.ofInt (-1), Int32.ofInt (H b (max y 1 - 1)), Int32.ofInt (max y 1)) = some r ∧ ((∃ q : Int, r = .inl (Int32.ofInt q) ∧ (max y 1 ≤ q ∧ q ≤ z) ∧ pv_W (pv_G (H b) g) q ∧ ∀ k, max y 1 ≤ k → k < q → ¬ pv_W (pv_G (H b) g) k) ∨ (r = .inr () ∧ ∀ k, max y 1 ≤ k → k ≤ z → ¬ pv_W (pv_G (H b) g) k)) := by
      refine am_loop_1 (B := fun s : Int32 × Int32 × Int32 => f_X3_nextWater_42 a (Int32.ofInt z) g b s.1 s.2.1 (Int32.ofInt 100100) s.2.2 σ1) (fun n s => ∃ c k : Int, s = (Int32.ofInt c, Int32.ofInt (H b (k - 1)), Int32.ofInt k) ∧ (max y 1 ≤ k ∧ k ≤ 100101) ∧ ((c = -1 ∧ ∀ j, max y 1 ≤ j → j ≤ z → j < k → ¬ pv_W (pv_G (H b) g) j) ∨ ((max y 1 ≤ c ∧ c ≤ z ∧ c < k) ∧ pv_G (H b) g (c - 1) < pv_G (H b) g c ∧ (∀ j, c < j → j < k → pv_G (H b) g j = pv_G (H b) g c) ∧ ∀ j, max y 1 ≤ j → j < c → ¬ pv_W (pv_G (H b) g) j)) ∧ n = (100101 - k).toNat) _ ?_ _ _ ⟨-1, max y 1, rfl, by omega, Or.inl ⟨rfl, fun j j0 _ j1 => by omega⟩, rfl⟩
      rintro n s ⟨c, k, rfl, kb, inv, rfl⟩
      have cb : -1 ≤ c ∧ c ≤ 99999 := by
        rcases inv with ⟨rfl, -⟩ | ⟨h, -⟩ <;> omega
      by_cases ce : 100100 < k
      · left
        refine ⟨.inr (), ?_, Or.inr ⟨rfl, fun j j0 j1 hw => ?_⟩⟩
        · simp (disch := omega) only [f_X3_nextWater_42, Option.bind_some, qi, ql, qI_lt, qI_le, qI_eq, qI_L, qI_ix, qL_lt, qL_eq, q_nat, q_cs, ← Int32.ofInt_add, ← Int32.ofInt_sub, ← Int32.ofInt_mul, ← Int32.ofInt_neg, ← Int64.ofInt_add, ← Int64.ofInt_sub, ← Int64.ofInt_mul, ← Int64.ofInt_neg, pL_I, q_mx, q_mn, q_ab, q_abL, q_mnL, q_nn0, q_nn1, q_rr, q_b1, q_b0, q_T, q_F, q_iT, q_iF, q_d, q_in, q_wi, q_hC, q_hM, pT_i, pU_i, pS_i, pS_j, pS_0, Sum.elim_inl, Sum.elim_inr, if_pos, if_neg]
        · rcases inv with ⟨rfl, h⟩ | ⟨h1, h2, h3, h4⟩
          · exact h j j0 j1 (by omega) hw
          · by_cases t1 : j < c
            · exact h4 j j0 t1 hw
            · obtain ⟨-, w2, q, qb, -, w4⟩ := hw
              by_cases t2 : j = c
              · subst t2
                have := h3 q (by omega) (by omega)
                omega
              · have u1 := h3 j (by omega) (by omega)
                by_cases t3 : j - 1 = c
                · rw [t3] at w2; omega
                · have u2 := h3 (j - 1) (by omega) (by omega)
                  omega
      · by_cases cz : z < k ∧ c = -1
        · obtain ⟨cz, rfl⟩ := cz
          left
          refine ⟨.inr (), ?_, Or.inr ⟨rfl, fun j j0 j1 hw => ?_⟩⟩
          · simp (disch := omega) only [f_X3_nextWater_42, Option.bind_some, qi, ql, qI_lt, qI_le, qI_eq, qI_L, qI_ix, qL_lt, qL_eq, q_nat, q_cs, ← Int32.ofInt_add, ← Int32.ofInt_sub, ← Int32.ofInt_mul, ← Int32.ofInt_neg, ← Int64.ofInt_add, ← Int64.ofInt_sub, ← Int64.ofInt_mul, ← Int64.ofInt_neg, pL_I, q_mx, q_mn, q_ab, q_abL, q_mnL, q_nn0, q_nn1, q_rr, q_b1, q_b0, q_T, q_F, q_iT, q_iF, q_d, q_in, q_wi, q_hC, q_hM, pT_i, pU_i, pS_i, pS_j, pS_0, Sum.elim_inl, Sum.elim_inr, if_pos, if_neg]
          · rcases inv with ⟨-, h⟩ | ⟨h1, -⟩
            · exact h j j0 j1 (by omega) hw
            · omega
        · obtain ⟨q1, -, q2, q3⟩ := hH b k (by omega) (by omega)
          obtain ⟨-, -, p2, p3⟩ := hH b (k - 1) (by omega) (by omega)
          have st : f_X3_nextWater_42 a (Int32.ofInt z) g b (Int32.ofInt c) (Int32.ofInt (H b (k - 1))) (Int32.ofInt 100100) (Int32.ofInt k) σ1 = f_X3_nextWater_103 a (Int32.ofInt z) g b (Int32.ofInt c) (Int32.ofInt (H b (k - 1))) (Int32.ofInt 100100) (Int32.ofInt k) (Int32.ofInt (H b k)) (decide (pv_G (H b) g (k - 1) < pv_G (H b) g k)) σ1 := by
            have hd : decide (pv_G (H b) g (k - 1) < pv_G (H b) g k) = (if g = true then decide (H b (k - 1) < H b k) else decide (H b k < H b (k - 1))) := by
              cases g with
              | true => rfl
              | false =>
                show decide (-H b (k - 1) < -H b k) = decide (H b k < H b (k - 1))
                by_cases t : H b k < H b (k - 1)
                · rw [decide_eq_true t, decide_eq_true (by omega)]
                · rw [decide_eq_false t, decide_eq_false (by omega)]
            rw [hd]
            by_cases t1 : z < k
            · have t2 : c ≠ -1 := fun e => cz ⟨t1, e⟩
              cases g with
              | true =>
                by_cases t : H b (k - 1) < H b k
                · simp (disch := omega) only [f_X3_nextWater_42, f_X3_nextWater_61, q1, decide_eq_true t, Option.bind_some, qi, ql, qI_lt, qI_le, qI_eq, qI_L, qI_ix, qL_lt, qL_eq, q_nat, q_cs, ← Int32.ofInt_add, ← Int32.ofInt_sub, ← Int32.ofInt_mul, ← Int32.ofInt_neg, ← Int64.ofInt_add, ← Int64.ofInt_sub, ← Int64.ofInt_mul, ← Int64.ofInt_neg, pL_I, q_mx, q_mn, q_ab, q_abL, q_mnL, q_nn0, q_nn1, q_rr, q_b1, q_b0, q_T, q_F, q_iT, q_iF, q_d, q_in, q_wi, q_hC, q_hM, pT_i, pU_i, pS_i, pS_j, pS_0, Sum.elim_inl, Sum.elim_inr, if_pos, if_neg]
                · simp (disch := omega) only [f_X3_nextWater_42, f_X3_nextWater_61, q1, decide_eq_false t, Option.bind_some, qi, ql, qI_lt, qI_le, qI_eq, qI_L, qI_ix, qL_lt, qL_eq, q_nat, q_cs, ← Int32.ofInt_add, ← Int32.ofInt_sub, ← Int32.ofInt_mul, ← Int32.ofInt_neg, ← Int64.ofInt_add, ← Int64.ofInt_sub, ← Int64.ofInt_mul, ← Int64.ofInt_neg, pL_I, q_mx, q_mn, q_ab, q_abL, q_mnL, q_nn0, q_nn1, q_rr, q_b1, q_b0, q_T, q_F, q_iT, q_iF, q_d, q_in, q_wi, q_hC, q_hM, pT_i, pU_i, pS_i, pS_j, pS_0, Sum.elim_inl, Sum.elim_inr, if_pos, if_neg]
              | false =>
                by_cases t : H b k < H b (k - 1)
                · simp (disch := omega) only [f_X3_nextWater_42, f_X3_nextWater_61, q1, decide_eq_true t, Option.bind_some, qi, ql, qI_lt, qI_le, qI_eq, qI_L, qI_ix, qL_lt, qL_eq, q_nat, q_cs, ← Int32.ofInt_add, ← Int32.ofInt_sub, ← Int32.ofInt_mul, ← Int32.ofInt_neg, ← Int64.ofInt_add, ← Int64.ofInt_sub, ← Int64.ofInt_mul, ← Int64.ofInt_neg, pL_I, q_mx, q_mn, q_ab, q_abL, q_mnL, q_nn0, q_nn1, q_rr, q_b1, q_b0, q_T, q_F, q_iT, q_iF, q_d, q_in, q_wi, q_hC, q_hM, pT_i, pU_i, pS_i, pS_j, pS_0, Sum.elim_inl, Sum.elim_inr, if_pos, if_neg]
                · simp (disch := omega) only [f_X3_nextWater_42, f_X3_nextWater_61, q1, decide_eq_false t, Option.bind_some, qi, ql, qI_lt, qI_le, qI_eq, qI_L, qI_ix, qL_lt, qL_eq, q_nat, q_cs, ← Int32.ofInt_add, ← Int32.ofInt_sub, ← Int32.ofInt_mul, ← Int32.ofInt_neg, ← Int64.ofInt_add, ← Int64.ofInt_sub, ← Int64.ofInt_mul, ← Int64.ofInt_neg, pL_I, q_mx, q_mn, q_ab, q_abL, q_mnL, q_nn0, q_nn1, q_rr, q_b1, q_b0, q_T, q_F, q_iT, q_iF, q_d, q_in, q_wi, q_hC, q_hM, pT_i, pU_i, pS_i, pS_j, pS_0, Sum.elim_inl, Sum.elim_inr, if_pos, if_neg]
            · cases g with
              | true =>
                by_cases t : H b (k - 1) < H b k
                · simp (disch := omega) only [f_X3_nextWater_42, f_X3_nextWater_61, q1, decide_eq_true t, Option.bind_some, qi, ql, qI_lt, qI_le, qI_eq, qI_L, qI_ix, qL_lt, qL_eq, q_nat, q_cs, ← Int32.ofInt_add, ← Int32.ofInt_sub, ← Int32.ofInt_mul, ← Int32.ofInt_neg, ← Int64.ofInt_add, ← Int64.ofInt_sub, ← Int64.ofInt_mul, ← Int64.ofInt_neg, pL_I, q_mx, q_mn, q_ab, q_abL, q_mnL, q_nn0, q_nn1, q_rr, q_b1, q_b0, q_T, q_F, q_iT, q_iF, q_d, q_in, q_wi, q_hC, q_hM, pT_i, pU_i, pS_i, pS_j, pS_0, Sum.elim_inl, Sum.elim_inr, if_pos, if_neg]
                · simp (disch := omega) only [f_X3_nextWater_42, f_X3_nextWater_61, q1, decide_eq_false t, Option.bind_some, qi, ql, qI_lt, qI_le, qI_eq, qI_L, qI_ix, qL_lt, qL_eq, q_nat, q_cs, ← Int32.ofInt_add, ← Int32.ofInt_sub, ← Int32.ofInt_mul, ← Int32.ofInt_neg, ← Int64.ofInt_add, ← Int64.ofInt_sub, ← Int64.ofInt_mul, ← Int64.ofInt_neg, pL_I, q_mx, q_mn, q_ab, q_abL, q_mnL, q_nn0, q_nn1, q_rr, q_b1, q_b0, q_T, q_F, q_iT, q_iF, q_d, q_in, q_wi, q_hC, q_hM, pT_i, pU_i, pS_i, pS_j, pS_0, Sum.elim_inl, Sum.elim_inr, if_pos, if_neg]
              | false =>
                by_cases t : H b k < H b (k - 1)
                · simp (disch := omega) only [f_X3_nextWater_42, f_X3_nextWater_61, q1, decide_eq_true t, Option.bind_some, qi, ql, qI_lt, qI_le, qI_eq, qI_L, qI_ix, qL_lt, qL_eq, q_nat, q_cs, ← Int32.ofInt_add, ← Int32.ofInt_sub, ← Int32.ofInt_mul, ← Int32.ofInt_neg, ← Int64.ofInt_add, ← Int64.ofInt_sub, ← Int64.ofInt_mul, ← Int64.ofInt_neg, pL_I, q_mx, q_mn, q_ab, q_abL, q_mnL, q_nn0, q_nn1, q_rr, q_b1, q_b0, q_T, q_F, q_iT, q_iF, q_d, q_in, q_wi, q_hC, q_hM, pT_i, pU_i, pS_i, pS_j, pS_0, Sum.elim_inl, Sum.elim_inr, if_pos, if_neg]
                · simp (disch := omega) only [f_X3_nextWater_42, f_X3_nextWater_61, q1, decide_eq_false t, Option.bind_some, qi, ql, qI_lt, qI_le, qI_eq, qI_L, qI_ix, qL_lt, qL_eq, q_nat, q_cs, ← Int32.ofInt_add, ← Int32.ofInt_sub, ← Int32.ofInt_mul, ← Int32.ofInt_neg, ← Int64.ofInt_add, ← Int64.ofInt_sub, ← Int64.ofInt_mul, ← Int64.ofInt_neg, pL_I, q_mx, q_mn, q_ab, q_abL, q_mnL, q_nn0, q_nn1, q_rr, q_b1, q_b0, q_T, q_F, q_iT, q_iF, q_d, q_in, q_wi, q_hC, q_hM, pT_i, pU_i, pS_i, pS_j, pS_0, Sum.elim_inl, Sum.elim_inr, if_pos, if_neg]
          have hGe : H b k = H b (k - 1) ↔ pv_G (H b) g k = pv_G (H b) g (k - 1) := by
            unfold pv_G
            cases g <;> simp <;> omega
          have e1k : k + 1 - 1 = k := by omega
          generalize hG : pv_G (H b) g = G at *
          show (∃ r, f_X3_nextWater_42 a (Int32.ofInt z) g b (Int32.ofInt c) (Int32.ofInt (H b (k - 1))) (Int32.ofInt 100100) (Int32.ofInt k) σ1 = some (.inr r) ∧ _) ∨ (∃ s' n', f_X3_nextWater_42 a (Int32.ofInt z) g b (Int32.ofInt c) (Int32.ofInt (H b (k - 1))) (Int32.ofInt 100100) (Int32.ofInt k) σ1 = some (.inl s') ∧ _)
          rw [st]
          by_cases t1 : G (k - 1) < G k
          · right
            -- it comes
            have noc : ∀ j, max y 1 ≤ j → j < k → j ≤ z → ¬ pv_W G j := by
              intro j j0 j1 j2 hw
              rcases inv with ⟨rfl, h⟩ | ⟨h1, h2, h3, h4⟩
              · exact h j j0 j2 j1 hw
              · by_cases t2 : j < c
                · exact h4 j j0 t2 hw
                · have gk : G (k - 1) = G c := by
                    by_cases u : k - 1 = c
                    · rw [u]
                    · exact h3 (k - 1) (by omega) (by omega)
                  obtain ⟨-, w2, q, qb, w3, w4⟩ := hw
                  by_cases t3 : j = c
                  · subst t3
                    by_cases t4 : q < k
                    · have := h3 q (by omega) t4
                      omega
                    · by_cases t5 : q = k
                      · subst t5; omega
                      · have := w3 k (by omega) (by omega)
                        omega
                  · have u1 := h3 j (by omega) (by omega)
                    by_cases t6 : j - 1 = c
                    · rw [t6] at w2; omega
                    · have u2 := h3 (j - 1) (by omega) (by omega)
                      omega
            by_cases t2 : z < k
            · refine ⟨(Int32.ofInt (-1), Int32.ofInt (H b k), Int32.ofInt (k + 1)), (100101 - (k + 1)).toNat, ?_, by omega, -1, k + 1, by rw [e1k], by omega, Or.inl ⟨rfl, fun j j0 j1 j2 => noc j j0 (by omega) j1⟩, rfl⟩
              rw [decide_eq_true t1]
              simp (disch := omega) only [f_X3_nextWater_103, Option.bind_some, qi, ql, qI_lt, qI_le, qI_eq, qI_L, qI_ix, qL_lt, qL_eq, q_nat, q_cs, ← Int32.ofInt_add, ← Int32.ofInt_sub, ← Int32.ofInt_mul, ← Int32.ofInt_neg, ← Int64.ofInt_add, ← Int64.ofInt_sub, ← Int64.ofInt_mul, ← Int64.ofInt_neg, pL_I, q_mx, q_mn, q_ab, q_abL, q_mnL, q_nn0, q_nn1, q_rr, q_b1, q_b0, q_T, q_F, q_iT, q_iF, q_d, q_in, q_wi, q_hC, q_hM, pT_i, pU_i, pS_i, pS_j, pS_0, Sum.elim_inl, Sum.elim_inr, if_pos, if_neg]
            · refine ⟨(Int32.ofInt k, Int32.ofInt (H b k), Int32.ofInt (k + 1)), (100101 - (k + 1)).toNat, ?_, by omega, k, k + 1, by rw [e1k], by omega, Or.inr ⟨by omega, t1, fun j j0 j1 => by omega, fun j j0 j1 => noc j j0 j1 (by omega)⟩, rfl⟩
              rw [decide_eq_true t1]
              simp (disch := omega) only [f_X3_nextWater_103, Option.bind_some, qi, ql, qI_lt, qI_le, qI_eq, qI_L, qI_ix, qL_lt, qL_eq, q_nat, q_cs, ← Int32.ofInt_add, ← Int32.ofInt_sub, ← Int32.ofInt_mul, ← Int32.ofInt_neg, ← Int64.ofInt_add, ← Int64.ofInt_sub, ← Int64.ofInt_mul, ← Int64.ofInt_neg, pL_I, q_mx, q_mn, q_ab, q_abL, q_mnL, q_nn0, q_nn1, q_rr, q_b1, q_b0, q_T, q_F, q_iT, q_iF, q_d, q_in, q_wi, q_hC, q_hM, pT_i, pU_i, pS_i, pS_j, pS_0, Sum.elim_inl, Sum.elim_inr, if_pos, if_neg]
          · by_cases t2 : H b k = H b (k - 1)
            · right
              have t3 := hGe.mp t2
              refine ⟨(Int32.ofInt c, Int32.ofInt (H b k), Int32.ofInt (k + 1)), (100101 - (k + 1)).toNat, ?_, by omega, c, k + 1, by rw [e1k], by omega, ?_, rfl⟩
              · rw [decide_eq_false t1]
                simp (disch := omega) only [f_X3_nextWater_103, Option.bind_some, qi, ql, qI_lt, qI_le, qI_eq, qI_L, qI_ix, qL_lt, qL_eq, q_nat, q_cs, ← Int32.ofInt_add, ← Int32.ofInt_sub, ← Int32.ofInt_mul, ← Int32.ofInt_neg, ← Int64.ofInt_add, ← Int64.ofInt_sub, ← Int64.ofInt_mul, ← Int64.ofInt_neg, pL_I, q_mx, q_mn, q_ab, q_abL, q_mnL, q_nn0, q_nn1, q_rr, q_b1, q_b0, q_T, q_F, q_iT, q_iF, q_d, q_in, q_wi, q_hC, q_hM, pT_i, pU_i, pS_i, pS_j, pS_0, Sum.elim_inl, Sum.elim_inr, if_pos, if_neg]
              · rcases inv with ⟨rfl, h⟩ | ⟨h1, h2, h3, h4⟩
                · refine Or.inl ⟨rfl, fun j j0 j1 j2 hw => ?_⟩
                  by_cases u : j = k
                  · subst u
                    exact t1 hw.2.1
                  · exact h j j0 j1 (by omega) hw
                · refine Or.inr ⟨by omega, h2, fun j j0 j1 => ?_, h4⟩
                  by_cases u : j = k
                  · subst u
                    rw [t3]
                    by_cases u2 : j - 1 = c
                    · rw [u2]
                    · exact h3 (j - 1) (by omega) (by omega)
                  · exact h3 j j0 (by omega)
            · have t3 : G k < G (k - 1) := by
                have : ¬ G k = G (k - 1) := fun e => t2 (hGe.mpr e)
                omega
              by_cases t4 : c = -1
              · right
                refine ⟨(Int32.ofInt c, Int32.ofInt (H b k), Int32.ofInt (k + 1)), (100101 - (k + 1)).toNat, ?_, by omega, c, k + 1, by rw [e1k], by omega, ?_, rfl⟩
                · rw [decide_eq_false t1]
                  simp (disch := omega) only [f_X3_nextWater_103, Option.bind_some, qi, ql, qI_lt, qI_le, qI_eq, qI_L, qI_ix, qL_lt, qL_eq, q_nat, q_cs, ← Int32.ofInt_add, ← Int32.ofInt_sub, ← Int32.ofInt_mul, ← Int32.ofInt_neg, ← Int64.ofInt_add, ← Int64.ofInt_sub, ← Int64.ofInt_mul, ← Int64.ofInt_neg, pL_I, q_mx, q_mn, q_ab, q_abL, q_mnL, q_nn0, q_nn1, q_rr, q_b1, q_b0, q_T, q_F, q_iT, q_iF, q_d, q_in, q_wi, q_hC, q_hM, pT_i, pU_i, pS_i, pS_j, pS_0, Sum.elim_inl, Sum.elim_inr, if_pos, if_neg]
                · rcases inv with ⟨-, h⟩ | ⟨h1, -⟩
                  · refine Or.inl ⟨t4, fun j j0 j1 j2 hw => ?_⟩
                    by_cases u : j = k
                    · subst u
                      exact t1 hw.2.1
                    · exact h j j0 j1 (by omega) hw
                  · omega
              · left
                rcases inv with ⟨h, -⟩ | ⟨h1, h2, h3, h4⟩
                · exact absurd h t4
                · have gk : G (k - 1) = G c := by
                    by_cases u : k - 1 = c
                    · rw [u]
                    · exact h3 (k - 1) (by omega) (by omega)
                  refine ⟨.inl (Int32.ofInt c), ?_, Or.inl ⟨c, rfl, by omega, ⟨by omega, h2, k, by omega, fun j j0 j1 => h3 j j0 j1, by omega⟩, h4⟩⟩
                  rw [decide_eq_false t1]
                  simp (disch := omega) only [f_X3_nextWater_103, Option.bind_some, qi, ql, qI_lt, qI_le, qI_eq, qI_L, qI_ix, qL_lt, qL_eq, q_nat, q_cs, ← Int32.ofInt_add, ← Int32.ofInt_sub, ← Int32.ofInt_mul, ← Int32.ofInt_neg, ← Int64.ofInt_add, ← Int64.ofInt_sub, ← Int64.ofInt_mul, ← Int64.ofInt_neg, pL_I, q_mx, q_mn, q_ab, q_abL, q_mnL, q_nn0, q_nn1, q_rr, q_b1, q_b0, q_T, q_F, q_iT, q_iF, q_d, q_in, q_wi, q_hC, q_hM, pT_i, pU_i, pS_i, pS_j, pS_0, Sum.elim_inl, Sum.elim_inr, if_pos, if_neg]
    obtain ⟨r, k1, k2⟩ := key
    rcases k2 with ⟨q, rfl, qb, w, hn⟩ | ⟨rfl, hn⟩
    · refine ⟨q, by omega, ?_, Or.inr ⟨by omega, w, fun k k0 k1 hw => hn k (by have := hw.1; omega) k1 hw⟩⟩
      simp (disch := omega) only [f_X3_nextWater, e1, hS, k1, Option.bind_some, qi, ql, qI_lt, qI_le, qI_eq, qI_L, qI_ix, qL_lt, qL_eq, q_nat, q_cs, ← Int32.ofInt_add, ← Int32.ofInt_sub, ← Int32.ofInt_mul, ← Int32.ofInt_neg, ← Int64.ofInt_add, ← Int64.ofInt_sub, ← Int64.ofInt_mul, ← Int64.ofInt_neg, pL_I, q_mx, q_mn, q_ab, q_abL, q_mnL, q_nn0, q_nn1, q_rr, q_b1, q_b0, q_T, q_F, q_iT, q_iF, q_d, q_in, q_wi, q_hC, q_hM, pT_i, pU_i, pS_i, pS_j, pS_0, Sum.elim_inl, Sum.elim_inr, if_pos, if_neg]
    · refine ⟨-1, by omega, ?_, Or.inl ⟨rfl, fun k k0 k1 hw => hn k (by have := hw.1; omega) k1 hw⟩⟩
      simp (disch := omega) only [f_X3_nextWater, e1, hS, k1, Option.bind_some, qi, ql, qI_lt, qI_le, qI_eq, qI_L, qI_ix, qL_lt, qL_eq, q_nat, q_cs, ← Int32.ofInt_add, ← Int32.ofInt_sub, ← Int32.ofInt_mul, ← Int32.ofInt_neg, ← Int64.ofInt_add, ← Int64.ofInt_sub, ← Int64.ofInt_mul, ← Int64.ofInt_neg, pL_I, q_mx, q_mn, q_ab, q_abL, q_mnL, q_nn0, q_nn1, q_rr, q_b1, q_b0, q_T, q_F, q_iT, q_iF, q_d, q_in, q_wi, q_hC, q_hM, pT_i, pU_i, pS_i, pS_j, pS_0, Sum.elim_inl, Sum.elim_inr, if_pos, if_neg]
