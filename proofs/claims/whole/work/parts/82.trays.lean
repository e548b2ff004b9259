/-! ===== TRAYS ===== -/
/-- a row's longs from lo on, n of them, are 0 -/
def pz (σ : am_H) (k i lo n : Nat) : am_H := (σ.1, fun a b c => if a = k ∧ b = i ∧ lo ≤ c ∧ c < lo + n then Int64.ofInt 0 else σ.2.1 a b c, σ.2.2)
theorem pz_s {σ : am_H} {k i lo n c : Nat} (h : c = lo + n) : am_wL (pz σ k i lo n) k i c (Int64.ofInt 0) = pz σ k i lo (n + 1) := by
  subst h
  refine Prod.ext rfl (Prod.ext (funext fun x => funext fun y => funext fun z => ?_) rfl)
  show (if x = k ∧ y = i ∧ z = lo + n then Int64.ofInt 0 else if x = k ∧ y = i ∧ lo ≤ z ∧ z < lo + n then Int64.ofInt 0 else σ.2.1 x y z) = (if x = k ∧ y = i ∧ lo ≤ z ∧ z < lo + (n + 1) then Int64.ofInt 0 else σ.2.1 x y z)
  by_cases h1 : x = k ∧ y = i ∧ lo ≤ z ∧ z < lo + (n + 1)
  · rw [if_pos h1]
    by_cases h2 : x = k ∧ y = i ∧ z = lo + n
    · rw [if_pos h2]
    · rw [if_neg h2, if_pos ⟨h1.1, h1.2.1, h1.2.2.1, by omega⟩]
  · rw [if_neg h1, if_neg (fun z => h1 ⟨z.1, z.2.1, by omega, by omega⟩), if_neg (fun z => h1 ⟨z.1, z.2.1, by omega, by omega⟩)]
theorem pz_0 {σ : am_H} {k i lo : Nat} : pz σ k i lo 0 = σ := by
  refine Prod.ext rfl (Prod.ext (funext fun x => funext fun y => funext fun z => ?_) rfl)
  show (if x = k ∧ y = i ∧ lo ≤ z ∧ z < lo + 0 then Int64.ofInt 0 else σ.2.1 x y z) = _
  rw [if_neg (by omega)]
theorem qf.pz {l : List (Nat × Nat)} {σ σ1 : am_H} {k i lo n : Nat} (h : qf l σ σ1) (hj : ∀ j, qf_in l k j = true) : qf l σ (pz σ1 k i lo n) := fun a b c hl => ⟨(h a b c hl).1, by
  show (if a = k ∧ b = i ∧ lo ≤ c ∧ c < lo + n then Int64.ofInt 0 else σ1.2.1 a b c) = _
  rw [if_neg (fun z => by rw [z.1, hj] at hl; cases hl)]
  exact (h a b c hl).2.1, (h a b c hl).2.2⟩
theorem pt_make {σ : am_H} {t : Nat} {so mn : Int} (m0 : 0 ≤ mn) (m1 : mn ≤ 60) : f_X8_makeAnew t (Int32.ofInt so) (Int32.ofInt mn) σ = some (pz (am_wI (am_wI σ 8 t 0 (Int32.ofInt so)) 8 t 1 (Int32.ofInt mn)) 902 t 0 60) := by
  have em : max 0 (min mn 60) = mn := by omega
  simp (disch := omega) only [f_X8_makeAnew, em, Option.bind_some, qi, ql, qI_lt, qI_le, qI_eq, qI_L, qI_ix, qL_lt, qL_eq, q_nat, q_cs, ← Int32.ofInt_add, ← Int32.ofInt_sub, ← Int32.ofInt_mul, ← Int32.ofInt_neg, ← Int64.ofInt_add, ← Int64.ofInt_sub, ← Int64.ofInt_mul, ← Int64.ofInt_neg, pL_I, q_mx, q_mn, q_ab, q_abL, q_mnL, q_nn0, q_nn1, q_rr, q_b1, q_b0, q_T, q_F, q_iT, q_iF, q_d, q_in, q_wi, q_hC, q_hM, pT_i, pU_i, pS_i, pS_j, pS_0, Sum.elim_inl, Sum.elim_inr, if_pos, if_neg]
  generalize am_wI (am_wI σ 8 t 0 (Int32.ofInt so)) 8 t 1 (Int32.ofInt mn) = s
  have lp := am_loop_n (body := fun s : Int32 × am_H => f_X8_makeAnew_21 t s.1 s.2) (fun i => (Int32.ofInt i, pz s 902 t 0 i)) 60 (r := pz s 902 t 0 60) ?_ ?_
  · rw [pz_0] at lp
    have lp' : am_loop (fun s : Int32 × am_H => f_X8_makeAnew_21 t s.1 s.2) (Int32.ofInt 0, s) = some (pz s 902 t 0 60) := lp
    rw [lp', Option.bind_some]
  · intro i hi
    simp (disch := omega) only [f_X8_makeAnew_21, pz_s, Option.bind_some, qi, ql, qI_lt, qI_le, qI_eq, qI_L, qI_ix, qL_lt, qL_eq, q_nat, q_cs, ← Int32.ofInt_add, ← Int32.ofInt_sub, ← Int32.ofInt_mul, ← Int32.ofInt_neg, ← Int64.ofInt_add, ← Int64.ofInt_sub, ← Int64.ofInt_mul, ← Int64.ofInt_neg, pL_I, q_mx, q_mn, q_ab, q_abL, q_mnL, q_nn0, q_nn1, q_rr, q_b1, q_b0, q_T, q_F, q_iT, q_iF, q_d, q_in, q_wi, q_hC, q_hM, pT_i, pU_i, pS_i, pS_j, pS_0, Sum.elim_inl, Sum.elim_inr, if_pos, if_neg]
  · simp (disch := omega) only [f_X8_makeAnew_21, Option.bind_some, qi, ql, qI_lt, qI_le, qI_eq, qI_L, qI_ix, qL_lt, qL_eq, q_nat, q_cs, ← Int32.ofInt_add, ← Int32.ofInt_sub, ← Int32.ofInt_mul, ← Int32.ofInt_neg, ← Int64.ofInt_add, ← Int64.ofInt_sub, ← Int64.ofInt_mul, ← Int64.ofInt_neg, pL_I, q_mx, q_mn, q_ab, q_abL, q_mnL, q_nn0, q_nn1, q_rr, q_b1, q_b0, q_T, q_F, q_iT, q_iF, q_d, q_in, q_wi, q_hC, q_hM, pT_i, pU_i, pS_i, pS_j, pS_0, Sum.elim_inl, Sum.elim_inr, if_pos, if_neg]
theorem pt_clear {σ : am_H} {t : Nat} {mn : Int} (ht : t < 5) (m0 : 0 ≤ mn) (m1 : mn ≤ 60) : am_loop (fun s : Int32 × am_H => f_X12_tray_74 (Int32.ofInt t) (Int32.ofInt mn) s.1 s.2) (Int32.ofInt 0, σ) = some (pz σ 1306 0 (60 * t) mn.toNat) := by
  have lp := am_loop_n (body := fun s : Int32 × am_H => f_X12_tray_74 (Int32.ofInt t) (Int32.ofInt mn) s.1 s.2) (fun i => (Int32.ofInt i, pz σ 1306 0 (60 * t) i)) mn.toNat (r := pz σ 1306 0 (60 * t) mn.toNat) ?_ ?_
  · rw [pz_0] at lp
    exact lp
  · intro i hi
    simp (disch := omega) only [f_X12_tray_74, pz_s, Option.bind_some, qi, ql, qI_lt, qI_le, qI_eq, qI_L, qI_ix, qL_lt, qL_eq, q_nat, q_cs, ← Int32.ofInt_add, ← Int32.ofInt_sub, ← Int32.ofInt_mul, ← Int32.ofInt_neg, ← Int64.ofInt_add, ← Int64.ofInt_sub, ← Int64.ofInt_mul, ← Int64.ofInt_neg, pL_I, q_mx, q_mn, q_ab, q_abL, q_mnL, q_nn0, q_nn1, q_rr, q_b1, q_b0, q_T, q_F, q_iT, q_iF, q_d, q_in, q_wi, q_hC, q_hM, pT_i, pU_i, pS_i, pS_j, pS_0, Sum.elim_inl, Sum.elim_inr, if_pos, if_neg]
  · simp (disch := omega) only [f_X12_tray_74, Option.bind_some, qi, ql, qI_lt, qI_le, qI_eq, qI_L, qI_ix, qL_lt, qL_eq, q_nat, q_cs, ← Int32.ofInt_add, ← Int32.ofInt_sub, ← Int32.ofInt_mul, ← Int32.ofInt_neg, ← Int64.ofInt_add, ← Int64.ofInt_sub, ← Int64.ofInt_mul, ← Int64.ofInt_neg, pL_I, q_mx, q_mn, q_ab, q_abL, q_mnL, q_nn0, q_nn1, q_rr, q_b1, q_b0, q_T, q_F, q_iT, q_iF, q_d, q_in, q_wi, q_hC, q_hM, pT_i, pU_i, pS_i, pS_j, pS_0, Sum.elim_inl, Sum.elim_inr, if_pos, if_neg]
theorem po_3 : am_op_3 pr_Rel := by
  intro σ1 σ2 h v1 v2 v3
  obtain ⟨x, x1, x2, rfl⟩ := q_ex v1
  obtain ⟨y, y1, y2, rfl⟩ := q_ex v2
  obtain ⟨z, z1, z2, rfl⟩ := q_ex v3
  rcases pr_t (h.2.S 0) x1 x2 with ⟨c, e1⟩ | ⟨t, ht, rfl, e1, -⟩
  · refine pr_ro h false 1 ?_ ?_
    · simp (disch := omega) only [f_X11_tray, f_X11_tray_21, f_X11_no, e1, Option.bind_some, qi, ql, qI_lt, qI_le, qI_eq, qI_L, qI_ix, qL_lt, qL_eq, q_nat, q_cs, ← Int32.ofInt_add, ← Int32.ofInt_sub, ← Int32.ofInt_mul, ← Int32.ofInt_neg, ← Int64.ofInt_add, ← Int64.ofInt_sub, ← Int64.ofInt_mul, ← Int64.ofInt_neg, pL_I, q_mx, q_mn, q_ab, q_abL, q_mnL, q_nn0, q_nn1, q_rr, q_b1, q_b0, q_T, q_F, q_iT, q_iF, q_d, q_in, q_wi, q_hC, q_hM, pT_i, pU_i, pS_i, pS_j, pS_0, Sum.elim_inl, Sum.elim_inr, if_pos, if_neg]
    · by_cases c0 : x < 0
      · simp (disch := omega) only [f_X12_tray, f_X12_tray_28, f_X12_no, Option.bind_some, qi, ql, qI_lt, qI_le, qI_eq, qI_L, qI_ix, qL_lt, qL_eq, q_nat, q_cs, ← Int32.ofInt_add, ← Int32.ofInt_sub, ← Int32.ofInt_mul, ← Int32.ofInt_neg, ← Int64.ofInt_add, ← Int64.ofInt_sub, ← Int64.ofInt_mul, ← Int64.ofInt_neg, pL_I, q_mx, q_mn, q_ab, q_abL, q_mnL, q_nn0, q_nn1, q_rr, q_b1, q_b0, q_T, q_F, q_iT, q_iF, q_d, q_in, q_wi, q_hC, q_hM, pT_i, pU_i, pS_i, pS_j, pS_0, Sum.elim_inl, Sum.elim_inr, if_pos, if_neg]
      · simp (disch := omega) only [f_X12_tray, f_X12_tray_28, f_X12_no, Option.bind_some, qi, ql, qI_lt, qI_le, qI_eq, qI_L, qI_ix, qL_lt, qL_eq, q_nat, q_cs, ← Int32.ofInt_add, ← Int32.ofInt_sub, ← Int32.ofInt_mul, ← Int32.ofInt_neg, ← Int64.ofInt_add, ← Int64.ofInt_sub, ← Int64.ofInt_mul, ← Int64.ofInt_neg, pL_I, q_mx, q_mn, q_ab, q_abL, q_mnL, q_nn0, q_nn1, q_rr, q_b1, q_b0, q_T, q_F, q_iT, q_iF, q_d, q_in, q_wi, q_hC, q_hM, pT_i, pU_i, pS_i, pS_j, pS_0, Sum.elim_inl, Sum.elim_inr, if_pos, if_neg]
  · by_cases cy : 0 ≤ y ∧ y ≤ 3
    · by_cases c60 : 60 < z
      · refine pr_ro h false 5 ?_ ?_
        · simp (disch := omega) only [f_X11_tray, f_X11_no, e1, Option.bind_some, qi, ql, qI_lt, qI_le, qI_eq, qI_L, qI_ix, qL_lt, qL_eq, q_nat, q_cs, ← Int32.ofInt_add, ← Int32.ofInt_sub, ← Int32.ofInt_mul, ← Int32.ofInt_neg, ← Int64.ofInt_add, ← Int64.ofInt_sub, ← Int64.ofInt_mul, ← Int64.ofInt_neg, pL_I, q_mx, q_mn, q_ab, q_abL, q_mnL, q_nn0, q_nn1, q_rr, q_b1, q_b0, q_T, q_F, q_iT, q_iF, q_d, q_in, q_wi, q_hC, q_hM, pT_i, pU_i, pS_i, pS_j, pS_0, Sum.elim_inl, Sum.elim_inr, if_pos, if_neg]
        · simp (disch := omega) only [f_X12_tray, f_X12_no, Option.bind_some, qi, ql, qI_lt, qI_le, qI_eq, qI_L, qI_ix, qL_lt, qL_eq, q_nat, q_cs, ← Int32.ofInt_add, ← Int32.ofInt_sub, ← Int32.ofInt_mul, ← Int32.ofInt_neg, ← Int64.ofInt_add, ← Int64.ofInt_sub, ← Int64.ofInt_mul, ← Int64.ofInt_neg, pL_I, q_mx, q_mn, q_ab, q_abL, q_mnL, q_nn0, q_nn1, q_rr, q_b1, q_b0, q_T, q_F, q_iT, q_iF, q_d, q_in, q_wi, q_hC, q_hM, pT_i, pU_i, pS_i, pS_j, pS_0, Sum.elim_inl, Sum.elim_inr, if_pos, if_neg]
      · by_cases cz : z < 0
        · refine pr_ro h false 6 ?_ ?_
          · simp (disch := omega) only [f_X11_tray, f_X11_no, e1, Option.bind_some, qi, ql, qI_lt, qI_le, qI_eq, qI_L, qI_ix, qL_lt, qL_eq, q_nat, q_cs, ← Int32.ofInt_add, ← Int32.ofInt_sub, ← Int32.ofInt_mul, ← Int32.ofInt_neg, ← Int64.ofInt_add, ← Int64.ofInt_sub, ← Int64.ofInt_mul, ← Int64.ofInt_neg, pL_I, q_mx, q_mn, q_ab, q_abL, q_mnL, q_nn0, q_nn1, q_rr, q_b1, q_b0, q_T, q_F, q_iT, q_iF, q_d, q_in, q_wi, q_hC, q_hM, pT_i, pU_i, pS_i, pS_j, pS_0, Sum.elim_inl, Sum.elim_inr, if_pos, if_neg]
          · simp (disch := omega) only [f_X12_tray, f_X12_no, Option.bind_some, qi, ql, qI_lt, qI_le, qI_eq, qI_L, qI_ix, qL_lt, qL_eq, q_nat, q_cs, ← Int32.ofInt_add, ← Int32.ofInt_sub, ← Int32.ofInt_mul, ← Int32.ofInt_neg, ← Int64.ofInt_add, ← Int64.ofInt_sub, ← Int64.ofInt_mul, ← Int64.ofInt_neg, pL_I, q_mx, q_mn, q_ab, q_abL, q_mnL, q_nn0, q_nn1, q_rr, q_b1, q_b0, q_T, q_F, q_iT, q_iF, q_d, q_in, q_wi, q_hC, q_hM, pT_i, pU_i, pS_i, pS_j, pS_0, Sum.elim_inl, Sum.elim_inr, if_pos, if_neg]
        · have k1 := pt_make (σ := σ1) (t := t) (so := y) (mn := z) (by omega) (by omega)
          have k2 := pt_clear (σ := am_wI (am_wI (pS σ2 0) 1304 0 t (Int32.ofInt y)) 1305 0 t (Int32.ofInt z)) (t := t) (mn := z) ht (by omega) (by omega)
          refine ⟨true, pT (pz (am_wI (am_wI σ1 8 t 0 (Int32.ofInt y)) 8 t 1 (Int32.ofInt z)) 902 t 0 60) 0, pz (am_wI (am_wI (pS σ2 0) 1304 0 t (Int32.ofInt y)) 1305 0 t (Int32.ofInt z)) 1306 0 (60 * t) z.toNat, ?_, ?_, rfl, ?_⟩
          · simp (disch := omega) only [f_X11_tray, f_X11_yes, e1, k1, Option.bind_some, qi, ql, qI_lt, qI_le, qI_eq, qI_L, qI_ix, qL_lt, qL_eq, q_nat, q_cs, ← Int32.ofInt_add, ← Int32.ofInt_sub, ← Int32.ofInt_mul, ← Int32.ofInt_neg, ← Int64.ofInt_add, ← Int64.ofInt_sub, ← Int64.ofInt_mul, ← Int64.ofInt_neg, pL_I, q_mx, q_mn, q_ab, q_abL, q_mnL, q_nn0, q_nn1, q_rr, q_b1, q_b0, q_T, q_F, q_iT, q_iF, q_d, q_in, q_wi, q_hC, q_hM, pT_i, pU_i, pS_i, pS_j, pS_0, Sum.elim_inl, Sum.elim_inr, if_pos, if_neg]
          · simp (disch := omega) only [f_X12_tray, k2, Option.bind_some, qi, ql, qI_lt, qI_le, qI_eq, qI_L, qI_ix, qL_lt, qL_eq, q_nat, q_cs, ← Int32.ofInt_add, ← Int32.ofInt_sub, ← Int32.ofInt_mul, ← Int32.ofInt_neg, ← Int64.ofInt_add, ← Int64.ofInt_sub, ← Int64.ofInt_mul, ← Int64.ofInt_neg, pL_I, q_mx, q_mn, q_ab, q_abL, q_mnL, q_nn0, q_nn1, q_rr, q_b1, q_b0, q_T, q_F, q_iT, q_iF, q_d, q_in, q_wi, q_hC, q_hM, pT_i, pU_i, pS_i, pS_j, pS_0, Sum.elim_inl, Sum.elim_inr, if_pos, if_neg]
          · refine h.2.st [(11, 0), (8, 999), (902, 999)] [(12, 0), (12, 1), (1304, 999), (1305, 999), (1306, 999)] [1] (by decide +kernel) ?_ ?_ ?_
            · exact (((qf.rf.wI rfl).wI rfl).pz (fun _ => rfl)).wI rfl
            · exact ((((qf.rf.wI rfl).wI rfl).wI rfl).wI rfl).pz (fun _ => rfl)
            · intro n hn
              rw [List.mem_singleton] at hn
              subst hn
              intro t' ht'
              by_cases ct : t' = t
              · subst ct
                refine ⟨y, z, by simp [pT, pz, am_wI, am_u3], by simp [pT, pz, am_wI, am_u3], Or.inr ⟨cy, by omega, by simp [pz, am_wI, am_u3], by simp [pz, am_wI, am_u3], fun j hj => ?_⟩⟩
                have hj2 : j < z.toNat := by omega
                have hj3 : j < 60 := by omega
                simp [pT, pz, am_wI, am_u3, hj2, hj3]
              · obtain ⟨so, mn, d1, d2, d3⟩ := (show pr_trays σ1 σ2 from h.2 1 (by omega)) t' ht'
                refine ⟨so, mn, ?_, ?_, ?_⟩
                · simp [pT, pz, am_wI, am_u3, ct]
                  exact d1
                · simp [pT, pz, am_wI, am_u3, ct]
                  exact d2
                · rcases d3 with ⟨f1, f2, f3⟩ | ⟨f1, f2, f3, f4, f5⟩
                  · refine Or.inl ⟨f1, f2, ?_⟩
                    simp [pS, pU, pz, am_wI, am_u3, ct]
                    exact f3
                  · refine Or.inr ⟨f1, f2, ?_, ?_, fun j hj => ?_⟩
                    · simp [pS, pU, pz, am_wI, am_u3, ct]
                      exact f3
                    · simp [pS, pU, pz, am_wI, am_u3, ct]
                      exact f4
                    · have g := f5 j hj
                      have hn : ¬ (60 * t ≤ 60 * t' + j ∧ 60 * t' + j < 60 * t + z.toNat) := by omega
                      simp [pT, pS, pU, pz, am_wI, am_u3, ct, hn]
                      exact g
    · refine pr_ro h false 1 ?_ ?_
      · by_cases c0 : y < 0
        · simp (disch := omega) only [f_X11_tray, f_X11_tray_21, f_X11_no, e1, Option.bind_some, qi, ql, qI_lt, qI_le, qI_eq, qI_L, qI_ix, qL_lt, qL_eq, q_nat, q_cs, ← Int32.ofInt_add, ← Int32.ofInt_sub, ← Int32.ofInt_mul, ← Int32.ofInt_neg, ← Int64.ofInt_add, ← Int64.ofInt_sub, ← Int64.ofInt_mul, ← Int64.ofInt_neg, pL_I, q_mx, q_mn, q_ab, q_abL, q_mnL, q_nn0, q_nn1, q_rr, q_b1, q_b0, q_T, q_F, q_iT, q_iF, q_d, q_in, q_wi, q_hC, q_hM, pT_i, pU_i, pS_i, pS_j, pS_0, Sum.elim_inl, Sum.elim_inr, if_pos, if_neg]
        · simp (disch := omega) only [f_X11_tray, f_X11_tray_21, f_X11_no, e1, Option.bind_some, qi, ql, qI_lt, qI_le, qI_eq, qI_L, qI_ix, qL_lt, qL_eq, q_nat, q_cs, ← Int32.ofInt_add, ← Int32.ofInt_sub, ← Int32.ofInt_mul, ← Int32.ofInt_neg, ← Int64.ofInt_add, ← Int64.ofInt_sub, ← Int64.ofInt_mul, ← Int64.ofInt_neg, pL_I, q_mx, q_mn, q_ab, q_abL, q_mnL, q_nn0, q_nn1, q_rr, q_b1, q_b0, q_T, q_F, q_iT, q_iF, q_d, q_in, q_wi, q_hC, q_hM, pT_i, pU_i, pS_i, pS_j, pS_0, Sum.elim_inl, Sum.elim_inr, if_pos, if_neg]
      · by_cases c0 : y < 0
        · simp (disch := omega) only [f_X12_tray, f_X12_tray_28, f_X12_no, Option.bind_some, qi, ql, qI_lt, qI_le, qI_eq, qI_L, qI_ix, qL_lt, qL_eq, q_nat, q_cs, ← Int32.ofInt_add, ← Int32.ofInt_sub, ← Int32.ofInt_mul, ← Int32.ofInt_neg, ← Int64.ofInt_add, ← Int64.ofInt_sub, ← Int64.ofInt_mul, ← Int64.ofInt_neg, pL_I, q_mx, q_mn, q_ab, q_abL, q_mnL, q_nn0, q_nn1, q_rr, q_b1, q_b0, q_T, q_F, q_iT, q_iF, q_d, q_in, q_wi, q_hC, q_hM, pT_i, pU_i, pS_i, pS_j, pS_0, Sum.elim_inl, Sum.elim_inr, if_pos, if_neg]
        · simp (disch := omega) only [f_X12_tray, f_X12_tray_28, f_X12_no, Option.bind_some, qi, ql, qI_lt, qI_le, qI_eq, qI_L, qI_ix, qL_lt, qL_eq, q_nat, q_cs, ← Int32.ofInt_add, ← Int32.ofInt_sub, ← Int32.ofInt_mul, ← Int32.ofInt_neg, ← Int64.ofInt_add, ← Int64.ofInt_sub, ← Int64.ofInt_mul, ← Int64.ofInt_neg, pL_I, q_mx, q_mn, q_ab, q_abL, q_mnL, q_nn0, q_nn1, q_rr, q_b1, q_b0, q_T, q_F, q_iT, q_iF, q_d, q_in, q_wi, q_hC, q_hM, pT_i, pU_i, pS_i, pS_j, pS_0, Sum.elim_inl, Sum.elim_inr, if_pos, if_neg]
/-- a place of a tray, or why not -/
theorem pt_why {σ1 σ2 : am_H} (x : pr_Core σ1 σ2) {v u : Int} (h1 : -2147483648 ≤ v) (h2 : v < 2147483648) (h3 : -2147483648 ≤ u) (h4 : u < 2147483648) : (∃ c : Int, (1 ≤ c ∧ c ≤ 4) ∧ f_X11_whyNoPlace (Int32.ofInt v) (Int32.ofInt u) σ1 = some (Int32.ofInt c) ∧ f_X12_placed (Int32.ofInt v) (Int32.ofInt u) σ2 = some (Int32.ofInt c)) ∨ ∃ (t j : Nat) (so mn : Int), t < 5 ∧ v = t ∧ u = j ∧ (j : Int) < mn ∧ f_X11_whyNoPlace (Int32.ofInt t) (Int32.ofInt j) σ1 = some (Int32.ofInt 0) ∧ f_X12_placed (Int32.ofInt t) (Int32.ofInt j) σ2 = some (Int32.ofInt 0) ∧ (0 ≤ so ∧ so ≤ 3) ∧ (0 ≤ mn ∧ mn ≤ 60) ∧ σ1.1 8 t 0 = Int32.ofInt so ∧ σ1.1 8 t 1 = Int32.ofInt mn ∧ σ2.1 1304 0 t = Int32.ofInt so ∧ σ2.1 1305 0 t = Int32.ofInt mn ∧ ∀ j : Nat, (j : Int) < mn → σ1.2.1 902 t j = σ2.2.1 1306 0 (60 * t + j) := by
  rcases pr_t x h1 h2 with ⟨c, e1⟩ | ⟨t, ht, rfl, e1, so, mn, d1, d2, d3⟩
  · left
    refine ⟨1, by omega, ?_, ?_⟩
    · simp (disch := omega) only [f_X11_whyNoPlace, e1, Option.bind_some, qi, ql, qI_lt, qI_le, qI_eq, qI_L, qI_ix, qL_lt, qL_eq, q_nat, q_cs, ← Int32.ofInt_add, ← Int32.ofInt_sub, ← Int32.ofInt_mul, ← Int32.ofInt_neg, ← Int64.ofInt_add, ← Int64.ofInt_sub, ← Int64.ofInt_mul, ← Int64.ofInt_neg, pL_I, q_mx, q_mn, q_ab, q_abL, q_mnL, q_nn0, q_nn1, q_rr, q_b1, q_b0, q_T, q_F, q_iT, q_iF, q_d, q_in, q_wi, q_hC, q_hM, pT_i, pU_i, pS_i, pS_j, pS_0, Sum.elim_inl, Sum.elim_inr, if_pos, if_neg]
    · by_cases c0 : v < 0
      · simp (disch := omega) only [f_X12_placed, f_X12_trayed, Option.bind_some, qi, ql, qI_lt, qI_le, qI_eq, qI_L, qI_ix, qL_lt, qL_eq, q_nat, q_cs, ← Int32.ofInt_add, ← Int32.ofInt_sub, ← Int32.ofInt_mul, ← Int32.ofInt_neg, ← Int64.ofInt_add, ← Int64.ofInt_sub, ← Int64.ofInt_mul, ← Int64.ofInt_neg, pL_I, q_mx, q_mn, q_ab, q_abL, q_mnL, q_nn0, q_nn1, q_rr, q_b1, q_b0, q_T, q_F, q_iT, q_iF, q_d, q_in, q_wi, q_hC, q_hM, pT_i, pU_i, pS_i, pS_j, pS_0, Sum.elim_inl, Sum.elim_inr, if_pos, if_neg]
      · simp (disch := omega) only [f_X12_placed, f_X12_trayed, Option.bind_some, qi, ql, qI_lt, qI_le, qI_eq, qI_L, qI_ix, qL_lt, qL_eq, q_nat, q_cs, ← Int32.ofInt_add, ← Int32.ofInt_sub, ← Int32.ofInt_mul, ← Int32.ofInt_neg, ← Int64.ofInt_add, ← Int64.ofInt_sub, ← Int64.ofInt_mul, ← Int64.ofInt_neg, pL_I, q_mx, q_mn, q_ab, q_abL, q_mnL, q_nn0, q_nn1, q_rr, q_b1, q_b0, q_T, q_F, q_iT, q_iF, q_d, q_in, q_wi, q_hC, q_hM, pT_i, pU_i, pS_i, pS_j, pS_0, Sum.elim_inl, Sum.elim_inr, if_pos, if_neg]
  · rcases d3 with ⟨rfl, rfl, f3⟩ | ⟨f1, f2, f3, f4, f5⟩
    · left
      refine ⟨3, by omega, ?_, ?_⟩
      · simp (disch := omega) only [f_X11_whyNoPlace, e1, f_X8_isMissing, d1, Option.bind_some, qi, ql, qI_lt, qI_le, qI_eq, qI_L, qI_ix, qL_lt, qL_eq, q_nat, q_cs, ← Int32.ofInt_add, ← Int32.ofInt_sub, ← Int32.ofInt_mul, ← Int32.ofInt_neg, ← Int64.ofInt_add, ← Int64.ofInt_sub, ← Int64.ofInt_mul, ← Int64.ofInt_neg, pL_I, q_mx, q_mn, q_ab, q_abL, q_mnL, q_nn0, q_nn1, q_rr, q_b1, q_b0, q_T, q_F, q_iT, q_iF, q_d, q_in, q_wi, q_hC, q_hM, pT_i, pU_i, pS_i, pS_j, pS_0, Sum.elim_inl, Sum.elim_inr, if_pos, if_neg]
      · simp (disch := omega) only [f_X12_placed, f_X12_trayed, f3, Option.bind_some, qi, ql, qI_lt, qI_le, qI_eq, qI_L, qI_ix, qL_lt, qL_eq, q_nat, q_cs, ← Int32.ofInt_add, ← Int32.ofInt_sub, ← Int32.ofInt_mul, ← Int32.ofInt_neg, ← Int64.ofInt_add, ← Int64.ofInt_sub, ← Int64.ofInt_mul, ← Int64.ofInt_neg, pL_I, q_mx, q_mn, q_ab, q_abL, q_mnL, q_nn0, q_nn1, q_rr, q_b1, q_b0, q_T, q_F, q_iT, q_iF, q_d, q_in, q_wi, q_hC, q_hM, pT_i, pU_i, pS_i, pS_j, pS_0, Sum.elim_inl, Sum.elim_inr, if_pos, if_neg]
    · by_cases cu : 0 ≤ u ∧ u < mn
      · right
        obtain ⟨j, rfl⟩ : ∃ i : Nat, u = i := ⟨u.toNat, by omega⟩
        refine ⟨t, j, so, mn, ht, rfl, rfl, cu.2, ?_, ?_, f1, f2, d1, d2, f3, f4, f5⟩
        · simp (disch := omega) only [f_X11_whyNoPlace, e1, f_X8_isMissing, d1, d2, Option.bind_some, qi, ql, qI_lt, qI_le, qI_eq, qI_L, qI_ix, qL_lt, qL_eq, q_nat, q_cs, ← Int32.ofInt_add, ← Int32.ofInt_sub, ← Int32.ofInt_mul, ← Int32.ofInt_neg, ← Int64.ofInt_add, ← Int64.ofInt_sub, ← Int64.ofInt_mul, ← Int64.ofInt_neg, pL_I, q_mx, q_mn, q_ab, q_abL, q_mnL, q_nn0, q_nn1, q_rr, q_b1, q_b0, q_T, q_F, q_iT, q_iF, q_d, q_in, q_wi, q_hC, q_hM, pT_i, pU_i, pS_i, pS_j, pS_0, Sum.elim_inl, Sum.elim_inr, if_pos, if_neg]
        · simp (disch := omega) only [f_X12_placed, f_X12_trayed, f4, Option.bind_some, qi, ql, qI_lt, qI_le, qI_eq, qI_L, qI_ix, qL_lt, qL_eq, q_nat, q_cs, ← Int32.ofInt_add, ← Int32.ofInt_sub, ← Int32.ofInt_mul, ← Int32.ofInt_neg, ← Int64.ofInt_add, ← Int64.ofInt_sub, ← Int64.ofInt_mul, ← Int64.ofInt_neg, pL_I, q_mx, q_mn, q_ab, q_abL, q_mnL, q_nn0, q_nn1, q_rr, q_b1, q_b0, q_T, q_F, q_iT, q_iF, q_d, q_in, q_wi, q_hC, q_hM, pT_i, pU_i, pS_i, pS_j, pS_0, Sum.elim_inl, Sum.elim_inr, if_pos, if_neg]
      · left
        refine ⟨4, by omega, ?_, ?_⟩
        · by_cases c0 : u < 0
          · simp (disch := omega) only [f_X11_whyNoPlace, e1, f_X8_isMissing, d1, d2, Option.bind_some, qi, ql, qI_lt, qI_le, qI_eq, qI_L, qI_ix, qL_lt, qL_eq, q_nat, q_cs, ← Int32.ofInt_add, ← Int32.ofInt_sub, ← Int32.ofInt_mul, ← Int32.ofInt_neg, ← Int64.ofInt_add, ← Int64.ofInt_sub, ← Int64.ofInt_mul, ← Int64.ofInt_neg, pL_I, q_mx, q_mn, q_ab, q_abL, q_mnL, q_nn0, q_nn1, q_rr, q_b1, q_b0, q_T, q_F, q_iT, q_iF, q_d, q_in, q_wi, q_hC, q_hM, pT_i, pU_i, pS_i, pS_j, pS_0, Sum.elim_inl, Sum.elim_inr, if_pos, if_neg]
          · simp (disch := omega) only [f_X11_whyNoPlace, e1, f_X8_isMissing, d1, d2, Option.bind_some, qi, ql, qI_lt, qI_le, qI_eq, qI_L, qI_ix, qL_lt, qL_eq, q_nat, q_cs, ← Int32.ofInt_add, ← Int32.ofInt_sub, ← Int32.ofInt_mul, ← Int32.ofInt_neg, ← Int64.ofInt_add, ← Int64.ofInt_sub, ← Int64.ofInt_mul, ← Int64.ofInt_neg, pL_I, q_mx, q_mn, q_ab, q_abL, q_mnL, q_nn0, q_nn1, q_rr, q_b1, q_b0, q_T, q_F, q_iT, q_iF, q_d, q_in, q_wi, q_hC, q_hM, pT_i, pU_i, pS_i, pS_j, pS_0, Sum.elim_inl, Sum.elim_inr, if_pos, if_neg]
        · by_cases c0 : u < 0
          · simp (disch := omega) only [f_X12_placed, f_X12_trayed, f4, Option.bind_some, qi, ql, qI_lt, qI_le, qI_eq, qI_L, qI_ix, qL_lt, qL_eq, q_nat, q_cs, ← Int32.ofInt_add, ← Int32.ofInt_sub, ← Int32.ofInt_mul, ← Int32.ofInt_neg, ← Int64.ofInt_add, ← Int64.ofInt_sub, ← Int64.ofInt_mul, ← Int64.ofInt_neg, pL_I, q_mx, q_mn, q_ab, q_abL, q_mnL, q_nn0, q_nn1, q_rr, q_b1, q_b0, q_T, q_F, q_iT, q_iF, q_d, q_in, q_wi, q_hC, q_hM, pT_i, pU_i, pS_i, pS_j, pS_0, Sum.elim_inl, Sum.elim_inr, if_pos, if_neg]
          · simp (disch := omega) only [f_X12_placed, f_X12_trayed, f4, Option.bind_some, qi, ql, qI_lt, qI_le, qI_eq, qI_L, qI_ix, qL_lt, qL_eq, q_nat, q_cs, ← Int32.ofInt_add, ← Int32.ofInt_sub, ← Int32.ofInt_mul, ← Int32.ofInt_neg, ← Int64.ofInt_add, ← Int64.ofInt_sub, ← Int64.ofInt_mul, ← Int64.ofInt_neg, pL_I, q_mx, q_mn, q_ab, q_abL, q_mnL, q_nn0, q_nn1, q_rr, q_b1, q_b0, q_T, q_F, q_iT, q_iF, q_d, q_in, q_wi, q_hC, q_hM, pT_i, pU_i, pS_i, pS_j, pS_0, Sum.elim_inl, Sum.elim_inr, if_pos, if_neg]
theorem po_5 : am_op_5 pr_Rel := by
  intro σ1 σ2 h v1 v2
  obtain ⟨x, x1, x2, rfl⟩ := q_ex v1
  obtain ⟨y, y1, y2, rfl⟩ := q_ex v2
  rcases pt_why h.2.U x1 x2 y1 y2 with ⟨c, ⟨c0, c1⟩, e1, e2⟩ | ⟨t, j, so, mn, ht, rfl, rfl, hj, e1, e2, s, ⟨m0, m1⟩, d1, d2, d3, d4, d5⟩
  · refine pr_ro h (Int64.ofInt (-1)) c ?_ ?_
    · simp (disch := omega) only [f_X11_read, f_X11_none, e1, Option.bind_some, qi, ql, qI_lt, qI_le, qI_eq, qI_L, qI_ix, qL_lt, qL_eq, q_nat, q_cs, ← Int32.ofInt_add, ← Int32.ofInt_sub, ← Int32.ofInt_mul, ← Int32.ofInt_neg, ← Int64.ofInt_add, ← Int64.ofInt_sub, ← Int64.ofInt_mul, ← Int64.ofInt_neg, pL_I, q_mx, q_mn, q_ab, q_abL, q_mnL, q_nn0, q_nn1, q_rr, q_b1, q_b0, q_T, q_F, q_iT, q_iF, q_d, q_in, q_wi, q_hC, q_hM, pT_i, pU_i, pS_i, pS_j, pS_0, Sum.elim_inl, Sum.elim_inr, if_pos, if_neg]
    · simp (disch := omega) only [f_X12_read, e2, Option.bind_some, qi, ql, qI_lt, qI_le, qI_eq, qI_L, qI_ix, qL_lt, qL_eq, q_nat, q_cs, ← Int32.ofInt_add, ← Int32.ofInt_sub, ← Int32.ofInt_mul, ← Int32.ofInt_neg, ← Int64.ofInt_add, ← Int64.ofInt_sub, ← Int64.ofInt_mul, ← Int64.ofInt_neg, pL_I, q_mx, q_mn, q_ab, q_abL, q_mnL, q_nn0, q_nn1, q_rr, q_b1, q_b0, q_T, q_F, q_iT, q_iF, q_d, q_in, q_wi, q_hC, q_hM, pT_i, pU_i, pS_i, pS_j, pS_0, Sum.elim_inl, Sum.elim_inr, if_pos, if_neg]
  · have d2' : (pT σ1 0).1 8 t 1 = Int32.ofInt mn := d2
    refine pr_ro h (σ1.2.1 902 t j) 0 ?_ ?_
    · simp (disch := omega) only [f_X11_read, f_X8_at, e1, d2', Option.bind_some, qi, ql, qI_lt, qI_le, qI_eq, qI_L, qI_ix, qL_lt, qL_eq, q_nat, q_cs, ← Int32.ofInt_add, ← Int32.ofInt_sub, ← Int32.ofInt_mul, ← Int32.ofInt_neg, ← Int64.ofInt_add, ← Int64.ofInt_sub, ← Int64.ofInt_mul, ← Int64.ofInt_neg, pL_I, q_mx, q_mn, q_ab, q_abL, q_mnL, q_nn0, q_nn1, q_rr, q_b1, q_b0, q_T, q_F, q_iT, q_iF, q_d, q_in, q_wi, q_hC, q_hM, pT_i, pU_i, pS_i, pS_j, pS_0, Sum.elim_inl, Sum.elim_inr, if_pos, if_neg]
      rfl
    · have e : (60 * (t : Int) + j).toNat = 60 * t + j := by omega
      simp (disch := omega) only [f_X12_read, e2, e, d5 j hj, Option.bind_some, qi, ql, qI_lt, qI_le, qI_eq, qI_L, qI_ix, qL_lt, qL_eq, q_nat, q_cs, ← Int32.ofInt_add, ← Int32.ofInt_sub, ← Int32.ofInt_mul, ← Int32.ofInt_neg, ← Int64.ofInt_add, ← Int64.ofInt_sub, ← Int64.ofInt_mul, ← Int64.ofInt_neg, pL_I, q_mx, q_mn, q_ab, q_abL, q_mnL, q_nn0, q_nn1, q_rr, q_b1, q_b0, q_T, q_F, q_iT, q_iF, q_d, q_in, q_wi, q_hC, q_hM, pT_i, pU_i, pS_i, pS_j, pS_0, Sum.elim_inl, Sum.elim_inr, if_pos, if_neg]
      rfl
/-- what is kept of a number in a tray of a sort -/
def pt_cut (so : Int) (v : Int64) : Int64 := if so = 0 then Int32.toInt64 (Int8.toInt32 (Int32.toInt8 (Int64.toInt32 v))) else if so = 1 then Int32.toInt64 (Int16.toInt32 (Int32.toInt16 (Int64.toInt32 v))) else if so = 2 then Int32.toInt64 (Int64.toInt32 v) else v
theorem po_4 : am_op_4 pr_Rel := by
  intro σ1 σ2 h v1 v2 v3
  obtain ⟨x, x1, x2, rfl⟩ := q_ex v1
  obtain ⟨y, y1, y2, rfl⟩ := q_ex v2
  rcases pt_why h.2.U x1 x2 y1 y2 with ⟨c, ⟨c0, c1⟩, e1, e2⟩ | ⟨t, j, so, mn, ht, rfl, rfl, hj, e1, e2, s, ⟨m0, m1⟩, d1, d2, d3, d4, d5⟩
  · refine pr_ro h false c ?_ ?_
    · simp (disch := omega) only [f_X11_write, f_X11_no, e1, Option.bind_some, qi, ql, qI_lt, qI_le, qI_eq, qI_L, qI_ix, qL_lt, qL_eq, q_nat, q_cs, ← Int32.ofInt_add, ← Int32.ofInt_sub, ← Int32.ofInt_mul, ← Int32.ofInt_neg, ← Int64.ofInt_add, ← Int64.ofInt_sub, ← Int64.ofInt_mul, ← Int64.ofInt_neg, pL_I, q_mx, q_mn, q_ab, q_abL, q_mnL, q_nn0, q_nn1, q_rr, q_b1, q_b0, q_T, q_F, q_iT, q_iF, q_d, q_in, q_wi, q_hC, q_hM, pT_i, pU_i, pS_i, pS_j, pS_0, Sum.elim_inl, Sum.elim_inr, if_pos, if_neg]
    · simp (disch := omega) only [f_X12_write, e2, Option.bind_some, qi, ql, qI_lt, qI_le, qI_eq, qI_L, qI_ix, qL_lt, qL_eq, q_nat, q_cs, ← Int32.ofInt_add, ← Int32.ofInt_sub, ← Int32.ofInt_mul, ← Int32.ofInt_neg, ← Int64.ofInt_add, ← Int64.ofInt_sub, ← Int64.ofInt_mul, ← Int64.ofInt_neg, pL_I, q_mx, q_mn, q_ab, q_abL, q_mnL, q_nn0, q_nn1, q_rr, q_b1, q_b0, q_T, q_F, q_iT, q_iF, q_d, q_in, q_wi, q_hC, q_hM, pT_i, pU_i, pS_i, pS_j, pS_0, Sum.elim_inl, Sum.elim_inr, if_pos, if_neg]
  · have e : (60 * (t : Int) + j).toNat = 60 * t + j := by omega
    have d3' : (pS σ2 0).1 1304 0 t = Int32.ofInt so := d3
    have k1 : f_X8_put t (Int32.ofInt j) v3 σ1 = some (am_wL σ1 902 t j (pt_cut so v3)) := by
      unfold pt_cut
      by_cases s0 : so = 0
      · simp (disch := omega) only [f_X8_put, d1, d2, Option.bind_some, qi, ql, qI_lt, qI_le, qI_eq, qI_L, qI_ix, qL_lt, qL_eq, q_nat, q_cs, ← Int32.ofInt_add, ← Int32.ofInt_sub, ← Int32.ofInt_mul, ← Int32.ofInt_neg, ← Int64.ofInt_add, ← Int64.ofInt_sub, ← Int64.ofInt_mul, ← Int64.ofInt_neg, pL_I, q_mx, q_mn, q_ab, q_abL, q_mnL, q_nn0, q_nn1, q_rr, q_b1, q_b0, q_T, q_F, q_iT, q_iF, q_d, q_in, q_wi, q_hC, q_hM, pT_i, pU_i, pS_i, pS_j, pS_0, Sum.elim_inl, Sum.elim_inr, if_pos, if_neg]
      · by_cases s1 : so = 1
        · simp (disch := omega) only [f_X8_put, d1, d2, Option.bind_some, qi, ql, qI_lt, qI_le, qI_eq, qI_L, qI_ix, qL_lt, qL_eq, q_nat, q_cs, ← Int32.ofInt_add, ← Int32.ofInt_sub, ← Int32.ofInt_mul, ← Int32.ofInt_neg, ← Int64.ofInt_add, ← Int64.ofInt_sub, ← Int64.ofInt_mul, ← Int64.ofInt_neg, pL_I, q_mx, q_mn, q_ab, q_abL, q_mnL, q_nn0, q_nn1, q_rr, q_b1, q_b0, q_T, q_F, q_iT, q_iF, q_d, q_in, q_wi, q_hC, q_hM, pT_i, pU_i, pS_i, pS_j, pS_0, Sum.elim_inl, Sum.elim_inr, if_pos, if_neg]
        · by_cases s2 : so = 2
          · simp (disch := omega) only [f_X8_put, d1, d2, Option.bind_some, qi, ql, qI_lt, qI_le, qI_eq, qI_L, qI_ix, qL_lt, qL_eq, q_nat, q_cs, ← Int32.ofInt_add, ← Int32.ofInt_sub, ← Int32.ofInt_mul, ← Int32.ofInt_neg, ← Int64.ofInt_add, ← Int64.ofInt_sub, ← Int64.ofInt_mul, ← Int64.ofInt_neg, pL_I, q_mx, q_mn, q_ab, q_abL, q_mnL, q_nn0, q_nn1, q_rr, q_b1, q_b0, q_T, q_F, q_iT, q_iF, q_d, q_in, q_wi, q_hC, q_hM, pT_i, pU_i, pS_i, pS_j, pS_0, Sum.elim_inl, Sum.elim_inr, if_pos, if_neg]
          · simp (disch := omega) only [f_X8_put, d1, d2, Option.bind_some, qi, ql, qI_lt, qI_le, qI_eq, qI_L, qI_ix, qL_lt, qL_eq, q_nat, q_cs, ← Int32.ofInt_add, ← Int32.ofInt_sub, ← Int32.ofInt_mul, ← Int32.ofInt_neg, ← Int64.ofInt_add, ← Int64.ofInt_sub, ← Int64.ofInt_mul, ← Int64.ofInt_neg, pL_I, q_mx, q_mn, q_ab, q_abL, q_mnL, q_nn0, q_nn1, q_rr, q_b1, q_b0, q_T, q_F, q_iT, q_iF, q_d, q_in, q_wi, q_hC, q_hM, pT_i, pU_i, pS_i, pS_j, pS_0, Sum.elim_inl, Sum.elim_inr, if_pos, if_neg]
    have k2 : f_X12_cut (Int32.ofInt so) v3 (pS σ2 0) = some (pt_cut so v3) := by
      unfold pt_cut
      by_cases s0 : so = 0
      · simp (disch := omega) only [f_X12_cut, Option.bind_some, qi, ql, qI_lt, qI_le, qI_eq, qI_L, qI_ix, qL_lt, qL_eq, q_nat, q_cs, ← Int32.ofInt_add, ← Int32.ofInt_sub, ← Int32.ofInt_mul, ← Int32.ofInt_neg, ← Int64.ofInt_add, ← Int64.ofInt_sub, ← Int64.ofInt_mul, ← Int64.ofInt_neg, pL_I, q_mx, q_mn, q_ab, q_abL, q_mnL, q_nn0, q_nn1, q_rr, q_b1, q_b0, q_T, q_F, q_iT, q_iF, q_d, q_in, q_wi, q_hC, q_hM, pT_i, pU_i, pS_i, pS_j, pS_0, Sum.elim_inl, Sum.elim_inr, if_pos, if_neg]
      · by_cases s1 : so = 1
        · simp (disch := omega) only [f_X12_cut, Option.bind_some, qi, ql, qI_lt, qI_le, qI_eq, qI_L, qI_ix, qL_lt, qL_eq, q_nat, q_cs, ← Int32.ofInt_add, ← Int32.ofInt_sub, ← Int32.ofInt_mul, ← Int32.ofInt_neg, ← Int64.ofInt_add, ← Int64.ofInt_sub, ← Int64.ofInt_mul, ← Int64.ofInt_neg, pL_I, q_mx, q_mn, q_ab, q_abL, q_mnL, q_nn0, q_nn1, q_rr, q_b1, q_b0, q_T, q_F, q_iT, q_iF, q_d, q_in, q_wi, q_hC, q_hM, pT_i, pU_i, pS_i, pS_j, pS_0, Sum.elim_inl, Sum.elim_inr, if_pos, if_neg]
        · by_cases s2 : so = 2
          · simp (disch := omega) only [f_X12_cut, Option.bind_some, qi, ql, qI_lt, qI_le, qI_eq, qI_L, qI_ix, qL_lt, qL_eq, q_nat, q_cs, ← Int32.ofInt_add, ← Int32.ofInt_sub, ← Int32.ofInt_mul, ← Int32.ofInt_neg, ← Int64.ofInt_add, ← Int64.ofInt_sub, ← Int64.ofInt_mul, ← Int64.ofInt_neg, pL_I, q_mx, q_mn, q_ab, q_abL, q_mnL, q_nn0, q_nn1, q_rr, q_b1, q_b0, q_T, q_F, q_iT, q_iF, q_d, q_in, q_wi, q_hC, q_hM, pT_i, pU_i, pS_i, pS_j, pS_0, Sum.elim_inl, Sum.elim_inr, if_pos, if_neg]
          · simp (disch := omega) only [f_X12_cut, Option.bind_some, qi, ql, qI_lt, qI_le, qI_eq, qI_L, qI_ix, qL_lt, qL_eq, q_nat, q_cs, ← Int32.ofInt_add, ← Int32.ofInt_sub, ← Int32.ofInt_mul, ← Int32.ofInt_neg, ← Int64.ofInt_add, ← Int64.ofInt_sub, ← Int64.ofInt_mul, ← Int64.ofInt_neg, pL_I, q_mx, q_mn, q_ab, q_abL, q_mnL, q_nn0, q_nn1, q_rr, q_b1, q_b0, q_T, q_F, q_iT, q_iF, q_d, q_in, q_wi, q_hC, q_hM, pT_i, pU_i, pS_i, pS_j, pS_0, Sum.elim_inl, Sum.elim_inr, if_pos, if_neg]
    refine ⟨true, pT (am_wL σ1 902 t j (pt_cut so v3)) 0, am_wL (pS σ2 0) 1306 0 (60 * t + j) (pt_cut so v3), ?_, ?_, rfl, ?_⟩
    · simp (disch := omega) only [f_X11_write, f_X11_yes, e1, k1, Option.bind_some, qi, ql, qI_lt, qI_le, qI_eq, qI_L, qI_ix, qL_lt, qL_eq, q_nat, q_cs, ← Int32.ofInt_add, ← Int32.ofInt_sub, ← Int32.ofInt_mul, ← Int32.ofInt_neg, ← Int64.ofInt_add, ← Int64.ofInt_sub, ← Int64.ofInt_mul, ← Int64.ofInt_neg, pL_I, q_mx, q_mn, q_ab, q_abL, q_mnL, q_nn0, q_nn1, q_rr, q_b1, q_b0, q_T, q_F, q_iT, q_iF, q_d, q_in, q_wi, q_hC, q_hM, pT_i, pU_i, pS_i, pS_j, pS_0, Sum.elim_inl, Sum.elim_inr, if_pos, if_neg]
    · simp (disch := omega) only [f_X12_write, e2, d3', k2, e, Option.bind_some, qi, ql, qI_lt, qI_le, qI_eq, qI_L, qI_ix, qL_lt, qL_eq, q_nat, q_cs, ← Int32.ofInt_add, ← Int32.ofInt_sub, ← Int32.ofInt_mul, ← Int32.ofInt_neg, ← Int64.ofInt_add, ← Int64.ofInt_sub, ← Int64.ofInt_mul, ← Int64.ofInt_neg, pL_I, q_mx, q_mn, q_ab, q_abL, q_mnL, q_nn0, q_nn1, q_rr, q_b1, q_b0, q_T, q_F, q_iT, q_iF, q_d, q_in, q_wi, q_hC, q_hM, pT_i, pU_i, pS_i, pS_j, pS_0, Sum.elim_inl, Sum.elim_inr, if_pos, if_neg]
    · refine h.2.st [(11, 0), (902, 999)] [(12, 0), (12, 1), (1306, 999)] [1] (by decide +kernel) ((qf.rf.wL rfl).wI rfl) (((qf.rf.wI rfl).wI rfl).wL rfl) ?_
      intro n hn
      rw [List.mem_singleton] at hn
      subst hn
      intro t' ht'
      obtain ⟨so', mn', g1, g2, g3⟩ := (show pr_trays σ1 σ2 from h.2 1 (by omega)) t' ht'
      refine ⟨so', mn', g1, g2, ?_⟩
      rcases g3 with ⟨f1, f2, f3⟩ | ⟨f1, f2, f3, f4, f5⟩
      · exact Or.inl ⟨f1, f2, f3⟩
      · refine Or.inr ⟨f1, f2, f3, f4, fun k hk => ?_⟩
        show (if 902 = 902 ∧ t' = t ∧ k = j then pt_cut so v3 else σ1.2.1 902 t' k) = (if 1306 = 1306 ∧ 0 = 0 ∧ 60 * t' + k = 60 * t + j then pt_cut so v3 else σ2.2.1 1306 0 (60 * t' + k))
        by_cases c : t' = t ∧ k = j
        · rw [if_pos ⟨rfl, c.1, c.2⟩, if_pos ⟨rfl, rfl, by omega⟩]
        · rw [if_neg (fun z => c z.2), if_neg (fun z => c (by omega))]
          exact f5 k hk
/-- numbers from S on come to D on: those from lo on, n of them -/
def pcp (σ : am_H) (S D lo n : Nat) : am_H := (σ.1, fun a b c => if a = 1306 ∧ b = 0 ∧ D + lo ≤ c ∧ c < D + lo + n then σ.2.1 1306 0 (S + (c - D)) else σ.2.1 a b c, σ.2.2)
theorem pcp_0 {σ : am_H} {S D lo : Nat} : pcp σ S D lo 0 = σ := by
  refine Prod.ext rfl (Prod.ext (funext fun x => funext fun y => funext fun z => ?_) rfl)
  show (if x = 1306 ∧ y = 0 ∧ D + lo ≤ z ∧ z < D + lo + 0 then σ.2.1 1306 0 (S + (z - D)) else σ.2.1 x y z) = _
  rw [if_neg (by omega)]
theorem pcp_up {σ : am_H} {S D n : Nat} (h : ¬ (D ≤ S + n ∧ S + n < D + n)) : am_wL (pcp σ S D 0 n) 1306 0 (D + n) ((pcp σ S D 0 n).2.1 1306 0 (S + n)) = pcp σ S D 0 (n + 1) := by
  refine Prod.ext rfl (Prod.ext (funext fun x => funext fun y => funext fun z => ?_) rfl)
  show (if x = 1306 ∧ y = 0 ∧ z = D + n then (if 1306 = 1306 ∧ 0 = 0 ∧ D + 0 ≤ S + n ∧ S + n < D + 0 + n then σ.2.1 1306 0 (S + (S + n - D)) else σ.2.1 1306 0 (S + n)) else if x = 1306 ∧ y = 0 ∧ D + 0 ≤ z ∧ z < D + 0 + n then σ.2.1 1306 0 (S + (z - D)) else σ.2.1 x y z) = (if x = 1306 ∧ y = 0 ∧ D + 0 ≤ z ∧ z < D + 0 + (n + 1) then σ.2.1 1306 0 (S + (z - D)) else σ.2.1 x y z)
  rw [if_neg (show ¬ (1306 = 1306 ∧ 0 = 0 ∧ D + 0 ≤ S + n ∧ S + n < D + 0 + n) from fun z => h (by omega))]
  by_cases c : x = 1306 ∧ y = 0 ∧ z = D + n
  · rw [if_pos c, if_pos ⟨c.1, c.2.1, by omega, by omega⟩, show S + (z - D) = S + n by omega]
  · rw [if_neg c]
    by_cases d : x = 1306 ∧ y = 0 ∧ D + 0 ≤ z ∧ z < D + 0 + n
    · rw [if_pos d, if_pos ⟨d.1, d.2.1, by omega, by omega⟩]
    · rw [if_neg d, if_neg (fun q => by omega)]
theorem pcp_dn {σ : am_H} {S D lo n : Nat} (h : ¬ (D + lo + 1 ≤ S + lo ∧ S + lo < D + lo + 1 + n)) : am_wL (pcp σ S D (lo + 1) n) 1306 0 (D + lo) ((pcp σ S D (lo + 1) n).2.1 1306 0 (S + lo)) = pcp σ S D lo (n + 1) := by
  refine Prod.ext rfl (Prod.ext (funext fun x => funext fun y => funext fun z => ?_) rfl)
  show (if x = 1306 ∧ y = 0 ∧ z = D + lo then (if 1306 = 1306 ∧ 0 = 0 ∧ D + (lo + 1) ≤ S + lo ∧ S + lo < D + (lo + 1) + n then σ.2.1 1306 0 (S + (S + lo - D)) else σ.2.1 1306 0 (S + lo)) else if x = 1306 ∧ y = 0 ∧ D + (lo + 1) ≤ z ∧ z < D + (lo + 1) + n then σ.2.1 1306 0 (S + (z - D)) else σ.2.1 x y z) = (if x = 1306 ∧ y = 0 ∧ D + lo ≤ z ∧ z < D + lo + (n + 1) then σ.2.1 1306 0 (S + (z - D)) else σ.2.1 x y z)
  rw [if_neg (show ¬ (1306 = 1306 ∧ 0 = 0 ∧ D + (lo + 1) ≤ S + lo ∧ S + lo < D + (lo + 1) + n) from fun z => h (by omega))]
  by_cases c : x = 1306 ∧ y = 0 ∧ z = D + lo
  · rw [if_pos c, if_pos ⟨c.1, c.2.1, by omega, by omega⟩, show S + (z - D) = S + lo by omega]
  · rw [if_neg c]
    by_cases d : x = 1306 ∧ y = 0 ∧ D + (lo + 1) ≤ z ∧ z < D + (lo + 1) + n
    · rw [if_pos d, if_pos ⟨d.1, d.2.1, by omega, by omega⟩]
    · rw [if_neg d, if_neg (fun q => by omega)]
theorem qf.pcp {l : List (Nat × Nat)} {σ σ1 : am_H} {S D lo n : Nat} (h : qf l σ σ1) (hj : ∀ j, qf_in l 1306 j = true) : qf l σ (pcp σ1 S D lo n) := fun a b c hl => ⟨(h a b c hl).1, by
  show (if a = 1306 ∧ b = 0 ∧ D + lo ≤ c ∧ c < D + lo + n then σ1.2.1 1306 0 (S + (c - D)) else σ1.2.1 a b c) = _
  rw [if_neg (fun z => by rw [z.1, hj] at hl; cases hl)]
  exact (h a b c hl).2.1, (h a b c hl).2.2⟩
theorem pt_pour {σ : am_H} {t u i j n : Nat} {b : Bool} (ht : t < 5) (hu : u < 5) (hi : i + n ≤ 60) (hj : j + n ≤ 60) (hb : b = true ↔ i < j) : am_loop (fun s : Int32 × am_H => f_X12_pour_158 (Int32.ofInt t) (Int32.ofInt i) (Int32.ofInt u) (Int32.ofInt j) (Int32.ofInt n) b s.1 s.2) (Int32.ofInt 0, σ) = some (pcp σ (60 * t + i) (60 * u + j) 0 n) := by
  cases b with
  | false =>
    have hij : ¬ i < j := fun z => by cases hb.mpr z
    have lp := am_loop_n (body := fun s : Int32 × am_H => f_X12_pour_158 (Int32.ofInt t) (Int32.ofInt i) (Int32.ofInt u) (Int32.ofInt j) (Int32.ofInt n) false s.1 s.2) (fun k => (Int32.ofInt k, pcp σ (60 * t + i) (60 * u + j) 0 k)) n (r := pcp σ (60 * t + i) (60 * u + j) 0 n) ?_ ?_
    · rw [pcp_0] at lp
      exact lp
    · intro k hk
      have e1 : (60 * (t : Int) + i + k).toNat = 60 * t + i + k := by omega
      have e2 : (60 * (u : Int) + j + k).toNat = 60 * u + j + k := by omega
      have e3 := pcp_up (σ := σ) (S := 60 * t + i) (D := 60 * u + j) (n := k) (by omega)
      simp (disch := omega) only [f_X12_pour_158, f_X12_pour_182, e1, e2, e3, Option.bind_some, qi, ql, qI_lt, qI_le, qI_eq, qI_L, qI_ix, qL_lt, qL_eq, q_nat, q_cs, ← Int32.ofInt_add, ← Int32.ofInt_sub, ← Int32.ofInt_mul, ← Int32.ofInt_neg, ← Int64.ofInt_add, ← Int64.ofInt_sub, ← Int64.ofInt_mul, ← Int64.ofInt_neg, pL_I, q_mx, q_mn, q_ab, q_abL, q_mnL, q_nn0, q_nn1, q_rr, q_b1, q_b0, q_T, q_F, q_iT, q_iF, q_d, q_in, q_wi, q_hC, q_hM, pT_i, pU_i, pS_i, pS_j, pS_0, Sum.elim_inl, Sum.elim_inr, if_pos, if_neg]
    · simp (disch := omega) only [f_X12_pour_158, Option.bind_some, qi, ql, qI_lt, qI_le, qI_eq, qI_L, qI_ix, qL_lt, qL_eq, q_nat, q_cs, ← Int32.ofInt_add, ← Int32.ofInt_sub, ← Int32.ofInt_mul, ← Int32.ofInt_neg, ← Int64.ofInt_add, ← Int64.ofInt_sub, ← Int64.ofInt_mul, ← Int64.ofInt_neg, pL_I, q_mx, q_mn, q_ab, q_abL, q_mnL, q_nn0, q_nn1, q_rr, q_b1, q_b0, q_T, q_F, q_iT, q_iF, q_d, q_in, q_wi, q_hC, q_hM, pT_i, pU_i, pS_i, pS_j, pS_0, Sum.elim_inl, Sum.elim_inr, if_pos, if_neg]
  | true =>
    have hij : i < j := hb.mp rfl
    have lp := am_loop_n (body := fun s : Int32 × am_H => f_X12_pour_158 (Int32.ofInt t) (Int32.ofInt i) (Int32.ofInt u) (Int32.ofInt j) (Int32.ofInt n) true s.1 s.2) (fun k => (Int32.ofInt k, pcp σ (60 * t + i) (60 * u + j) (n - k) k)) n (r := pcp σ (60 * t + i) (60 * u + j) 0 n) ?_ ?_
    · rw [pcp_0] at lp
      exact lp
    · intro k hk
      have e1 : (60 * (t : Int) + i + (n - 1 - k)).toNat = 60 * t + i + (n - (k + 1)) := by omega
      have e2 : (60 * (u : Int) + j + (n - 1 - k)).toNat = 60 * u + j + (n - (k + 1)) := by omega
      have e4 : n - k = n - (k + 1) + 1 := by omega
      have e3 := pcp_dn (σ := σ) (S := 60 * t + i) (D := 60 * u + j) (lo := n - (k + 1)) (n := k) (by omega)
      simp (disch := omega) only [f_X12_pour_158, f_X12_pour_182, e1, e2, e4, e3, Option.bind_some, qi, ql, qI_lt, qI_le, qI_eq, qI_L, qI_ix, qL_lt, qL_eq, q_nat, q_cs, ← Int32.ofInt_add, ← Int32.ofInt_sub, ← Int32.ofInt_mul, ← Int32.ofInt_neg, ← Int64.ofInt_add, ← Int64.ofInt_sub, ← Int64.ofInt_mul, ← Int64.ofInt_neg, pL_I, q_mx, q_mn, q_ab, q_abL, q_mnL, q_nn0, q_nn1, q_rr, q_b1, q_b0, q_T, q_F, q_iT, q_iF, q_d, q_in, q_wi, q_hC, q_hM, pT_i, pU_i, pS_i, pS_j, pS_0, Sum.elim_inl, Sum.elim_inr, if_pos, if_neg]
    · simp (disch := omega) only [f_X12_pour_158, Nat.sub_self, Option.bind_some, qi, ql, qI_lt, qI_le, qI_eq, qI_L, qI_ix, qL_lt, qL_eq, q_nat, q_cs, ← Int32.ofInt_add, ← Int32.ofInt_sub, ← Int32.ofInt_mul, ← Int32.ofInt_neg, ← Int64.ofInt_add, ← Int64.ofInt_sub, ← Int64.ofInt_mul, ← Int64.ofInt_neg, pL_I, q_mx, q_mn, q_ab, q_abL, q_mnL, q_nn0, q_nn1, q_rr, q_b1, q_b0, q_T, q_F, q_iT, q_iF, q_d, q_in, q_wi, q_hC, q_hM, pT_i, pU_i, pS_i, pS_j, pS_0, Sum.elim_inl, Sum.elim_inr, if_pos, if_neg]
