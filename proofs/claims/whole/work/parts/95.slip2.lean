def pk_l : List (Nat × Nat) := [(0, 3), (0, 5), (0, 6), (102, 999)]
/-- what slipped keeps of the class: DUE, MISSES, and how it stands -/
def pk_S (σ : am_H) (n : Nat) (Hf : Int → Int) (hs rd : Nat → Int) (s : Int × Int × Int) : Prop := (∀ j, j < n → σ.1 100 0 j = Int32.ofInt ((Hf (hs j)).tdiv 12) ∧ σ.1 101 0 j = Int32.ofInt (pd_e Hf hs rd 0 0 j)) ∧ σ.1 0 0 5 = Int32.ofInt s.1 ∧ σ.1 0 0 6 = Int32.ofInt s.2.1 ∧ σ.1 0 0 3 = Int32.ofInt s.2.2
def pk_s (clock : Bool) (y : Int) : Int := if clock = true then y else 0
def pk_z (clock : Bool) (y : Int) : Int := if clock = true then 0 else y
/-- the sum, if it slipped from the k-th on -/
def pk_D (Hf : Int → Int) (hs rd : Nat → Int) (n : Nat) (clock : Bool) (y : Int) (k : Nat) : Int := ps_sum (fun j => if j < k then pd_e Hf hs rd 0 0 j else pd_e Hf hs rd (pk_s clock y) (pk_z clock y) j) n
theorem pk_try {σ : am_H} {a n wc : Nat} {ws : Nat → Nat → Int} {zr : Int} {hs rd : Nat → Int} {clock : Bool} {y : Int} {s : Int × Int × Int} (hn : n ≤ 24) (C : ph_C σ a wc ws zr) (G : pg_C σ 0 n hs rd) (hb : ∀ j, j < n → (0 ≤ hs j ∧ hs j ≤ 99999) ∧ (-999 ≤ rd j ∧ rd j ≤ 1000)) (hy : (clock = true → -5 ≤ y ∧ y ≤ 5) ∧ (-50 ≤ y ∧ y ≤ 50)) (S : pk_S σ n (fun h => ph_sum ws (max zr 0) h false wc) hs rd s) (sb : (0 ≤ s.1 ∧ s.1 ≤ 24) ∧ (-50 ≤ s.2.1 ∧ s.2.1 ≤ 50) ∧ (0 ≤ s.2.2 ∧ s.2.2 ≤ 1000000)) : ∃ τ : am_H, f_X0_trySlip a 0 clock (Int32.ofInt y) σ = some τ ∧ qf pk_l σ τ ∧ pk_S τ n (fun h => ph_sum ws (max zr 0) h false wc) hs rd (pk_F (pk_D (fun h => ph_sum ws (max zr 0) h false wc) hs rd n clock y) y n s) := by
  have hH : ∀ h, -9000 ≤ ph_sum ws (max zr 0) h false wc ∧ ph_sum ws (max zr 0) h false wc ≤ 9000 := fun h => by
    have c4 := C.2.2.2.1
    have := ph_b (ws := ws) (z := max zr 0) (h := h) (b := false) (n := wc) (by omega) (fun i hi => (C.2.2.2.2 i hi).1)
    have := C.1
    omega
  have e0 : ∀ j, j < n → 0 ≤ pd_e (fun h => ph_sum ws (max zr 0) h false wc) hs rd 0 0 j ∧ pd_e (fun h => ph_sum ws (max zr 0) h false wc) hs rd 0 0 j ≤ 11000 := fun j hj => pd_eb (hH _) (hb j hj).2 (by omega)
  have zb : -50 ≤ pk_z clock y ∧ pk_z clock y ≤ 50 := by unfold pk_z; split <;> omega
  have e1 : ∀ j, j < n → 0 ≤ pd_e (fun h => ph_sum ws (max zr 0) h false wc) hs rd (pk_s clock y) (pk_z clock y) j ∧ pd_e (fun h => ph_sum ws (max zr 0) h false wc) hs rd (pk_s clock y) (pk_z clock y) j ≤ 11000 := fun j hj => pd_eb (hH _) (hb j hj).2 zb
  have Db : ∀ k, 0 ≤ pk_D (fun h => ph_sum ws (max zr 0) h false wc) hs rd n clock y k ∧ pk_D (fun h => ph_sum ws (max zr 0) h false wc) hs rd n clock y k ≤ 1000000 := fun k => by
    have := ps_b (f := fun j => if j < k then pd_e (fun h => ph_sum ws (max zr 0) h false wc) hs rd 0 0 j else pd_e (fun h => ph_sum ws (max zr 0) h false wc) hs rd (pk_s clock y) (pk_z clock y) j) (n := n) (B := 11000) (fun j hj => by
      have h1 := e0 j hj
      have h2 := e1 j hj
      split
      · exact h1
      · exact h2)
    unfold pk_D
    omega
  -- the first loop: what they differ by then
  obtain ⟨r, k1, τ, rfl, q1, q2⟩ := am_loop_1 (B := fun t : Int32 × Int32 × am_H => f_X0_trySlip_6 a 0 clock (Int32.ofInt y) t.1 t.2.1 t.2.2) (fun N t => ∃ (i : Nat) (τ : am_H), t = (Int32.ofInt (ps_sum (pd_e (fun h => ph_sum ws (max zr 0) h false wc) hs rd (pk_s clock y) (pk_z clock y)) i), Int32.ofInt i, τ) ∧ i ≤ n ∧ qf [(102, 999)] σ τ ∧ (∀ j, j < i → τ.1 102 0 j = Int32.ofInt (pd_e (fun h => ph_sum ws (max zr 0) h false wc) hs rd (pk_s clock y) (pk_z clock y) j)) ∧ N = n - i) (fun r => ∃ τ : am_H, r = (Int32.ofInt (pk_D (fun h => ph_sum ws (max zr 0) h false wc) hs rd n clock y 0), τ) ∧ qf [(102, 999)] σ τ ∧ (∀ j, j < n → τ.1 102 0 j = Int32.ofInt (pd_e (fun h => ph_sum ws (max zr 0) h false wc) hs rd (pk_s clock y) (pk_z clock y) j))) (by
    rintro N t ⟨i, τ, rfl, hi, hq, hj, rfl⟩
    have Gt := pg_Cq (hq.a (by decide +kernel)) G
    have Ct := ph_Cq (hq.a (by decide +kernel)) C
    have g0 := Gt.1
    by_cases ce : i < n
    · right
      obtain ⟨gh, gr⟩ := Gt.2 i ce
      have bi := hb i ce
      have ei := e1 i ce
      have sbd := ps_b (f := pd_e (fun h => ph_sum ws (max zr 0) h false wc) hs rd (pk_s clock y) (pk_z clock y)) (n := i) (B := 11000) (fun j hj => e1 j (by omega))
      have ms : ∀ x : Int, x - 0 = (ph_sum ws (max zr 0) (max 0 (hs i + pk_s clock y)) false wc).tdiv 12 + pk_z clock y → f_X1_missOf 0 (Int32.ofInt i) (Int32.ofInt x) τ = some (Int32.ofInt (pd_e (fun h => ph_sum ws (max zr 0) h false wc) hs rd (pk_s clock y) (pk_z clock y) i)) := by
        intro x hx
        have b1 := hH (max 0 (hs i + pk_s clock y))
        have b2 := pd_t12 b1.1 b1.2
        rw [pd_miss Gt ce hn bi.2 (by omega)]
        unfold pd_e
        rw [show rd i - x = rd i - (ph_sum ws (max zr 0) (max 0 (hs i + pk_s clock y)) false wc).tdiv 12 - pk_z clock y by omega]
      refine ⟨(Int32.ofInt (ps_sum (pd_e (fun h => ph_sum ws (max zr 0) h false wc) hs rd (pk_s clock y) (pk_z clock y)) i + pd_e (fun h => ph_sum ws (max zr 0) h false wc) hs rd (pk_s clock y) (pk_z clock y) i), Int32.ofInt ((i : Int) + 1), am_wI τ 102 0 i (Int32.ofInt (pd_e (fun h => ph_sum ws (max zr 0) h false wc) hs rd (pk_s clock y) (pk_z clock y) i))), n - (i + 1), ?_, by omega, i + 1, _, rfl, by omega, hq.wI rfl, fun j hj' => ?_, rfl⟩
      · have rd2 : ∀ v : Int32, (am_wI τ 102 0 i v).1 102 0 i = v := fun v => by simp [am_wI, am_u3]
        cases clock with
        | true =>
          have b1 := hH (max 0 (hs i + y))
          have b2 := pd_t12 b1.1 b1.2
          have y5 := hy.1 rfl
          have hh := ph_heightAt (b := false) Ct (h := max 0 (hs i + y)) (by omega) (by omega)
          have ms' := ms ((ph_sum ws (max zr 0) (max 0 (hs i + y)) false wc).tdiv 12) (by show _ - 0 = _ + 0; rfl)
          simp (disch := omega) only [f_X0_trySlip_6, f_X0_trySlip_68, g0, gh, hh, qI_div, ms', rd2, Option.bind_some, qi, ql, qI_lt, qI_le, qI_eq, qI_L, qI_ix, qL_lt, qL_eq, q_nat, q_cs, ← Int32.ofInt_add, ← Int32.ofInt_sub, ← Int32.ofInt_mul, ← Int32.ofInt_neg, ← Int64.ofInt_add, ← Int64.ofInt_sub, ← Int64.ofInt_mul, ← Int64.ofInt_neg, pL_I, q_mx, q_mn, q_ab, q_abL, q_mnL, q_nn0, q_nn1, q_rr, q_b1, q_b0, q_T, q_F, q_iT, q_iF, q_d, q_in, q_wi, q_hC, q_hM, pT_i, pU_i, pS_i, pS_j, pS_0, Sum.elim_inl, Sum.elim_inr, if_pos, if_neg]
        | false =>
          have d0 : τ.1 100 0 i = Int32.ofInt ((ph_sum ws (max zr 0) (hs i) false wc).tdiv 12) := by
            rw [(hq 100 0 i rfl).1]
            exact (S.1 i ce).1
          have b1 := hH (hs i)
          have b2 := pd_t12 b1.1 b1.2
          have ms' := ms ((ph_sum ws (max zr 0) (hs i) false wc).tdiv 12 + y) (by
            show _ = (ph_sum ws (max zr 0) (max 0 (hs i + 0)) false wc).tdiv 12 + y
            rw [show max 0 (hs i + 0) = hs i by omega]
            omega)
          simp (disch := omega) only [f_X0_trySlip_6, f_X0_trySlip_68, g0, d0, ms', rd2, Option.bind_some, qi, ql, qI_lt, qI_le, qI_eq, qI_L, qI_ix, qL_lt, qL_eq, q_nat, q_cs, ← Int32.ofInt_add, ← Int32.ofInt_sub, ← Int32.ofInt_mul, ← Int32.ofInt_neg, ← Int64.ofInt_add, ← Int64.ofInt_sub, ← Int64.ofInt_mul, ← Int64.ofInt_neg, pL_I, q_mx, q_mn, q_ab, q_abL, q_mnL, q_nn0, q_nn1, q_rr, q_b1, q_b0, q_T, q_F, q_iT, q_iF, q_d, q_in, q_wi, q_hC, q_hM, pT_i, pU_i, pS_i, pS_j, pS_0, Sum.elim_inl, Sum.elim_inr, if_pos, if_neg]
      · by_cases cj : j = i
        · subst cj
          simp [am_wI, am_u3]
        · have := hj j (by omega)
          simp [am_wI, am_u3, cj]
          exact this
    · left
      have : i = n := by omega
      subst this
      refine ⟨_, ?_, τ, rfl, hq, hj⟩
      have eD : pk_D (fun h => ph_sum ws (max zr 0) h false wc) hs rd i clock y 0 = ps_sum (pd_e (fun h => ph_sum ws (max zr 0) h false wc) hs rd (pk_s clock y) (pk_z clock y)) i := ps_congr (fun j hj => if_neg (by omega))
      rw [eD]
      simp (disch := omega) only [f_X0_trySlip_6, g0, Option.bind_some, qi, ql, qI_lt, qI_le, qI_eq, qI_L, qI_ix, qL_lt, qL_eq, q_nat, q_cs, ← Int32.ofInt_add, ← Int32.ofInt_sub, ← Int32.ofInt_mul, ← Int32.ofInt_neg, ← Int64.ofInt_add, ← Int64.ofInt_sub, ← Int64.ofInt_mul, ← Int64.ofInt_neg, pL_I, q_mx, q_mn, q_ab, q_abL, q_mnL, q_nn0, q_nn1, q_rr, q_b1, q_b0, q_T, q_F, q_iT, q_iF, q_d, q_in, q_wi, q_hC, q_hM, pT_i, pU_i, pS_i, pS_j, pS_0, Sum.elim_inl, Sum.elim_inr, if_pos, if_neg]) n (Int32.ofInt 0, Int32.ofInt 0, σ) ⟨0, σ, rfl, by omega, qf.rf, fun j hj => by omega, rfl⟩
  -- the second: which is best
  obtain ⟨r, k2, q3, q4⟩ := am_loop_1 (B := fun t : Int32 × Int32 × am_H => f_X0_trySlip_93 0 (Int32.ofInt y) t.1 t.2.1 t.2.2) (fun N t => ∃ (k : Nat) (ρ : am_H), t = (Int32.ofInt (pk_D (fun h => ph_sum ws (max zr 0) h false wc) hs rd n clock y k), Int32.ofInt k, ρ) ∧ k ≤ n ∧ qf pk_l σ ρ ∧ (∀ j, j < n → ρ.1 102 0 j = Int32.ofInt (pd_e (fun h => ph_sum ws (max zr 0) h false wc) hs rd (pk_s clock y) (pk_z clock y) j)) ∧ pk_S ρ n (fun h => ph_sum ws (max zr 0) h false wc) hs rd (pk_F (pk_D (fun h => ph_sum ws (max zr 0) h false wc) hs rd n clock y) y k s) ∧ N = n - k) (fun r => qf pk_l σ r ∧ pk_S r n (fun h => ph_sum ws (max zr 0) h false wc) hs rd (pk_F (pk_D (fun h => ph_sum ws (max zr 0) h false wc) hs rd n clock y) y n s)) (by
    rintro N t ⟨k, ρ, rfl, hk, hq, hj, hS, rfl⟩
    have g0 := (pg_Cq (hq.a (by decide +kernel)) G).1
    by_cases ce : k < n
    · right
      have Fb := pk_Fb (D := pk_D (fun h => ph_sum ws (max zr 0) h false wc) hs rd n clock y) (y := y) (n := k) (s := s) (fun k _ => Db k) (by omega) hy.2 sb
      have D1 := Db k
      have D2 := Db (k + 1)
      have m1 := (hS.1 k ce).2
      have m2 := hj k ce
      have eD : pk_D (fun h => ph_sum ws (max zr 0) h false wc) hs rd n clock y (k + 1) = pk_D (fun h => ph_sum ws (max zr 0) h false wc) hs rd n clock y k + (pd_e (fun h => ph_sum ws (max zr 0) h false wc) hs rd 0 0 k - pd_e (fun h => ph_sum ws (max zr 0) h false wc) hs rd (pk_s clock y) (pk_z clock y) k) := ps_swap ce
      by_cases cl : pk_D (fun h => ph_sum ws (max zr 0) h false wc) hs rd n clock y k < (pk_F (pk_D (fun h => ph_sum ws (max zr 0) h false wc) hs rd n clock y) y k s).2.2
      · refine ⟨(Int32.ofInt (pk_D (fun h => ph_sum ws (max zr 0) h false wc) hs rd n clock y (k + 1)), Int32.ofInt ((k : Int) + 1), am_wI (am_wI (am_wI ρ 0 0 3 (Int32.ofInt (pk_D (fun h => ph_sum ws (max zr 0) h false wc) hs rd n clock y k))) 0 0 5 (Int32.ofInt (k : Int))) 0 0 6 (Int32.ofInt y)), n - (k + 1), ?_, by omega, k + 1, _, rfl, by omega, ((hq.wI rfl).wI rfl).wI rfl, hj, ?_, rfl⟩
        · have l3 := hS.2.2.2
          have m1' : (am_wI (am_wI (am_wI ρ 0 0 3 (Int32.ofInt (pk_D (fun h => ph_sum ws (max zr 0) h false wc) hs rd n clock y k))) 0 0 5 (Int32.ofInt (k : Int))) 0 0 6 (Int32.ofInt y)).1 101 0 k = _ := m1
          have m2' : (am_wI (am_wI (am_wI ρ 0 0 3 (Int32.ofInt (pk_D (fun h => ph_sum ws (max zr 0) h false wc) hs rd n clock y k))) 0 0 5 (Int32.ofInt (k : Int))) 0 0 6 (Int32.ofInt y)).1 102 0 k = _ := m2
          rw [eD]
          simp (disch := omega) only [f_X0_trySlip_93, f_X0_trySlip_129, g0, l3, m1', m2', Option.bind_some, qi, ql, qI_lt, qI_le, qI_eq, qI_L, qI_ix, qL_lt, qL_eq, q_nat, q_cs, ← Int32.ofInt_add, ← Int32.ofInt_sub, ← Int32.ofInt_mul, ← Int32.ofInt_neg, ← Int64.ofInt_add, ← Int64.ofInt_sub, ← Int64.ofInt_mul, ← Int64.ofInt_neg, pL_I, q_mx, q_mn, q_ab, q_abL, q_mnL, q_nn0, q_nn1, q_rr, q_b1, q_b0, q_T, q_F, q_iT, q_iF, q_d, q_in, q_wi, q_hC, q_hM, pT_i, pU_i, pS_i, pS_j, pS_0, Sum.elim_inl, Sum.elim_inr, if_pos, if_neg]
        · refine ⟨hS.1, ?_⟩
          simp only [pk_F, if_pos cl]
          exact ⟨rfl, rfl, rfl⟩
      · refine ⟨(Int32.ofInt (pk_D (fun h => ph_sum ws (max zr 0) h false wc) hs rd n clock y (k + 1)), Int32.ofInt ((k : Int) + 1), ρ), n - (k + 1), ?_, by omega, k + 1, _, rfl, by omega, hq, hj, ?_, rfl⟩
        · have l3 := hS.2.2.2
          rw [eD]
          simp (disch := omega) only [f_X0_trySlip_93, f_X0_trySlip_129, g0, l3, m1, m2, Option.bind_some, qi, ql, qI_lt, qI_le, qI_eq, qI_L, qI_ix, qL_lt, qL_eq, q_nat, q_cs, ← Int32.ofInt_add, ← Int32.ofInt_sub, ← Int32.ofInt_mul, ← Int32.ofInt_neg, ← Int64.ofInt_add, ← Int64.ofInt_sub, ← Int64.ofInt_mul, ← Int64.ofInt_neg, pL_I, q_mx, q_mn, q_ab, q_abL, q_mnL, q_nn0, q_nn1, q_rr, q_b1, q_b0, q_T, q_F, q_iT, q_iF, q_d, q_in, q_wi, q_hC, q_hM, pT_i, pU_i, pS_i, pS_j, pS_0, Sum.elim_inl, Sum.elim_inr, if_pos, if_neg]
        · simp only [pk_F, if_neg cl]
          exact hS
    · left
      have : k = n := by omega
      subst this
      refine ⟨ρ, ?_, hq, hS⟩
      simp (disch := omega) only [f_X0_trySlip_93, g0, Option.bind_some, qi, ql, qI_lt, qI_le, qI_eq, qI_L, qI_ix, qL_lt, qL_eq, q_nat, q_cs, ← Int32.ofInt_add, ← Int32.ofInt_sub, ← Int32.ofInt_mul, ← Int32.ofInt_neg, ← Int64.ofInt_add, ← Int64.ofInt_sub, ← Int64.ofInt_mul, ← Int64.ofInt_neg, pL_I, q_mx, q_mn, q_ab, q_abL, q_mnL, q_nn0, q_nn1, q_rr, q_b1, q_b0, q_T, q_F, q_iT, q_iF, q_d, q_in, q_wi, q_hC, q_hM, pT_i, pU_i, pS_i, pS_j, pS_0, Sum.elim_inl, Sum.elim_inr, if_pos, if_neg]) n (Int32.ofInt (pk_D (fun h => ph_sum ws (max zr 0) h false wc) hs rd n clock y 0), Int32.ofInt 0, τ) ⟨0, τ, rfl, by omega, q1.mo (by decide), q2, ⟨fun j hj => ⟨by rw [(q1 100 0 j rfl).1]; exact (S.1 j hj).1, by rw [(q1 101 0 j rfl).1]; exact (S.1 j hj).2⟩, by rw [(q1 0 0 5 rfl).1]; exact S.2.1, by rw [(q1 0 0 6 rfl).1]; exact S.2.2.1, by rw [(q1 0 0 3 rfl).1]; exact S.2.2.2⟩, rfl⟩
  refine ⟨r, ?_, q3, q4⟩
  simp (disch := omega) only [f_X0_trySlip, k1, k2, Option.bind_some, qi, ql, qI_lt, qI_le, qI_eq, qI_L, qI_ix, qL_lt, qL_eq, q_nat, q_cs, ← Int32.ofInt_add, ← Int32.ofInt_sub, ← Int32.ofInt_mul, ← Int32.ofInt_neg, ← Int64.ofInt_add, ← Int64.ofInt_sub, ← Int64.ofInt_mul, ← Int64.ofInt_neg, pL_I, q_mx, q_mn, q_ab, q_abL, q_mnL, q_nn0, q_nn1, q_rr, q_b1, q_b0, q_T, q_F, q_iT, q_iF, q_d, q_in, q_wi, q_hC, q_hM, pT_i, pU_i, pS_i, pS_j, pS_0, Sum.elim_inl, Sum.elim_inr, if_pos, if_neg]
/-- the reference's readings one by one -/
theorem pk_ref {σ : am_H} {m th tr n wc : Nat} {ws : Nat → Nat → Int} {zz : Int} {hs rd : Nat → Int} (hm : m < 3) (hth : th < 5) (htr : tr < 5) (hn : n ≤ 24) (M : ph_M σ m wc ws zz) (G : pg_M σ th tr n hs rd) {clock : Bool} {w y : Int} (hw : w = if clock = true then 0 else 1) {most size side : Int} (hz : y = side * size) (hy : (clock = true → -5 ≤ y ∧ y ≤ 5) ∧ (-50 ≤ y ∧ y ≤ 50)) {s : Int × Int × Int} (sb : (0 ≤ s.1 ∧ s.1 ≤ 24) ∧ (-50 ≤ s.2.1 ∧ s.2.1 ≤ 50) ∧ (0 ≤ s.2.2 ∧ s.2.2 ≤ 1000000)) (Db : ∀ k, 0 ≤ pk_D (fun h => ph_sum ws zz h false wc) hs rd n clock y k ∧ pk_D (fun h => ph_sum ws zz h false wc) hs rd n clock y k ≤ 1000000) : am_loop (fun t : Int32 × Int32 × Int64 × Int32 => f_X12_slipped_90 (Int32.ofInt m) (Int32.ofInt th) (Int32.ofInt tr) (Int32.ofInt n) (Int32.ofInt w) t.1 t.2.1 t.2.2.1 (Int32.ofInt most) (Int32.ofInt size) (Int32.ofInt side) t.2.2.2 σ) (Int32.ofInt s.1, Int32.ofInt s.2.1, Int64.ofInt s.2.2, Int32.ofInt 0) = some (Int32.ofInt (pk_F (pk_D (fun h => ph_sum ws zz h false wc) hs rd n clock y) y n s).1, Int32.ofInt (pk_F (pk_D (fun h => ph_sum ws zz h false wc) hs rd n clock y) y n s).2.1, Int64.ofInt (pk_F (pk_D (fun h => ph_sum ws zz h false wc) hs rd n clock y) y n s).2.2) := by
  refine am_loop_n (body := fun t : Int32 × Int32 × Int64 × Int32 => f_X12_slipped_90 (Int32.ofInt m) (Int32.ofInt th) (Int32.ofInt tr) (Int32.ofInt n) (Int32.ofInt w) t.1 t.2.1 t.2.2.1 (Int32.ofInt most) (Int32.ofInt size) (Int32.ofInt side) t.2.2.2 σ) (fun k => (Int32.ofInt (pk_F (pk_D (fun h => ph_sum ws zz h false wc) hs rd n clock y) y k s).1, Int32.ofInt (pk_F (pk_D (fun h => ph_sum ws zz h false wc) hs rd n clock y) y k s).2.1, Int64.ofInt (pk_F (pk_D (fun h => ph_sum ws zz h false wc) hs rd n clock y) y k s).2.2, Int32.ofInt k)) n ?_ ?_
  · intro k hk
    have Fb := pk_Fb (D := pk_D (fun h => ph_sum ws zz h false wc) hs rd n clock y) (y := y) (n := k) (s := s) (fun k _ => Db k) (by omega) hy.2 sb
    have D1 := Db k
    have df := pd_differs hm hth htr hn M G (k := k) (s := pk_s clock y) (z := pk_z clock y) (by omega) (by unfold pk_s; split <;> first | omega | (rename_i cc; exact hy.1 cc)) (by unfold pk_z; split <;> omega)
    have df' : f_X12_differs (Int32.ofInt m) (Int32.ofInt th) (Int32.ofInt tr) (Int32.ofInt n) (Int32.ofInt k) (Int32.ofInt (pk_s clock y)) (Int32.ofInt (pk_z clock y)) σ = some (Int64.ofInt (pk_D (fun h => ph_sum ws zz h false wc) hs rd n clock y k)) := df
    generalize hD : pk_D (fun h => ph_sum ws zz h false wc) hs rd n clock y = D at *
    show _ = some (Sum.inl (Int32.ofInt (if D k < (pk_F D y k s).2.2 then ((k : Int), y, D k) else pk_F D y k s).1, Int32.ofInt (if D k < (pk_F D y k s).2.2 then ((k : Int), y, D k) else pk_F D y k s).2.1, Int64.ofInt (if D k < (pk_F D y k s).2.2 then ((k : Int), y, D k) else pk_F D y k s).2.2, Int32.ofInt ((k + 1 : Nat) : Int)))
    cases clock with
    | true =>
      subst hw
      have df2 : f_X12_differs (Int32.ofInt m) (Int32.ofInt th) (Int32.ofInt tr) (Int32.ofInt n) (Int32.ofInt k) (Int32.ofInt y) (Int32.ofInt 0) σ = some (Int64.ofInt (D k)) := df'
      by_cases c : D k < (pk_F D y k s).2.2
      · simp only [if_pos c]
        simp (disch := omega) only [f_X12_slipped_90, f_X12_slipped_119, f_X12_slipped_133, ← hz, df2, Option.bind_some, qi, ql, qI_lt, qI_le, qI_eq, qI_L, qI_ix, qL_lt, qL_eq, q_nat, q_cs, ← Int32.ofInt_add, ← Int32.ofInt_sub, ← Int32.ofInt_mul, ← Int32.ofInt_neg, ← Int64.ofInt_add, ← Int64.ofInt_sub, ← Int64.ofInt_mul, ← Int64.ofInt_neg, pL_I, q_mx, q_mn, q_ab, q_abL, q_mnL, q_nn0, q_nn1, q_rr, q_b1, q_b0, q_T, q_F, q_iT, q_iF, q_d, q_in, q_wi, q_hC, q_hM, pT_i, pU_i, pS_i, pS_j, pS_0, Sum.elim_inl, Sum.elim_inr, if_pos, if_neg]
      · simp only [if_neg c]
        simp (disch := omega) only [f_X12_slipped_90, f_X12_slipped_119, f_X12_slipped_133, ← hz, df2, Option.bind_some, qi, ql, qI_lt, qI_le, qI_eq, qI_L, qI_ix, qL_lt, qL_eq, q_nat, q_cs, ← Int32.ofInt_add, ← Int32.ofInt_sub, ← Int32.ofInt_mul, ← Int32.ofInt_neg, ← Int64.ofInt_add, ← Int64.ofInt_sub, ← Int64.ofInt_mul, ← Int64.ofInt_neg, pL_I, q_mx, q_mn, q_ab, q_abL, q_mnL, q_nn0, q_nn1, q_rr, q_b1, q_b0, q_T, q_F, q_iT, q_iF, q_d, q_in, q_wi, q_hC, q_hM, pT_i, pU_i, pS_i, pS_j, pS_0, Sum.elim_inl, Sum.elim_inr, if_pos, if_neg]
    | false =>
      subst hw
      have df2 : f_X12_differs (Int32.ofInt m) (Int32.ofInt th) (Int32.ofInt tr) (Int32.ofInt n) (Int32.ofInt k) (Int32.ofInt 0) (Int32.ofInt y) σ = some (Int64.ofInt (D k)) := df'
      by_cases c : D k < (pk_F D y k s).2.2
      · simp only [if_pos c]
        simp (disch := omega) only [f_X12_slipped_90, f_X12_slipped_119, f_X12_slipped_133, ← hz, df2, Option.bind_some, qi, ql, qI_lt, qI_le, qI_eq, qI_L, qI_ix, qL_lt, qL_eq, q_nat, q_cs, ← Int32.ofInt_add, ← Int32.ofInt_sub, ← Int32.ofInt_mul, ← Int32.ofInt_neg, ← Int64.ofInt_add, ← Int64.ofInt_sub, ← Int64.ofInt_mul, ← Int64.ofInt_neg, pL_I, q_mx, q_mn, q_ab, q_abL, q_mnL, q_nn0, q_nn1, q_rr, q_b1, q_b0, q_T, q_F, q_iT, q_iF, q_d, q_in, q_wi, q_hC, q_hM, pT_i, pU_i, pS_i, pS_j, pS_0, Sum.elim_inl, Sum.elim_inr, if_pos, if_neg]
      · simp only [if_neg c]
        simp (disch := omega) only [f_X12_slipped_90, f_X12_slipped_119, f_X12_slipped_133, ← hz, df2, Option.bind_some, qi, ql, qI_lt, qI_le, qI_eq, qI_L, qI_ix, qL_lt, qL_eq, q_nat, q_cs, ← Int32.ofInt_add, ← Int32.ofInt_sub, ← Int32.ofInt_mul, ← Int32.ofInt_neg, ← Int64.ofInt_add, ← Int64.ofInt_sub, ← Int64.ofInt_mul, ← Int64.ofInt_neg, pL_I, q_mx, q_mn, q_ab, q_abL, q_mnL, q_nn0, q_nn1, q_rr, q_b1, q_b0, q_T, q_F, q_iT, q_iF, q_d, q_in, q_wi, q_hC, q_hM, pT_i, pU_i, pS_i, pS_j, pS_0, Sum.elim_inl, Sum.elim_inr, if_pos, if_neg]
  · simp (disch := omega) only [f_X12_slipped_90, Option.bind_some, qi, ql, qI_lt, qI_le, qI_eq, qI_L, qI_ix, qL_lt, qL_eq, q_nat, q_cs, ← Int32.ofInt_add, ← Int32.ofInt_sub, ← Int32.ofInt_mul, ← Int32.ofInt_neg, ← Int64.ofInt_add, ← Int64.ofInt_sub, ← Int64.ofInt_mul, ← Int64.ofInt_neg, pL_I, q_mx, q_mn, q_ab, q_abL, q_mnL, q_nn0, q_nn1, q_rr, q_b1, q_b0, q_T, q_F, q_iT, q_iF, q_d, q_in, q_wi, q_hC, q_hM, pT_i, pU_i, pS_i, pS_j, pS_0, Sum.elim_inl, Sum.elim_inr, if_pos, if_neg]
