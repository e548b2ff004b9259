theorem pk_first {σ : am_H} {a n wc : Nat} {ws : Nat → Nat → Int} {zr : Int} {hs rd : Nat → Int} {clock : Bool} (hn : n ≤ 24) (C : ph_C σ a wc ws zr) (G : pg_C σ 0 n hs rd) (hb : ∀ j, j < n → (0 ≤ hs j ∧ hs j ≤ 99999) ∧ (-999 ≤ rd j ∧ rd j ≤ 1000)) (h3 : σ.1 0 0 3 = Int32.ofInt 0) : ∃ τ : am_H, am_loop (fun t : Int32 × am_H => f_X0_findSlip_8 a 0 clock t.1 t.2) (Int32.ofInt 0, σ) = some τ ∧ qf [(0, 3), (100, 999), (101, 999)] σ τ ∧ τ.1 0 0 3 = Int32.ofInt (ps_sum (pd_e (fun h => ph_sum ws (max zr 0) h false wc) hs rd 0 0) n) ∧ ∀ j, j < n → τ.1 100 0 j = Int32.ofInt ((ph_sum ws (max zr 0) (hs j) false wc).tdiv 12) ∧ τ.1 101 0 j = Int32.ofInt (pd_e (fun h => ph_sum ws (max zr 0) h false wc) hs rd 0 0 j) := by
  have hH : ∀ h, -9000 ≤ ph_sum ws (max zr 0) h false wc ∧ ph_sum ws (max zr 0) h false wc ≤ 9000 := fun h => by
    have c4 := C.2.2.2.1
    have := ph_b (ws := ws) (z := max zr 0) (h := h) (b := false) (n := wc) (by omega) (fun i hi => (C.2.2.2.2 i hi).1)
    have := C.1
    omega
  have e0 : ∀ j, j < n → 0 ≤ pd_e (fun h => ph_sum ws (max zr 0) h false wc) hs rd 0 0 j ∧ pd_e (fun h => ph_sum ws (max zr 0) h false wc) hs rd 0 0 j ≤ 11000 := fun j hj => pd_eb (hH _) (hb j hj).2 (by omega)
  refine am_loop_1 (B := fun t : Int32 × am_H => f_X0_findSlip_8 a 0 clock t.1 t.2) (fun N t => ∃ (i : Nat) (τ : am_H), t = (Int32.ofInt i, τ) ∧ i ≤ n ∧ qf [(0, 3), (100, 999), (101, 999)] σ τ ∧ τ.1 0 0 3 = Int32.ofInt (ps_sum (pd_e (fun h => ph_sum ws (max zr 0) h false wc) hs rd 0 0) i) ∧ (∀ j, j < i → τ.1 100 0 j = Int32.ofInt ((ph_sum ws (max zr 0) (hs j) false wc).tdiv 12) ∧ τ.1 101 0 j = Int32.ofInt (pd_e (fun h => ph_sum ws (max zr 0) h false wc) hs rd 0 0 j)) ∧ N = n - i) _ ?_ n (Int32.ofInt 0, σ) ⟨0, σ, rfl, by omega, qf.rf, h3, fun j hj => by omega, rfl⟩
  rintro N t ⟨i, τ, rfl, hi, hq, hl, hj, rfl⟩
  have Gt := pg_Cq (hq.a (by decide +kernel)) G
  have Ct := ph_Cq (hq.a (by decide +kernel)) C
  have g0 := Gt.1
  by_cases ce : i < n
  · right
    obtain ⟨gh, gr⟩ := Gt.2 i ce
    have bi := hb i ce
    have ei := e0 i ce
    have b1 := hH (hs i)
    have b2 := pd_t12 b1.1 b1.2
    have sbd := ps_b (f := pd_e (fun h => ph_sum ws (max zr 0) h false wc) hs rd 0 0) (n := i) (B := 11000) (fun j hj => e0 j (by omega))
    have hh := ph_heightAt (b := false) Ct (h := hs i) (by omega) (by omega)
    have ms : f_X1_missOf 0 (Int32.ofInt i) (Int32.ofInt ((ph_sum ws (max zr 0) (hs i) false wc).tdiv 12)) (am_wI τ 100 0 i (Int32.ofInt ((ph_sum ws (max zr 0) (hs i) false wc).tdiv 12))) = some (Int32.ofInt (pd_e (fun h => ph_sum ws (max zr 0) h false wc) hs rd 0 0 i)) := by
      rw [pd_miss (pg_Cq ((qf.rf (l := [(100, 999)])).wI rfl |>.a (by decide +kernel)) Gt) ce hn bi.2 (by omega)]
      unfold pd_e
      rw [show max 0 (hs i + 0) = hs i by omega, Int.sub_zero]
    have r1 : ∀ v : Int32, (am_wI τ 100 0 i v).1 100 0 i = v := fun v => by simp [am_wI, am_u3]
    have r2 : ∀ v u : Int32, (am_wI (am_wI τ 100 0 i v) 101 0 i u).1 101 0 i = u := fun v u => by simp [am_wI, am_u3]
    have r3 : ∀ v u : Int32, (am_wI (am_wI τ 100 0 i v) 101 0 i u).1 0 0 3 = Int32.ofInt (ps_sum (pd_e (fun h => ph_sum ws (max zr 0) h false wc) hs rd 0 0) i) := fun v u => hl
    refine ⟨(Int32.ofInt ((i : Int) + 1), am_wI (am_wI (am_wI τ 100 0 i (Int32.ofInt ((ph_sum ws (max zr 0) (hs i) false wc).tdiv 12))) 101 0 i (Int32.ofInt (pd_e (fun h => ph_sum ws (max zr 0) h false wc) hs rd 0 0 i))) 0 0 3 (Int32.ofInt (ps_sum (pd_e (fun h => ph_sum ws (max zr 0) h false wc) hs rd 0 0) i + pd_e (fun h => ph_sum ws (max zr 0) h false wc) hs rd 0 0 i))), n - (i + 1), ?_, by omega, i + 1, _, rfl, by omega, ((hq.wI rfl).wI rfl).wI rfl, rfl, fun j hj' => ?_, rfl⟩
    · simp (disch := omega) only [f_X0_findSlip_8, g0, gh, hh, qI_div, r1, ms, r2, r3, Option.bind_some, qi, ql, qI_lt, qI_le, qI_eq, qI_L, qI_ix, qL_lt, qL_eq, q_nat, q_cs, ← Int32.ofInt_add, ← Int32.ofInt_sub, ← Int32.ofInt_mul, ← Int32.ofInt_neg, ← Int64.ofInt_add, ← Int64.ofInt_sub, ← Int64.ofInt_mul, ← Int64.ofInt_neg, pL_I, q_mx, q_mn, q_ab, q_abL, q_mnL, q_nn0, q_nn1, q_rr, q_b1, q_b0, q_T, q_F, q_iT, q_iF, q_d, q_in, q_wi, q_hC, q_hM, pT_i, pU_i, pS_i, pS_j, pS_0, Sum.elim_inl, Sum.elim_inr, if_pos, if_neg]
    · by_cases cj : j = i
      · subst cj
        exact ⟨by simp [am_wI, am_u3], by simp [am_wI, am_u3]⟩
      · have := hj j (by omega)
        exact ⟨by simp [am_wI, am_u3, cj]; exact this.1, by simp [am_wI, am_u3, cj]; exact this.2⟩
  · left
    have : i = n := by omega
    subst this
    refine ⟨τ, ?_, hq, hl, hj⟩
    simp (disch := omega) only [f_X0_findSlip_8, g0, Option.bind_some, qi, ql, qI_lt, qI_le, qI_eq, qI_L, qI_ix, qL_lt, qL_eq, q_nat, q_cs, ← Int32.ofInt_add, ← Int32.ofInt_sub, ← Int32.ofInt_mul, ← Int32.ofInt_neg, ← Int64.ofInt_add, ← Int64.ofInt_sub, ← Int64.ofInt_mul, ← Int64.ofInt_neg, pL_I, q_mx, q_mn, q_ab, q_abL, q_mnL, q_nn0, q_nn1, q_rr, q_b1, q_b0, q_T, q_F, q_iT, q_iF, q_d, q_in, q_wi, q_hC, q_hM, pT_i, pU_i, pS_i, pS_j, pS_0, Sum.elim_inl, Sum.elim_inr, if_pos, if_neg]
/-- both searches, size by size -/
theorem pk_search {σ σ2 : am_H} {m a th tr n wc : Nat} {ws : Nat → Nat → Int} {zr : Int} {hs rd : Nat → Int} {clock : Bool} (hm : m < 3) (hth : th < 5) (htr : tr < 5) (hn : n ≤ 24) (C : ph_C σ a wc ws zr) (M : ph_M σ2 m wc ws (max zr 0)) (G : pg_C σ 0 n hs rd) (GM : pg_M σ2 th tr n hs rd) {most w : Int} (hmost : most = if clock = true then 5 else 50) (hw : w = if clock = true then 0 else 1) {s : Int × Int × Int} (S : pk_S σ n (fun h => ph_sum ws (max zr 0) h false wc) hs rd s) (sb : (0 ≤ s.1 ∧ s.1 ≤ 24) ∧ (-50 ≤ s.2.1 ∧ s.2.1 ≤ 50) ∧ (0 ≤ s.2.2 ∧ s.2.2 ≤ 1000000)) : ∃ (τ : am_H) (b y : Int), am_loop (fun t : Int32 × am_H => f_X0_findSlip_112 a 0 clock (Int32.ofInt most) t.1 t.2) (Int32.ofInt 1, σ) = some τ ∧ am_loop (fun t : Int32 × Int32 × Int64 × Int32 => f_X12_slipped_71 (Int32.ofInt m) (Int32.ofInt th) (Int32.ofInt tr) (Int32.ofInt n) (Int32.ofInt w) t.1 t.2.1 t.2.2.1 (Int32.ofInt most) t.2.2.2 σ2) (Int32.ofInt s.1, Int32.ofInt s.2.1, Int64.ofInt s.2.2, Int32.ofInt 1) = some (Int32.ofInt b, Int32.ofInt y) ∧ qf pk_l σ τ ∧ τ.1 0 0 5 = Int32.ofInt b ∧ τ.1 0 0 6 = Int32.ofInt y := by
  have hb : ∀ j, j < n → (0 ≤ hs j ∧ hs j ≤ 99999) ∧ (-999 ≤ rd j ∧ rd j ≤ 1000) := fun j hj => (GM j hj).2.2
  have hH : ∀ h, -9000 ≤ ph_sum ws (max zr 0) h false wc ∧ ph_sum ws (max zr 0) h false wc ≤ 9000 := fun h => by
    have c4 := C.2.2.2.1
    have := ph_b (ws := ws) (z := max zr 0) (h := h) (b := false) (n := wc) (by omega) (fun i hi => (C.2.2.2.2 i hi).1)
    have := C.1
    omega
  have Db : ∀ y : Int, -50 ≤ y ∧ y ≤ 50 → ∀ k, 0 ≤ pk_D (fun h => ph_sum ws (max zr 0) h false wc) hs rd n clock y k ∧ pk_D (fun h => ph_sum ws (max zr 0) h false wc) hs rd n clock y k ≤ 1000000 := fun y hy k => by
    have := ps_b (f := fun j => if j < k then pd_e (fun h => ph_sum ws (max zr 0) h false wc) hs rd 0 0 j else pd_e (fun h => ph_sum ws (max zr 0) h false wc) hs rd (pk_s clock y) (pk_z clock y) j) (n := n) (B := 11000) (fun j hj => by
      have h1 : 0 ≤ pd_e (fun h => ph_sum ws (max zr 0) h false wc) hs rd 0 0 j ∧ _ := pd_eb (hH _) (hb j hj).2 (by omega)
      have h2 : 0 ≤ pd_e (fun h => ph_sum ws (max zr 0) h false wc) hs rd (pk_s clock y) (pk_z clock y) j ∧ _ := pd_eb (hH _) (hb j hj).2 (by unfold pk_z; split <;> omega)
      split
      · exact h1
      · exact h2)
    unfold pk_D
    omega
  have mb : 5 ≤ most ∧ most ≤ 50 := by rw [hmost]; split <;> omega
  obtain ⟨r1, r2, k1, k2, b, y, e2, q, e5, e6⟩ := am_loop_2 (B1 := fun t : Int32 × am_H => f_X0_findSlip_112 a 0 clock (Int32.ofInt most) t.1 t.2) (B2 := fun t : Int32 × Int32 × Int64 × Int32 => f_X12_slipped_71 (Int32.ofInt m) (Int32.ofInt th) (Int32.ofInt tr) (Int32.ofInt n) (Int32.ofInt w) t.1 t.2.1 t.2.2.1 (Int32.ofInt most) t.2.2.2 σ2) (fun N t1 t2 => ∃ (size : Int) (st : Int × Int × Int) (ρ : am_H), t1 = (Int32.ofInt size, ρ) ∧ t2 = (Int32.ofInt st.1, Int32.ofInt st.2.1, Int64.ofInt st.2.2, Int32.ofInt size) ∧ (1 ≤ size ∧ size ≤ most + 1) ∧ ((0 ≤ st.1 ∧ st.1 ≤ 24) ∧ (-50 ≤ st.2.1 ∧ st.2.1 ≤ 50) ∧ (0 ≤ st.2.2 ∧ st.2.2 ≤ 1000000)) ∧ qf pk_l σ ρ ∧ pk_S ρ n (fun h => ph_sum ws (max zr 0) h false wc) hs rd st ∧ N = (most + 1 - size).toNat) (fun r1 r2 => ∃ b y : Int, r2 = (Int32.ofInt b, Int32.ofInt y) ∧ qf pk_l σ r1 ∧ r1.1 0 0 5 = Int32.ofInt b ∧ r1.1 0 0 6 = Int32.ofInt y) (by
    rintro N t1 t2 ⟨size, st, ρ, rfl, rfl, zb, stb, hq, hS, rfl⟩
    by_cases ce : most < size
    · left
      refine ⟨ρ, (Int32.ofInt st.1, Int32.ofInt st.2.1), ?_, ?_, st.1, st.2.1, rfl, hq, hS.2.1, hS.2.2.1⟩
      · simp (disch := omega) only [f_X0_findSlip_112, Option.bind_some, qi, ql, qI_lt, qI_le, qI_eq, qI_L, qI_ix, qL_lt, qL_eq, q_nat, q_cs, ← Int32.ofInt_add, ← Int32.ofInt_sub, ← Int32.ofInt_mul, ← Int32.ofInt_neg, ← Int64.ofInt_add, ← Int64.ofInt_sub, ← Int64.ofInt_mul, ← Int64.ofInt_neg, pL_I, q_mx, q_mn, q_ab, q_abL, q_mnL, q_nn0, q_nn1, q_rr, q_b1, q_b0, q_T, q_F, q_iT, q_iF, q_d, q_in, q_wi, q_hC, q_hM, pT_i, pU_i, pS_i, pS_j, pS_0, Sum.elim_inl, Sum.elim_inr, if_pos, if_neg]
      · simp (disch := omega) only [f_X12_slipped_71, Option.bind_some, qi, ql, qI_lt, qI_le, qI_eq, qI_L, qI_ix, qL_lt, qL_eq, q_nat, q_cs, ← Int32.ofInt_add, ← Int32.ofInt_sub, ← Int32.ofInt_mul, ← Int32.ofInt_neg, ← Int64.ofInt_add, ← Int64.ofInt_sub, ← Int64.ofInt_mul, ← Int64.ofInt_neg, pL_I, q_mx, q_mn, q_ab, q_abL, q_mnL, q_nn0, q_nn1, q_rr, q_b1, q_b0, q_T, q_F, q_iT, q_iF, q_d, q_in, q_wi, q_hC, q_hM, pT_i, pU_i, pS_i, pS_j, pS_0, Sum.elim_inl, Sum.elim_inr, if_pos, if_neg]
    · right
      have yn : (clock = true → -5 ≤ -size ∧ -size ≤ 5) ∧ (-50 ≤ -size ∧ -size ≤ 50) := ⟨fun c => by rw [hmost, if_pos c] at ce; omega, by omega⟩
      have yp : (clock = true → -5 ≤ size ∧ size ≤ 5) ∧ (-50 ≤ size ∧ size ≤ 50) := ⟨fun c => by rw [hmost, if_pos c] at ce; omega, by omega⟩
      obtain ⟨ρ1, t1, q1, S1⟩ := pk_try (clock := clock) (y := -size) hn (ph_Cq (hq.a (by decide +kernel)) C) (pg_Cq (hq.a (by decide +kernel)) G) hb yn hS stb
      have f1 := pk_ref (most := most) (size := size) (side := -1) hm hth htr hn M GM hw (y := -size) (by omega) yn stb (Db (-size) yn.2)
      have b1 := pk_Fb (D := pk_D (fun h => ph_sum ws (max zr 0) h false wc) hs rd n clock (-size)) (y := -size) (n := n) (s := st) (fun k _ => Db (-size) yn.2 k) hn yn.2 stb
      generalize pk_F (pk_D (fun h => ph_sum ws (max zr 0) h false wc) hs rd n clock (-size)) (-size) n st = st1 at S1 f1 b1
      have hq1 := hq.tr q1
      obtain ⟨ρ2, t2, q2, S2⟩ := pk_try (clock := clock) (y := size) hn (ph_Cq (hq1.a (by decide +kernel)) C) (pg_Cq (hq1.a (by decide +kernel)) G) hb yp S1 b1
      have f2 := pk_ref (most := most) (size := size) (side := 1) hm hth htr hn M GM hw (y := size) (by omega) yp b1 (Db size yp.2)
      have b2 := pk_Fb (D := pk_D (fun h => ph_sum ws (max zr 0) h false wc) hs rd n clock size) (y := size) (n := n) (s := st1) (fun k _ => Db size yp.2 k) hn yp.2 b1
      generalize pk_F (pk_D (fun h => ph_sum ws (max zr 0) h false wc) hs rd n clock size) size n st1 = st2 at S2 f2 b2
      have lp : am_loop (fun t : Int32 × Int32 × Int64 × Int32 => f_X12_slipped_81 (Int32.ofInt m) (Int32.ofInt th) (Int32.ofInt tr) (Int32.ofInt n) (Int32.ofInt w) t.1 t.2.1 t.2.2.1 (Int32.ofInt most) (Int32.ofInt size) t.2.2.2 σ2) (Int32.ofInt st.1, Int32.ofInt st.2.1, Int64.ofInt st.2.2, Int32.ofInt (-1)) = some (Int32.ofInt st2.1, Int32.ofInt st2.2.1, Int64.ofInt st2.2.2) := by
        refine (am_loop_in (s' := (Int32.ofInt st1.1, Int32.ofInt st1.2.1, Int64.ofInt st1.2.2, Int32.ofInt 1)) ?_).trans ((am_loop_in (s' := (Int32.ofInt st2.1, Int32.ofInt st2.2.1, Int64.ofInt st2.2.2, Int32.ofInt 3)) ?_).trans (am_loop_out ?_))
        · simp (disch := omega) only [f_X12_slipped_81, f1, Option.bind_some, qi, ql, qI_lt, qI_le, qI_eq, qI_L, qI_ix, qL_lt, qL_eq, q_nat, q_cs, ← Int32.ofInt_add, ← Int32.ofInt_sub, ← Int32.ofInt_mul, ← Int32.ofInt_neg, ← Int64.ofInt_add, ← Int64.ofInt_sub, ← Int64.ofInt_mul, ← Int64.ofInt_neg, pL_I, q_mx, q_mn, q_ab, q_abL, q_mnL, q_nn0, q_nn1, q_rr, q_b1, q_b0, q_T, q_F, q_iT, q_iF, q_d, q_in, q_wi, q_hC, q_hM, pT_i, pU_i, pS_i, pS_j, pS_0, Sum.elim_inl, Sum.elim_inr, if_pos, if_neg]
          try rfl
        · simp (disch := omega) only [f_X12_slipped_81, f2, Option.bind_some, qi, ql, qI_lt, qI_le, qI_eq, qI_L, qI_ix, qL_lt, qL_eq, q_nat, q_cs, ← Int32.ofInt_add, ← Int32.ofInt_sub, ← Int32.ofInt_mul, ← Int32.ofInt_neg, ← Int64.ofInt_add, ← Int64.ofInt_sub, ← Int64.ofInt_mul, ← Int64.ofInt_neg, pL_I, q_mx, q_mn, q_ab, q_abL, q_mnL, q_nn0, q_nn1, q_rr, q_b1, q_b0, q_T, q_F, q_iT, q_iF, q_d, q_in, q_wi, q_hC, q_hM, pT_i, pU_i, pS_i, pS_j, pS_0, Sum.elim_inl, Sum.elim_inr, if_pos, if_neg]
          try rfl
        · simp (disch := omega) only [f_X12_slipped_81, Option.bind_some, qi, ql, qI_lt, qI_le, qI_eq, qI_L, qI_ix, qL_lt, qL_eq, q_nat, q_cs, ← Int32.ofInt_add, ← Int32.ofInt_sub, ← Int32.ofInt_mul, ← Int32.ofInt_neg, ← Int64.ofInt_add, ← Int64.ofInt_sub, ← Int64.ofInt_mul, ← Int64.ofInt_neg, pL_I, q_mx, q_mn, q_ab, q_abL, q_mnL, q_nn0, q_nn1, q_rr, q_b1, q_b0, q_T, q_F, q_iT, q_iF, q_d, q_in, q_wi, q_hC, q_hM, pT_i, pU_i, pS_i, pS_j, pS_0, Sum.elim_inl, Sum.elim_inr, if_pos, if_neg]
      refine ⟨(Int32.ofInt (size + 1), ρ2), (Int32.ofInt st2.1, Int32.ofInt st2.2.1, Int64.ofInt st2.2.2, Int32.ofInt (size + 1)), (most + 1 - (size + 1)).toNat, ?_, ?_, by omega, size + 1, st2, ρ2, rfl, rfl, by omega, b2, hq1.tr q2, S2, rfl⟩
      · simp (disch := omega) only [f_X0_findSlip_112, t1, t2, Option.bind_some, qi, ql, qI_lt, qI_le, qI_eq, qI_L, qI_ix, qL_lt, qL_eq, q_nat, q_cs, ← Int32.ofInt_add, ← Int32.ofInt_sub, ← Int32.ofInt_mul, ← Int32.ofInt_neg, ← Int64.ofInt_add, ← Int64.ofInt_sub, ← Int64.ofInt_mul, ← Int64.ofInt_neg, pL_I, q_mx, q_mn, q_ab, q_abL, q_mnL, q_nn0, q_nn1, q_rr, q_b1, q_b0, q_T, q_F, q_iT, q_iF, q_d, q_in, q_wi, q_hC, q_hM, pT_i, pU_i, pS_i, pS_j, pS_0, Sum.elim_inl, Sum.elim_inr, if_pos, if_neg]
      · simp (disch := omega) only [f_X12_slipped_71, lp, Option.bind_some, qi, ql, qI_lt, qI_le, qI_eq, qI_L, qI_ix, qL_lt, qL_eq, q_nat, q_cs, ← Int32.ofInt_add, ← Int32.ofInt_sub, ← Int32.ofInt_mul, ← Int32.ofInt_neg, ← Int64.ofInt_add, ← Int64.ofInt_sub, ← Int64.ofInt_mul, ← Int64.ofInt_neg, pL_I, q_mx, q_mn, q_ab, q_abL, q_mnL, q_nn0, q_nn1, q_rr, q_b1, q_b0, q_T, q_F, q_iT, q_iF, q_d, q_in, q_wi, q_hC, q_hM, pT_i, pU_i, pS_i, pS_j, pS_0, Sum.elim_inl, Sum.elim_inr, if_pos, if_neg]) _ (Int32.ofInt 1, σ) (Int32.ofInt s.1, Int32.ofInt s.2.1, Int64.ofInt s.2.2, Int32.ofInt 1) ⟨1, s, σ, rfl, rfl, by omega, sb, qf.rf, S, rfl⟩
  subst e2
  exact ⟨r1, b, y, k1, k2, q, e5, e6⟩
theorem po_23 : am_op_23 pr_Rel := by
  intro σ1 σ2 h v1 v2 v3 v4 v5
  obtain ⟨x, x1, x2, rfl⟩ := q_ex v1
  obtain ⟨t, t1, t2, rfl⟩ := q_ex v2
  obtain ⟨u, u1, u2, rfl⟩ := q_ex v3
  obtain ⟨k, k1, k2, rfl⟩ := q_ex v4
  obtain ⟨w, w1, w2, rfl⟩ := q_ex v5
  obtain ⟨c, τ, ⟨c0, c5⟩, e1, e2, hq, hc⟩ := pg_ask h.2.U x1 x2 t1 t2 u1 u2 k1 k2 (decide (0 ≤ w ∧ w ≤ 1))
  by_cases cc : c = 0
  · subst cc
    obtain ⟨wl, m, a, th, tr, n, hs, rd, ⟨hm, ha, hth, htr⟩, hn, rfl, rfl, rfl, rfl, hr, MM, G, GM⟩ := hc rfl
    have wb : 0 ≤ w ∧ w ≤ 1 := of_decide_eq_true wl
    obtain ⟨wc, ws, zr, sl, kc, kw, kt, C, M, -⟩ := MM
    have M' : ph_M (pS σ2 0) m wc ws (max zr 0) := M
    have GM' : pg_M (pS σ2 0) th tr n hs rd := GM
    have hb : ∀ j, j < n → (0 ≤ hs j ∧ hs j ≤ 99999) ∧ (-999 ≤ rd j ∧ rd j ≤ 1000) := fun j hj => (GM j hj).2.2
    obtain ⟨clock, hclock⟩ : ∃ clock : Bool, w = if clock = true then 0 else 1 := by
      by_cases z : w = 0
      · exact ⟨true, by rw [if_pos rfl]; exact z⟩
      · exact ⟨false, by rw [if_neg (by decide)]; omega⟩
    have q3 : qf [(0, 3)] τ (am_wI τ 0 0 3 (Int32.ofInt 0)) := qf.rf.wI rfl
    obtain ⟨τ1, l1, q4, f3, f4⟩ := pk_first (clock := clock) hn.2 (ph_Cq (q3.a (by decide +kernel)) C) (pg_Cq (q3.a (by decide +kernel)) G) hb rfl
    have hH : ∀ h, -9000 ≤ ph_sum ws (max zr 0) h false wc ∧ ph_sum ws (max zr 0) h false wc ≤ 9000 := fun h => by
      have c4 := C.2.2.2.1
      have := ph_b (ws := ws) (z := max zr 0) (h := h) (b := false) (n := wc) (by omega) (fun i hi => (C.2.2.2.2 i hi).1)
      have := C.1
      omega
    have Lb := ps_b (f := pd_e (fun h => ph_sum ws (max zr 0) h false wc) hs rd 0 0) (n := n) (B := 11000) (fun j hj => pd_eb (hH _) (hb j hj).2 (by omega))
    have df := pd_differs (by omega) hth htr hn.2 M' GM' (k := 0) (s := 0) (z := 0) (by omega) (by omega) (by omega)
    have df' : f_X12_differs (Int32.ofInt m) (Int32.ofInt th) (Int32.ofInt tr) (Int32.ofInt n) (Int32.ofInt 0) (Int32.ofInt 0) (Int32.ofInt 0) (pS σ2 0) = some (Int64.ofInt (ps_sum (pd_e (fun h => ph_sum ws (max zr 0) h false wc) hs rd 0 0) n)) := by
      rw [show ps_sum (pd_e (fun h => ph_sum ws (max zr 0) h false wc) hs rd 0 0) n = ps_sum (fun j => if j < 0 then pd_e (fun h => ph_sum ws (max zr 0) h false wc) hs rd 0 0 j else pd_e (fun h => ph_sum ws (max zr 0) h false wc) hs rd 0 0 j) n from ps_congr (fun j hj => (if_neg (by omega)).symm)]
      exact df
    have q5 : qf [(0, 4), (0, 5), (0, 6)] τ1 (am_wI (am_wI (am_wI τ1 0 0 4 (Int32.ofInt 1)) 0 0 5 (Int32.ofInt 0)) 0 0 6 (Int32.ofInt 0)) := ((qf.rf.wI rfl).wI rfl).wI rfl
    have S0 : pk_S (am_wI (am_wI (am_wI τ1 0 0 4 (Int32.ofInt 1)) 0 0 5 (Int32.ofInt 0)) 0 0 6 (Int32.ofInt 0)) n (fun h => ph_sum ws (max zr 0) h false wc) hs rd (0, 0, ps_sum (pd_e (fun h => ph_sum ws (max zr 0) h false wc) hs rd 0 0) n) := ⟨f4, rfl, rfl, f3⟩
    have Q1 : qf [(0, 3), (0, 4), (0, 5), (0, 6), (100, 999), (101, 999)] τ (am_wI (am_wI (am_wI τ1 0 0 4 (Int32.ofInt 1)) 0 0 5 (Int32.ofInt 0)) 0 0 6 (Int32.ofInt 0)) := ((q3.mo (by decide)).tr (q4.mo (by decide))).tr (q5.mo (by decide))
    obtain ⟨ρ, b, y, g1, g2, q6, g5, g6⟩ := pk_search (clock := clock) (most := if clock = true then 5 else 50) (w := w) (by omega) hth htr hn.2 (ph_Cq (Q1.a (by decide +kernel)) C) M' (pg_Cq (Q1.a (by decide +kernel)) G) GM' rfl hclock S0 (by show (0 ≤ (0 : Int) ∧ (0 : Int) ≤ 24) ∧ (-50 ≤ (0 : Int) ∧ (0 : Int) ≤ 50) ∧ (0 ≤ ps_sum (pd_e (fun h => ph_sum ws (max zr 0) h false wc) hs rd 0 0) n ∧ ps_sum (pd_e (fun h => ph_sum ws (max zr 0) h false wc) hs rd 0 0) n ≤ 1000000); omega)
    have QF : qf [(1, 999), (201, 999), (202, 999), (0, 3), (0, 4), (0, 5), (0, 6), (100, 999), (101, 999), (102, 999)] σ1 ρ := ((hq.mo (by decide)).tr (Q1.mo (by decide))).tr (q6.mo (by decide))
    have s4 : ρ.1 0 0 4 = Int32.ofInt 1 := by
      rw [(q6 0 0 4 rfl).1]
      rfl
    have rr : am_rr 3 (τ.2.2 1205 0 m) = some a := by rw [hr]; exact q_rr ha
    refine ⟨Int32.ofInt b, pT ρ 0, am_wI (am_wI (pS σ2 0) 12 0 37 (Int32.ofInt 1)) 12 0 31 (Int32.ofInt y), ?_, ?_, rfl, ?_⟩
    · cases clock with
      | true =>
        rw [if_pos rfl] at hclock
        subst hclock
        have g1' : am_loop (fun t : Int32 × am_H => f_X0_findSlip_112 a 0 true (Int32.ofInt 5) t.1 t.2) (Int32.ofInt 1, am_wI (am_wI (am_wI τ1 0 0 4 (Int32.ofInt 1)) 0 0 5 (Int32.ofInt 0)) 0 0 6 (Int32.ofInt 0)) = some ρ := g1
        simp (disch := omega) only [f_X11_slipped, f_X11_slipped_54, f_X11_answer, f_X0_findSlip, e1, rr, l1, g1', g5, Option.bind_some, qi, ql, qI_lt, qI_le, qI_eq, qI_L, qI_ix, qL_lt, qL_eq, q_nat, q_cs, ← Int32.ofInt_add, ← Int32.ofInt_sub, ← Int32.ofInt_mul, ← Int32.ofInt_neg, ← Int64.ofInt_add, ← Int64.ofInt_sub, ← Int64.ofInt_mul, ← Int64.ofInt_neg, pL_I, q_mx, q_mn, q_ab, q_abL, q_mnL, q_nn0, q_nn1, q_rr, q_b1, q_b0, q_T, q_F, q_iT, q_iF, q_d, q_in, q_wi, q_hC, q_hM, pT_i, pU_i, pS_i, pS_j, pS_0, Sum.elim_inl, Sum.elim_inr, if_pos, if_neg]
      | false =>
        rw [if_neg (by decide)] at hclock
        subst hclock
        have g1' : am_loop (fun t : Int32 × am_H => f_X0_findSlip_112 a 0 false (Int32.ofInt 50) t.1 t.2) (Int32.ofInt 1, am_wI (am_wI (am_wI τ1 0 0 4 (Int32.ofInt 1)) 0 0 5 (Int32.ofInt 0)) 0 0 6 (Int32.ofInt 0)) = some ρ := g1
        simp (disch := omega) only [f_X11_slipped, f_X11_slipped_54, f_X11_answer, f_X0_findSlip, e1, rr, l1, g1', g5, Option.bind_some, qi, ql, qI_lt, qI_le, qI_eq, qI_L, qI_ix, qL_lt, qL_eq, q_nat, q_cs, ← Int32.ofInt_add, ← Int32.ofInt_sub, ← Int32.ofInt_mul, ← Int32.ofInt_neg, ← Int64.ofInt_add, ← Int64.ofInt_sub, ← Int64.ofInt_mul, ← Int64.ofInt_neg, pL_I, q_mx, q_mn, q_ab, q_abL, q_mnL, q_nn0, q_nn1, q_rr, q_b1, q_b0, q_T, q_F, q_iT, q_iF, q_d, q_in, q_wi, q_hC, q_hM, pT_i, pU_i, pS_i, pS_j, pS_0, Sum.elim_inl, Sum.elim_inr, if_pos, if_neg]
    · cases clock with
      | true =>
        rw [if_pos rfl] at hclock
        subst hclock
        have g2' : am_loop (fun t : Int32 × Int32 × Int64 × Int32 => f_X12_slipped_71 (Int32.ofInt m) (Int32.ofInt th) (Int32.ofInt tr) (Int32.ofInt n) (Int32.ofInt 0) t.1 t.2.1 t.2.2.1 (Int32.ofInt 5) t.2.2.2 (pS σ2 0)) (Int32.ofInt 0, Int32.ofInt 0, Int64.ofInt (ps_sum (pd_e (fun h => ph_sum ws (max zr 0) h false wc) hs rd 0 0) n), Int32.ofInt 1) = some (Int32.ofInt b, Int32.ofInt y) := g2
        simp (disch := omega) only [f_X12_slipped, e2, df', g2', Option.bind_some, qi, ql, qI_lt, qI_le, qI_eq, qI_L, qI_ix, qL_lt, qL_eq, q_nat, q_cs, ← Int32.ofInt_add, ← Int32.ofInt_sub, ← Int32.ofInt_mul, ← Int32.ofInt_neg, ← Int64.ofInt_add, ← Int64.ofInt_sub, ← Int64.ofInt_mul, ← Int64.ofInt_neg, pL_I, q_mx, q_mn, q_ab, q_abL, q_mnL, q_nn0, q_nn1, q_rr, q_b1, q_b0, q_T, q_F, q_iT, q_iF, q_d, q_in, q_wi, q_hC, q_hM, pT_i, pU_i, pS_i, pS_j, pS_0, Sum.elim_inl, Sum.elim_inr, if_pos, if_neg]
      | false =>
        rw [if_neg (by decide)] at hclock
        subst hclock
        have g2' : am_loop (fun t : Int32 × Int32 × Int64 × Int32 => f_X12_slipped_71 (Int32.ofInt m) (Int32.ofInt th) (Int32.ofInt tr) (Int32.ofInt n) (Int32.ofInt 1) t.1 t.2.1 t.2.2.1 (Int32.ofInt 50) t.2.2.2 (pS σ2 0)) (Int32.ofInt 0, Int32.ofInt 0, Int64.ofInt (ps_sum (pd_e (fun h => ph_sum ws (max zr 0) h false wc) hs rd 0 0) n), Int32.ofInt 1) = some (Int32.ofInt b, Int32.ofInt y) := g2
        simp (disch := omega) only [f_X12_slipped, e2, df', g2', Option.bind_some, qi, ql, qI_lt, qI_le, qI_eq, qI_L, qI_ix, qL_lt, qL_eq, q_nat, q_cs, ← Int32.ofInt_add, ← Int32.ofInt_sub, ← Int32.ofInt_mul, ← Int32.ofInt_neg, ← Int64.ofInt_add, ← Int64.ofInt_sub, ← Int64.ofInt_mul, ← Int64.ofInt_neg, pL_I, q_mx, q_mn, q_ab, q_abL, q_mnL, q_nn0, q_nn1, q_rr, q_b1, q_b0, q_T, q_F, q_iT, q_iF, q_d, q_in, q_wi, q_hC, q_hM, pT_i, pU_i, pS_i, pS_j, pS_0, Sum.elim_inl, Sum.elim_inr, if_pos, if_neg]
    · refine h.2.st [(11, 0), (1, 999), (201, 999), (202, 999), (0, 3), (0, 4), (0, 5), (0, 6), (100, 999), (101, 999), (102, 999)] [(12, 0), (12, 1), (12, 37), (12, 31)] [8] (by decide +kernel) ((QF.mo (by decide)).wI rfl) ((((qf.rf.wI rfl).wI rfl).wI rfl).wI rfl) ?_
      intro N hN
      rw [List.mem_singleton] at hN
      subst hN
      exact ⟨s4, g6⟩
  · refine ⟨Int32.ofInt (-1), pT τ c, pS σ2 c, ?_, ?_, (pg_core h.2 hq).TS c⟩
    · simp (disch := omega) only [f_X11_slipped, f_X11_none, e1, Option.bind_some, qi, ql, qI_lt, qI_le, qI_eq, qI_L, qI_ix, qL_lt, qL_eq, q_nat, q_cs, ← Int32.ofInt_add, ← Int32.ofInt_sub, ← Int32.ofInt_mul, ← Int32.ofInt_neg, ← Int64.ofInt_add, ← Int64.ofInt_sub, ← Int64.ofInt_mul, ← Int64.ofInt_neg, pL_I, q_mx, q_mn, q_ab, q_abL, q_mnL, q_nn0, q_nn1, q_rr, q_b1, q_b0, q_T, q_F, q_iT, q_iF, q_d, q_in, q_wi, q_hC, q_hM, pT_i, pU_i, pS_i, pS_j, pS_0, Sum.elim_inl, Sum.elim_inr, if_pos, if_neg]
    · simp (disch := omega) only [f_X12_slipped, e2, Option.bind_some, qi, ql, qI_lt, qI_le, qI_eq, qI_L, qI_ix, qL_lt, qL_eq, q_nat, q_cs, ← Int32.ofInt_add, ← Int32.ofInt_sub, ← Int32.ofInt_mul, ← Int32.ofInt_neg, ← Int64.ofInt_add, ← Int64.ofInt_sub, ← Int64.ofInt_mul, ← Int64.ofInt_neg, pL_I, q_mx, q_mn, q_ab, q_abL, q_mnL, q_nn0, q_nn1, q_rr, q_b1, q_b0, q_T, q_F, q_iT, q_iF, q_d, q_in, q_wi, q_hC, q_hM, pT_i, pU_i, pS_i, pS_j, pS_0, Sum.elim_inl, Sum.elim_inr, if_pos, if_neg]
