def px_lC : List (Nat × Nat) := [(6, 2), (6, 3), (704, 999)]
def px_lM : List (Nat × Nat) := [(12, 60), (12, 61), (12, 62), (12, 63)]
def px_E (τ1 τ2 : am_H) (a0 a1 wc0 wc1 : Nat) (ws0 ws1 : Nat → Nat → Int) (zr0 zr1 h : Int) : Prop := (a0 < 3 ∧ a1 < 3) ∧ ph_C τ1 a0 wc0 ws0 zr0 ∧ ph_C τ1 a1 wc1 ws1 zr1 ∧ ph_M τ2 0 wc0 ws0 (max zr0 0) ∧ ph_M τ2 1 wc1 ws1 (max zr1 0) ∧ τ1.1 6 0 0 = Int32.ofInt h ∧ τ1.2.1 6 0 1 = Int64.ofInt (ps_sum (fun i => px_T h (ws0 i)) wc0 + ps_sum (fun i => px_T h (ws1 i)) wc1) ∧ (0 ≤ h ∧ h ≤ 99999)
theorem px_Eq {τ1 τ2 ρ1 ρ2 : am_H} {a0 a1 wc0 wc1 : Nat} {ws0 ws1 : Nat → Nat → Int} {zr0 zr1 h : Int} (E : px_E τ1 τ2 a0 a1 wc0 wc1 ws0 ws1 zr0 zr1 h) (q1 : qf px_lC τ1 ρ1) (q2 : qf px_lM τ2 ρ2) : px_E ρ1 ρ2 a0 a1 wc0 wc1 ws0 ws1 zr0 zr1 h := by
  obtain ⟨a, C0, C1, M0, M1, e0, e1, hb⟩ := E
  exact ⟨a, ph_Cq (q1.a (by decide +kernel)) C0, ph_Cq (q1.a (by decide +kernel)) C1, ph_Mq (q2.a (by decide +kernel)) M0, ph_Mq (q2.a (by decide +kernel)) M1, by rw [(q1 6 0 0 rfl).1]; exact e0, by rw [(q1 6 0 1 rfl).2.1]; exact e1, hb⟩
def px_S (ρ1 ρ2 : am_H) (l : Int) : Prop := ρ1.2.1 6 0 2 = Int64.ofInt l ∧ (0 ≤ l ∧ l ≤ 1000000000000000) ∧ ∃ i w : Int, ρ1.1 6 0 3 = Int32.ofInt i ∧ ρ2.1 12 0 60 = Int32.ofInt w ∧ ((i = 0 ∧ w = -1) ∨ (i = 1 ∧ (0 ≤ w ∧ w ≤ 5) ∧ ρ1.1 704 0 0 = Int32.ofInt w ∧ ρ1.1 704 0 1 = ρ2.1 12 0 61 ∧ ρ1.1 704 0 2 = ρ2.1 12 0 62 ∧ ρ1.1 704 0 3 = ρ2.1 12 0 63))
theorem px_teeth {w : Nat → Int} (ok : pw_ok w) {k : Nat} (hk : k < 4) : 1 ≤ w (5 + k) ∧ w (5 + k) ≤ 200 := by
  obtain ⟨-, -, -, -, -, a, b, c, d⟩ := ok
  rcases (by omega : k = 0 ∨ k = 1 ∨ k = 2 ∨ k = 3) with rfl | rfl | rfl | rfl
  · exact a
  · exact b
  · exact c
  · exact d
theorem px_step {ρ1 ρ2 : am_H} {a0 a1 wc0 wc1 i k j l : Nat} {ws0 ws1 : Nat → Nat → Int} {zr0 zr1 h L : Int} {v5 : Int64} (E : px_E ρ1 ρ2 a0 a1 wc0 wc1 ws0 ws1 zr0 zr1 h) (hi : i < wc0) (hk : (k : Int) < 2 * ws0 i 4) (hj : j < wc1) (hl : (l : Int) < 2 * ws1 j 4) (S : px_S ρ1 ρ2 L) : ∃ (ρ1' ρ2' : am_H) (L' : Int), f_X6_tryAll_47 (6 * a0 + i) a1 (Int32.ofInt i) (Int32.ofInt k) v5 (Int32.ofInt j) (6 * a1 + j) (Int64.ofInt (ps_sum (fun i => px_T h (ws0 i)) wc0 + ps_sum (fun i => px_T h (ws1 i)) wc1 - px_T h (ws0 i) - px_T h (ws1 j))) (Int32.ofInt l) ρ1 = some (.inl (Int32.ofInt ((l : Int) + 1), ρ1')) ∧ f_X12_trade_81 (Int32.ofInt h) (Int64.ofInt L) (Int32.ofInt i) (Int32.ofInt k) (Int32.ofInt j) (Int32.ofInt l) ρ2 = some (.inl (Int64.ofInt L', Int32.ofInt ((l : Int) + 1), ρ2')) ∧ qf px_lC ρ1 ρ1' ∧ qf px_lM ρ2 ρ2' ∧ px_S ρ1' ρ2' L' := by
  obtain ⟨⟨ha0, ha1⟩, C0, C1, M0, M1, e6, eA, ⟨h0, h1⟩⟩ := E
  obtain ⟨s2, ⟨L0, L1⟩, iw, w, s3, s60, sw⟩ := S
  obtain ⟨ok0, Cw0⟩ := C0.2.2.2.2 i hi
  obtain ⟨ok1, Cw1⟩ := C1.2.2.2.2 j hj
  have w60 := C0.1
  have w61 := C1.1
  have k0 : 0 ≤ ws0 i 4 ∧ ws0 i 4 ≤ 2 := ok0.2.2.2.2.1
  have k1 : 0 ≤ ws1 j 4 ∧ ws1 j 4 ≤ 2 := ok1.2.2.2.2.1
  have t0 := px_teeth ok0 (k := k) (by omega)
  have t1 := px_teeth ok1 (k := l) (by omega)
  have w4 : ρ1.1 10 (6 * a1 + j) 5 = Int32.ofInt (ws1 j 4) := Cw1.2.2.2.2.1
  have tt0 := pw_toothed Cw0 (k := k) (by omega)
  have tt1 := pw_toothed Cw1 (k := l) (by omega)
  have x0 := px_with ok0 Cw0 h0 h1 e6 (k := k) (t := ws1 j (5 + l)) (by omega) (by omega) t1.1 t1.2
  have x1 := px_with ok1 Cw1 h0 h1 e6 (k := l) (t := ws0 i (5 + k)) (by omega) (by omega) t0.1 t0.2
  have b0 := (px_b ok0 h0 h1).2.2.2
  have b1 := (px_b ok1 h0 h1).2.2.2
  have b2 := (px_b (px_okw ok0 (k := k) t1.1 t1.2) h0 h1).2.2.2
  have b3 := (px_b (px_okw ok1 (k := l) t0.1 t0.2) h0 h1).2.2.2
  have B0 := ps_b (f := fun i => px_T h (ws0 i)) (n := wc0) (B := 24000000000000) (fun q hq => (px_b (C0.2.2.2.2 q hq).1 h0 h1).2.2.2)
  have B1 := ps_b (f := fun i => px_T h (ws1 i)) (n := wc1) (B := 24000000000000) (fun q hq => (px_b (C1.2.2.2.2 q hq).1 h0 h1).2.2.2)
  have X := px_ex M0 M1 hi (k := k) (by omega) hj (l := l) (by omega)
  obtain ⟨N0, N1⟩ := px_exM (x := ws0 i (5 + k)) (y := ws1 j (5 + l)) M0 M1 hi (k := k) (by omega) hj (l := l) (by omega) t0.1 t0.2 t1.1 t1.2
  have AO := px_all N0 N1 h0 h1
  have Y := px_ex N0 N1 hi (k := k) (by omega) hj (l := l) (by omega)
  have BK := px_back (i := i) (k := k) (j := j) (l := l) (by omega) (by omega) ((M0.2.2.2.2 i hi).2 (5 + k) (by omega)) ((M1.2.2.2.2 j hj).2 (5 + l) (by omega))
  have eY : (px_X (px_X ρ2 i k j l (ws0 i (5 + k)) (ws1 j (5 + l))) i k j l ((fun q => if q = i then pt_w (ws0 i) k (ws1 j (5 + l)) else ws0 q) i (5 + k)) ((fun q => if q = j then pt_w (ws1 j) l (ws0 i (5 + k)) else ws1 q) j (5 + l))) = ρ2 := by
    simp only [if_true, pt_w_k]
    exact BK
  rw [eY] at Y
  have eS : ps_sum (fun q => px_T h ((fun q => if q = i then pt_w (ws0 i) k (ws1 j (5 + l)) else ws0 q) q)) wc0 + ps_sum (fun q => px_T h ((fun q => if q = j then pt_w (ws1 j) l (ws0 i (5 + k)) else ws1 q) q)) wc1 = ps_sum (fun i => px_T h (ws0 i)) wc0 + ps_sum (fun i => px_T h (ws1 i)) wc1 - px_T h (ws0 i) - px_T h (ws1 j) + px_T h (pt_w (ws0 i) k (ws1 j (5 + l))) + px_T h (pt_w (ws1 j) l (ws0 i (5 + k))) := by
    have u0 := ps_upd (f := fun i => px_T h (ws0 i)) (A := px_T h (pt_w (ws0 i) k (ws1 j (5 + l)))) hi
    have u1 := ps_upd (f := fun i => px_T h (ws1 i)) (A := px_T h (pt_w (ws1 j) l (ws0 i (5 + k)))) hj
    have c0 : ps_sum (fun q => px_T h ((fun q => if q = i then pt_w (ws0 i) k (ws1 j (5 + l)) else ws0 q) q)) wc0 = ps_sum (fun q => if q = i then px_T h (pt_w (ws0 i) k (ws1 j (5 + l))) else px_T h (ws0 q)) wc0 := ps_congr (fun q hq => by
      show px_T h (if q = i then pt_w (ws0 i) k (ws1 j (5 + l)) else ws0 q) = _
      split <;> rfl)
    have c1 : ps_sum (fun q => px_T h ((fun q => if q = j then pt_w (ws1 j) l (ws0 i (5 + k)) else ws1 q) q)) wc1 = ps_sum (fun q => if q = j then px_T h (pt_w (ws1 j) l (ws0 i (5 + k))) else px_T h (ws1 q)) wc1 := ps_congr (fun q hq => by
      show px_T h (if q = j then pt_w (ws1 j) l (ws0 i (5 + k)) else ws1 q) = _
      split <;> rfl)
    rw [c0, c1, u0, u1]
    omega
  rw [eS] at AO
  obtain ⟨o0, o1, o2, o3, o4, -⟩ := pm_o (M1.2.2.2.2 j hj).2 (by omega) (by omega)
  have o4' : f_X12_of (Int32.ofInt 1) (Int32.ofInt j) (Int32.ofInt 4) ρ2 = some (Int32.ofInt (ws1 j 4)) := o4
  have Le : 0 ≤ ps_sum (fun i => px_T h (ws0 i)) wc0 + ps_sum (fun i => px_T h (ws1 i)) wc1 - px_T h (ws0 i) - px_T h (ws1 j) := by
    have u0 := ps_upd (f := fun i => px_T h (ws0 i)) (A := 0) hi
    have u1 := ps_upd (f := fun i => px_T h (ws1 i)) (A := 0) hj
    have v0 := ps_b (f := fun q => if q = i then 0 else px_T h (ws0 q)) (n := wc0) (B := 24000000000000) (fun q hq => by
      have := (px_b (C0.2.2.2.2 q hq).1 h0 h1).2.2.2
      show 0 ≤ (if q = i then 0 else px_T h (ws0 q)) ∧ (if q = i then 0 else px_T h (ws0 q)) ≤ _
      split <;> omega)
    have v1 := ps_b (f := fun q => if q = j then 0 else px_T h (ws1 q)) (n := wc1) (B := 24000000000000) (fun q hq => by
      have := (px_b (C1.2.2.2.2 q hq).1 h0 h1).2.2.2
      show 0 ≤ (if q = j then 0 else px_T h (ws1 q)) ∧ (if q = j then 0 else px_T h (ws1 q)) ≤ _
      split <;> omega)
    omega
  have Lu : ps_sum (fun i => px_T h (ws0 i)) wc0 + ps_sum (fun i => px_T h (ws1 i)) wc1 - px_T h (ws0 i) - px_T h (ws1 j) ≤ 900000000000000 := by omega
  generalize ps_sum (fun i => px_T h (ws0 i)) wc0 + ps_sum (fun i => px_T h (ws1 i)) wc1 - px_T h (ws0 i) - px_T h (ws1 j) = R at *
  generalize px_T h (pt_w (ws0 i) k (ws1 j (5 + l))) = U at *
  generalize px_T h (pt_w (ws1 j) l (ws0 i (5 + k))) = V at *
  by_cases c : R + U + V < L
  · refine ⟨am_wI (am_wI (am_wI (am_wI (am_wI (am_wL ρ1 6 0 2 (Int64.ofInt (R + U + V))) 6 0 3 (Int32.ofInt 1)) 704 0 (0 : Int).toNat (Int32.ofInt i)) 704 0 (1 : Int).toNat (Int32.ofInt k)) 704 0 (2 : Int).toNat (Int32.ofInt j)) 704 0 (3 : Int).toNat (Int32.ofInt l), am_wI (am_wI (am_wI (am_wI ρ2 12 0 60 (Int32.ofInt i)) 12 0 61 (Int32.ofInt k)) 12 0 62 (Int32.ofInt j)) 12 0 63 (Int32.ofInt l), R + U + V, ?_, ?_, (((((qf.rf.wL rfl).wI rfl).wI rfl).wI rfl).wI rfl).wI rfl, (((qf.rf.wI rfl).wI rfl).wI rfl).wI rfl, rfl, by omega, 1, i, rfl, rfl, Or.inr ⟨rfl, by omega, rfl, rfl, rfl, rfl⟩⟩
    · simp (disch := omega) only [f_X6_tryAll_47, f_X10_wheels, w4, tt0, tt1, x0, x1, s2, Option.bind_some, qi, ql, qI_lt, qI_le, qI_eq, qI_L, qI_ix, qL_lt, qL_eq, q_nat, q_cs, ← Int32.ofInt_add, ← Int32.ofInt_sub, ← Int32.ofInt_mul, ← Int32.ofInt_neg, ← Int64.ofInt_add, ← Int64.ofInt_sub, ← Int64.ofInt_mul, ← Int64.ofInt_neg, pL_I, q_mx, q_mn, q_ab, q_abL, q_mnL, q_nn0, q_nn1, q_rr, q_b1, q_b0, q_T, q_F, q_iT, q_iF, q_d, q_in, q_wi, q_hC, q_hM, pT_i, pU_i, pS_i, pS_j, pS_0, Sum.elim_inl, Sum.elim_inr, if_pos, if_neg]
    · simp (disch := omega) only [f_X12_trade_81, f_X12_wheels, o4', X, AO, Y, Option.bind_some, qi, ql, qI_lt, qI_le, qI_eq, qI_L, qI_ix, qL_lt, qL_eq, q_nat, q_cs, ← Int32.ofInt_add, ← Int32.ofInt_sub, ← Int32.ofInt_mul, ← Int32.ofInt_neg, ← Int64.ofInt_add, ← Int64.ofInt_sub, ← Int64.ofInt_mul, ← Int64.ofInt_neg, pL_I, q_mx, q_mn, q_ab, q_abL, q_mnL, q_nn0, q_nn1, q_rr, q_b1, q_b0, q_T, q_F, q_iT, q_iF, q_d, q_in, q_wi, q_hC, q_hM, pT_i, pU_i, pS_i, pS_j, pS_0, Sum.elim_inl, Sum.elim_inr, if_pos, if_neg]
  · refine ⟨ρ1, ρ2, L, ?_, ?_, qf.rf, qf.rf, s2, ⟨L0, L1⟩, iw, w, s3, s60, sw⟩
    · simp (disch := omega) only [f_X6_tryAll_47, f_X10_wheels, w4, tt0, tt1, x0, x1, s2, Option.bind_some, qi, ql, qI_lt, qI_le, qI_eq, qI_L, qI_ix, qL_lt, qL_eq, q_nat, q_cs, ← Int32.ofInt_add, ← Int32.ofInt_sub, ← Int32.ofInt_mul, ← Int32.ofInt_neg, ← Int64.ofInt_add, ← Int64.ofInt_sub, ← Int64.ofInt_mul, ← Int64.ofInt_neg, pL_I, q_mx, q_mn, q_ab, q_abL, q_mnL, q_nn0, q_nn1, q_rr, q_b1, q_b0, q_T, q_F, q_iT, q_iF, q_d, q_in, q_wi, q_hC, q_hM, pT_i, pU_i, pS_i, pS_j, pS_0, Sum.elim_inl, Sum.elim_inr, if_pos, if_neg]
    · simp (disch := omega) only [f_X12_trade_81, f_X12_wheels, o4', X, AO, Y, Option.bind_some, qi, ql, qI_lt, qI_le, qI_eq, qI_L, qI_ix, qL_lt, qL_eq, q_nat, q_cs, ← Int32.ofInt_add, ← Int32.ofInt_sub, ← Int32.ofInt_mul, ← Int32.ofInt_neg, ← Int64.ofInt_add, ← Int64.ofInt_sub, ← Int64.ofInt_mul, ← Int64.ofInt_neg, pL_I, q_mx, q_mn, q_ab, q_abL, q_mnL, q_nn0, q_nn1, q_rr, q_b1, q_b0, q_T, q_F, q_iT, q_iF, q_d, q_in, q_wi, q_hC, q_hM, pT_i, pU_i, pS_i, pS_j, pS_0, Sum.elim_inl, Sum.elim_inr, if_pos, if_neg]
theorem px_l {π1 π2 : am_H} {a0 a1 wc0 wc1 i k j : Nat} {ws0 ws1 : Nat → Nat → Int} {zr0 zr1 h L : Int} {v5 : Int64} (E : px_E π1 π2 a0 a1 wc0 wc1 ws0 ws1 zr0 zr1 h) (hi : i < wc0) (hk : (k : Int) < 2 * ws0 i 4) (hj : j < wc1) (S : px_S π1 π2 L) : ∃ (ρ1 ρ2 : am_H) (L' : Int), am_loop (fun s : Int32 × am_H => f_X6_tryAll_47 (6 * a0 + i) a1 (Int32.ofInt i) (Int32.ofInt k) v5 (Int32.ofInt j) (6 * a1 + j) (Int64.ofInt (ps_sum (fun i => px_T h (ws0 i)) wc0 + ps_sum (fun i => px_T h (ws1 i)) wc1 - px_T h (ws0 i) - px_T h (ws1 j))) s.1 s.2) (Int32.ofInt 0, π1) = some ρ1 ∧ am_loop (fun s : Int64 × Int32 × am_H => f_X12_trade_81 (Int32.ofInt h) s.1 (Int32.ofInt i) (Int32.ofInt k) (Int32.ofInt j) s.2.1 s.2.2) (Int64.ofInt L, Int32.ofInt 0, π2) = some (Int64.ofInt L', ρ2) ∧ qf px_lC π1 ρ1 ∧ qf px_lM π2 ρ2 ∧ px_S ρ1 ρ2 L' := by
  have ok1 := (E.2.2.1.2.2.2.2 j hj).1
  have k1 : 0 ≤ ws1 j 4 ∧ ws1 j 4 ≤ 2 := ok1.2.2.2.2.1
  have w61 := E.2.2.1.1
  obtain ⟨r1, r2, e1, e2, L', ρ2, rfl, q1, q2, s⟩ := am_loop_2 (B1 := fun s : Int32 × am_H => f_X6_tryAll_47 (6 * a0 + i) a1 (Int32.ofInt i) (Int32.ofInt k) v5 (Int32.ofInt j) (6 * a1 + j) (Int64.ofInt (ps_sum (fun i => px_T h (ws0 i)) wc0 + ps_sum (fun i => px_T h (ws1 i)) wc1 - px_T h (ws0 i) - px_T h (ws1 j))) s.1 s.2) (B2 := fun s : Int64 × Int32 × am_H => f_X12_trade_81 (Int32.ofInt h) s.1 (Int32.ofInt i) (Int32.ofInt k) (Int32.ofInt j) s.2.1 s.2.2) (fun N s1 s2 => ∃ (l : Nat) (L : Int) (ρ1 ρ2 : am_H), s1 = (Int32.ofInt l, ρ1) ∧ s2 = (Int64.ofInt L, Int32.ofInt l, ρ2) ∧ (l : Int) ≤ 2 * ws1 j 4 ∧ qf px_lC π1 ρ1 ∧ qf px_lM π2 ρ2 ∧ px_S ρ1 ρ2 L ∧ N = (2 * ws1 j 4 - l).toNat) (fun r1 r2 => ∃ (L : Int) (ρ2 : am_H), r2 = (Int64.ofInt L, ρ2) ∧ qf px_lC π1 r1 ∧ qf px_lM π2 ρ2 ∧ px_S r1 ρ2 L) (by
    rintro N s1 s2 ⟨l, L, ρ1, ρ2, rfl, rfl, hl, q1, q2, s, rfl⟩
    have E' := px_Eq E q1 q2
    by_cases ce : (l : Int) < 2 * ws1 j 4
    · right
      obtain ⟨ρ1', ρ2', L', f1, f2, u1, u2, s'⟩ := px_step (v5 := v5) E' hi hk hj ce s
      exact ⟨(Int32.ofInt ((l : Int) + 1), ρ1'), (Int64.ofInt L', Int32.ofInt ((l : Int) + 1), ρ2'), (2 * ws1 j 4 - ((l + 1 : Nat) : Int)).toNat, f1, f2, by omega, l + 1, L', ρ1', ρ2', rfl, rfl, by omega, q1.tr u1, q2.tr u2, s', rfl⟩
    · left
      have w4 : ρ1.1 10 (6 * a1 + j) 5 = Int32.ofInt (ws1 j 4) := (E'.2.2.1.2.2.2.2 j hj).2.2.2.2.2.1
      obtain ⟨o0, o1, o2, o3, o4, -⟩ := pm_o (E'.2.2.2.2.1.2.2.2.2 j hj).2 (by omega) (by omega)
      have o4' : f_X12_of (Int32.ofInt 1) (Int32.ofInt j) (Int32.ofInt 4) ρ2 = some (Int32.ofInt (ws1 j 4)) := o4
      refine ⟨ρ1, (Int64.ofInt L, ρ2), ?_, ?_, L, ρ2, rfl, q1, q2, s⟩
      · simp (disch := omega) only [f_X6_tryAll_47, f_X10_wheels, w4, Option.bind_some, qi, ql, qI_lt, qI_le, qI_eq, qI_L, qI_ix, qL_lt, qL_eq, q_nat, q_cs, ← Int32.ofInt_add, ← Int32.ofInt_sub, ← Int32.ofInt_mul, ← Int32.ofInt_neg, ← Int64.ofInt_add, ← Int64.ofInt_sub, ← Int64.ofInt_mul, ← Int64.ofInt_neg, pL_I, q_mx, q_mn, q_ab, q_abL, q_mnL, q_nn0, q_nn1, q_rr, q_b1, q_b0, q_T, q_F, q_iT, q_iF, q_d, q_in, q_wi, q_hC, q_hM, pT_i, pU_i, pS_i, pS_j, pS_0, Sum.elim_inl, Sum.elim_inr, if_pos, if_neg]
      · simp (disch := omega) only [f_X12_trade_81, f_X12_wheels, o4', Option.bind_some, qi, ql, qI_lt, qI_le, qI_eq, qI_L, qI_ix, qL_lt, qL_eq, q_nat, q_cs, ← Int32.ofInt_add, ← Int32.ofInt_sub, ← Int32.ofInt_mul, ← Int32.ofInt_neg, ← Int64.ofInt_add, ← Int64.ofInt_sub, ← Int64.ofInt_mul, ← Int64.ofInt_neg, pL_I, q_mx, q_mn, q_ab, q_abL, q_mnL, q_nn0, q_nn1, q_rr, q_b1, q_b0, q_T, q_F, q_iT, q_iF, q_d, q_in, q_wi, q_hC, q_hM, pT_i, pU_i, pS_i, pS_j, pS_0, Sum.elim_inl, Sum.elim_inr, if_pos, if_neg]) _ (Int32.ofInt 0, π1) (Int64.ofInt L, Int32.ofInt 0, π2) ⟨0, L, π1, π2, rfl, rfl, by omega, qf.rf, qf.rf, S, rfl⟩
  exact ⟨r1, ρ2, L', e1, e2, q1, q2, s⟩
theorem px_j {π1 π2 : am_H} {a0 a1 wc0 wc1 i k : Nat} {ws0 ws1 : Nat → Nat → Int} {zr0 zr1 h L : Int} (E : px_E π1 π2 a0 a1 wc0 wc1 ws0 ws1 zr0 zr1 h) (hi : i < wc0) (hk : (k : Int) < 2 * ws0 i 4) (S : px_S π1 π2 L) : ∃ (ρ1 ρ2 : am_H) (L' : Int), f_X6_tryAll (6 * a0 + i) a1 (Int32.ofInt i) (Int32.ofInt k) π1 = some ρ1 ∧ am_loop (fun s : Int64 × Int32 × am_H => f_X12_trade_67 (Int32.ofInt h) s.1 (Int32.ofInt i) (Int32.ofInt k) s.2.1 s.2.2) (Int64.ofInt L, Int32.ofInt 0, π2) = some (Int64.ofInt L', ρ2) ∧ qf px_lC π1 ρ1 ∧ qf px_lM π2 ρ2 ∧ px_S ρ1 ρ2 L' := by
  have w61 := E.2.2.1.1
  have now0 := px_now (E.2.1.2.2.2.2 i hi).1 (E.2.1.2.2.2.2 i hi).2 E.2.2.2.2.2.2.2.1 E.2.2.2.2.2.2.2.2 E.2.2.2.2.2.1
  have eA := E.2.2.2.2.2.2.1
  obtain ⟨r1, r2, e1, e2, L', ρ2, rfl, q1, q2, s⟩ := am_loop_2 (B1 := fun s : Int32 × am_H => f_X6_tryAll_15 (6 * a0 + i) a1 (Int32.ofInt i) (Int32.ofInt k) (Int64.ofInt (ps_sum (fun i => px_T h (ws0 i)) wc0 + ps_sum (fun i => px_T h (ws1 i)) wc1 - px_T h (ws0 i))) s.1 s.2) (B2 := fun s : Int64 × Int32 × am_H => f_X12_trade_67 (Int32.ofInt h) s.1 (Int32.ofInt i) (Int32.ofInt k) s.2.1 s.2.2) (fun N s1 s2 => ∃ (j : Nat) (L : Int) (ρ1 ρ2 : am_H), s1 = (Int32.ofInt j, ρ1) ∧ s2 = (Int64.ofInt L, Int32.ofInt j, ρ2) ∧ j ≤ wc1 ∧ qf px_lC π1 ρ1 ∧ qf px_lM π2 ρ2 ∧ px_S ρ1 ρ2 L ∧ N = wc1 - j) (fun r1 r2 => ∃ (L : Int) (ρ2 : am_H), r2 = (Int64.ofInt L, ρ2) ∧ qf px_lC π1 r1 ∧ qf px_lM π2 ρ2 ∧ px_S r1 ρ2 L) (by
    rintro N s1 s2 ⟨j, L, ρ1, ρ2, rfl, rfl, hj, q1, q2, s, rfl⟩
    have E' := px_Eq E q1 q2
    have c2 : ρ1.1 3 a1 1 = Int32.ofInt wc1 := E'.2.2.1.2.1
    have d2 : ρ2.1 1320 0 (1 : Int).toNat = Int32.ofInt wc1 := E'.2.2.2.2.1.2.1
    by_cases ce : j < wc1
    · right
      have now1 := px_now (E'.2.2.1.2.2.2.2 j ce).1 (E'.2.2.1.2.2.2.2 j ce).2 E'.2.2.2.2.2.2.2.1 E'.2.2.2.2.2.2.2.2 E'.2.2.2.2.2.1
      obtain ⟨ρ1', ρ2', L', f1, f2, u1, u2, s'⟩ := px_l (v5 := Int64.ofInt (ps_sum (fun i => px_T h (ws0 i)) wc0 + ps_sum (fun i => px_T h (ws1 i)) wc1 - px_T h (ws0 i))) E' hi hk ce s
      refine ⟨(Int32.ofInt ((j : Int) + 1), ρ1'), (Int64.ofInt L', Int32.ofInt ((j : Int) + 1), ρ2'), wc1 - (j + 1), ?_, ?_, by omega, j + 1, L', ρ1', ρ2', rfl, rfl, by omega, q1.tr u1, q2.tr u2, s', rfl⟩
      · simp (disch := omega) only [f_X6_tryAll_15, c2, now1, f1, Option.bind_some, qi, ql, qI_lt, qI_le, qI_eq, qI_L, qI_ix, qL_lt, qL_eq, q_nat, q_cs, ← Int32.ofInt_add, ← Int32.ofInt_sub, ← Int32.ofInt_mul, ← Int32.ofInt_neg, ← Int64.ofInt_add, ← Int64.ofInt_sub, ← Int64.ofInt_mul, ← Int64.ofInt_neg, pL_I, q_mx, q_mn, q_ab, q_abL, q_mnL, q_nn0, q_nn1, q_rr, q_b1, q_b0, q_T, q_F, q_iT, q_iF, q_d, q_in, q_wi, q_hC, q_hM, pT_i, pU_i, pS_i, pS_j, pS_0, Sum.elim_inl, Sum.elim_inr, if_pos, if_neg]
      · simp (disch := omega) only [f_X12_trade_67, d2, f2, Option.bind_some, qi, ql, qI_lt, qI_le, qI_eq, qI_L, qI_ix, qL_lt, qL_eq, q_nat, q_cs, ← Int32.ofInt_add, ← Int32.ofInt_sub, ← Int32.ofInt_mul, ← Int32.ofInt_neg, ← Int64.ofInt_add, ← Int64.ofInt_sub, ← Int64.ofInt_mul, ← Int64.ofInt_neg, pL_I, q_mx, q_mn, q_ab, q_abL, q_mnL, q_nn0, q_nn1, q_rr, q_b1, q_b0, q_T, q_F, q_iT, q_iF, q_d, q_in, q_wi, q_hC, q_hM, pT_i, pU_i, pS_i, pS_j, pS_0, Sum.elim_inl, Sum.elim_inr, if_pos, if_neg]
    · left
      refine ⟨ρ1, (Int64.ofInt L, ρ2), ?_, ?_, L, ρ2, rfl, q1, q2, s⟩
      · simp (disch := omega) only [f_X6_tryAll_15, c2, Option.bind_some, qi, ql, qI_lt, qI_le, qI_eq, qI_L, qI_ix, qL_lt, qL_eq, q_nat, q_cs, ← Int32.ofInt_add, ← Int32.ofInt_sub, ← Int32.ofInt_mul, ← Int32.ofInt_neg, ← Int64.ofInt_add, ← Int64.ofInt_sub, ← Int64.ofInt_mul, ← Int64.ofInt_neg, pL_I, q_mx, q_mn, q_ab, q_abL, q_mnL, q_nn0, q_nn1, q_rr, q_b1, q_b0, q_T, q_F, q_iT, q_iF, q_d, q_in, q_wi, q_hC, q_hM, pT_i, pU_i, pS_i, pS_j, pS_0, Sum.elim_inl, Sum.elim_inr, if_pos, if_neg]
      · simp (disch := omega) only [f_X12_trade_67, d2, Option.bind_some, qi, ql, qI_lt, qI_le, qI_eq, qI_L, qI_ix, qL_lt, qL_eq, q_nat, q_cs, ← Int32.ofInt_add, ← Int32.ofInt_sub, ← Int32.ofInt_mul, ← Int32.ofInt_neg, ← Int64.ofInt_add, ← Int64.ofInt_sub, ← Int64.ofInt_mul, ← Int64.ofInt_neg, pL_I, q_mx, q_mn, q_ab, q_abL, q_mnL, q_nn0, q_nn1, q_rr, q_b1, q_b0, q_T, q_F, q_iT, q_iF, q_d, q_in, q_wi, q_hC, q_hM, pT_i, pU_i, pS_i, pS_j, pS_0, Sum.elim_inl, Sum.elim_inr, if_pos, if_neg]) _ (Int32.ofInt 0, π1) (Int64.ofInt L, Int32.ofInt 0, π2) ⟨0, L, π1, π2, rfl, rfl, by omega, qf.rf, qf.rf, S, rfl⟩
  refine ⟨r1, ρ2, L', ?_, e2, q1, q2, s⟩
  simp (disch := omega) only [f_X6_tryAll, now0, eA, e1, Option.bind_some, qi, ql, qI_lt, qI_le, qI_eq, qI_L, qI_ix, qL_lt, qL_eq, q_nat, q_cs, ← Int32.ofInt_add, ← Int32.ofInt_sub, ← Int32.ofInt_mul, ← Int32.ofInt_neg, ← Int64.ofInt_add, ← Int64.ofInt_sub, ← Int64.ofInt_mul, ← Int64.ofInt_neg, pL_I, q_mx, q_mn, q_ab, q_abL, q_mnL, q_nn0, q_nn1, q_rr, q_b1, q_b0, q_T, q_F, q_iT, q_iF, q_d, q_in, q_wi, q_hC, q_hM, pT_i, pU_i, pS_i, pS_j, pS_0, Sum.elim_inl, Sum.elim_inr, if_pos, if_neg]
theorem px_k {π1 π2 : am_H} {a0 a1 wc0 wc1 i : Nat} {ws0 ws1 : Nat → Nat → Int} {zr0 zr1 h L : Int} (E : px_E π1 π2 a0 a1 wc0 wc1 ws0 ws1 zr0 zr1 h) (hi : i < wc0) (S : px_S π1 π2 L) : ∃ (ρ1 ρ2 : am_H) (L' : Int), am_loop (fun s : Int32 × am_H => f_X6_findTrade_48 a0 a1 (Int32.ofInt i) s.1 s.2) (Int32.ofInt 0, π1) = some ρ1 ∧ am_loop (fun s : Int64 × Int32 × am_H => f_X12_trade_52 (Int32.ofInt h) s.1 (Int32.ofInt i) s.2.1 s.2.2) (Int64.ofInt L, Int32.ofInt 0, π2) = some (Int64.ofInt L', ρ2) ∧ qf px_lC π1 ρ1 ∧ qf px_lM π2 ρ2 ∧ px_S ρ1 ρ2 L' := by
  have ok0 := (E.2.1.2.2.2.2 i hi).1
  have k0 : 0 ≤ ws0 i 4 ∧ ws0 i 4 ≤ 2 := ok0.2.2.2.2.1
  have w60 := E.2.1.1
  obtain ⟨r1, r2, e1, e2, L', ρ2, rfl, q1, q2, s⟩ := am_loop_2 (B1 := fun s : Int32 × am_H => f_X6_findTrade_48 a0 a1 (Int32.ofInt i) s.1 s.2) (B2 := fun s : Int64 × Int32 × am_H => f_X12_trade_52 (Int32.ofInt h) s.1 (Int32.ofInt i) s.2.1 s.2.2) (fun N s1 s2 => ∃ (k : Nat) (L : Int) (ρ1 ρ2 : am_H), s1 = (Int32.ofInt k, ρ1) ∧ s2 = (Int64.ofInt L, Int32.ofInt k, ρ2) ∧ (k : Int) ≤ 2 * ws0 i 4 ∧ qf px_lC π1 ρ1 ∧ qf px_lM π2 ρ2 ∧ px_S ρ1 ρ2 L ∧ N = (2 * ws0 i 4 - k).toNat) (fun r1 r2 => ∃ (L : Int) (ρ2 : am_H), r2 = (Int64.ofInt L, ρ2) ∧ qf px_lC π1 r1 ∧ qf px_lM π2 ρ2 ∧ px_S r1 ρ2 L) (by
    rintro N s1 s2 ⟨k, L, ρ1, ρ2, rfl, rfl, hk, q1, q2, s, rfl⟩
    have E' := px_Eq E q1 q2
    have w4 : ρ1.1 10 (6 * a0 + i) 5 = Int32.ofInt (ws0 i 4) := (E'.2.1.2.2.2.2 i hi).2.2.2.2.2.1
    obtain ⟨o0, o1, o2, o3, o4, -⟩ := pm_o (E'.2.2.2.1.2.2.2.2 i hi).2 (by omega) (by omega)
    have o4' : f_X12_of (Int32.ofInt 0) (Int32.ofInt i) (Int32.ofInt 4) ρ2 = some (Int32.ofInt (ws0 i 4)) := o4
    by_cases ce : (k : Int) < 2 * ws0 i 4
    · right
      obtain ⟨ρ1', ρ2', L', f1, f2, u1, u2, s'⟩ := px_j E' hi ce s
      refine ⟨(Int32.ofInt ((k : Int) + 1), ρ1'), (Int64.ofInt L', Int32.ofInt ((k : Int) + 1), ρ2'), (2 * ws0 i 4 - ((k + 1 : Nat) : Int)).toNat, ?_, ?_, by omega, k + 1, L', ρ1', ρ2', rfl, rfl, by omega, q1.tr u1, q2.tr u2, s', rfl⟩
      · simp (disch := omega) only [f_X6_findTrade_48, f_X10_wheels, w4, f1, Option.bind_some, qi, ql, qI_lt, qI_le, qI_eq, qI_L, qI_ix, qL_lt, qL_eq, q_nat, q_cs, ← Int32.ofInt_add, ← Int32.ofInt_sub, ← Int32.ofInt_mul, ← Int32.ofInt_neg, ← Int64.ofInt_add, ← Int64.ofInt_sub, ← Int64.ofInt_mul, ← Int64.ofInt_neg, pL_I, q_mx, q_mn, q_ab, q_abL, q_mnL, q_nn0, q_nn1, q_rr, q_b1, q_b0, q_T, q_F, q_iT, q_iF, q_d, q_in, q_wi, q_hC, q_hM, pT_i, pU_i, pS_i, pS_j, pS_0, Sum.elim_inl, Sum.elim_inr, if_pos, if_neg]
      · simp (disch := omega) only [f_X12_trade_52, f_X12_wheels, o4', f2, Option.bind_some, qi, ql, qI_lt, qI_le, qI_eq, qI_L, qI_ix, qL_lt, qL_eq, q_nat, q_cs, ← Int32.ofInt_add, ← Int32.ofInt_sub, ← Int32.ofInt_mul, ← Int32.ofInt_neg, ← Int64.ofInt_add, ← Int64.ofInt_sub, ← Int64.ofInt_mul, ← Int64.ofInt_neg, pL_I, q_mx, q_mn, q_ab, q_abL, q_mnL, q_nn0, q_nn1, q_rr, q_b1, q_b0, q_T, q_F, q_iT, q_iF, q_d, q_in, q_wi, q_hC, q_hM, pT_i, pU_i, pS_i, pS_j, pS_0, Sum.elim_inl, Sum.elim_inr, if_pos, if_neg]
    · left
      refine ⟨ρ1, (Int64.ofInt L, ρ2), ?_, ?_, L, ρ2, rfl, q1, q2, s⟩
      · simp (disch := omega) only [f_X6_findTrade_48, f_X10_wheels, w4, Option.bind_some, qi, ql, qI_lt, qI_le, qI_eq, qI_L, qI_ix, qL_lt, qL_eq, q_nat, q_cs, ← Int32.ofInt_add, ← Int32.ofInt_sub, ← Int32.ofInt_mul, ← Int32.ofInt_neg, ← Int64.ofInt_add, ← Int64.ofInt_sub, ← Int64.ofInt_mul, ← Int64.ofInt_neg, pL_I, q_mx, q_mn, q_ab, q_abL, q_mnL, q_nn0, q_nn1, q_rr, q_b1, q_b0, q_T, q_F, q_iT, q_iF, q_d, q_in, q_wi, q_hC, q_hM, pT_i, pU_i, pS_i, pS_j, pS_0, Sum.elim_inl, Sum.elim_inr, if_pos, if_neg]
      · simp (disch := omega) only [f_X12_trade_52, f_X12_wheels, o4', Option.bind_some, qi, ql, qI_lt, qI_le, qI_eq, qI_L, qI_ix, qL_lt, qL_eq, q_nat, q_cs, ← Int32.ofInt_add, ← Int32.ofInt_sub, ← Int32.ofInt_mul, ← Int32.ofInt_neg, ← Int64.ofInt_add, ← Int64.ofInt_sub, ← Int64.ofInt_mul, ← Int64.ofInt_neg, pL_I, q_mx, q_mn, q_ab, q_abL, q_mnL, q_nn0, q_nn1, q_rr, q_b1, q_b0, q_T, q_F, q_iT, q_iF, q_d, q_in, q_wi, q_hC, q_hM, pT_i, pU_i, pS_i, pS_j, pS_0, Sum.elim_inl, Sum.elim_inr, if_pos, if_neg]) _ (Int32.ofInt 0, π1) (Int64.ofInt L, Int32.ofInt 0, π2) ⟨0, L, π1, π2, rfl, rfl, by omega, qf.rf, qf.rf, S, rfl⟩
  exact ⟨r1, ρ2, L', e1, e2, q1, q2, s⟩
theorem px_i {π1 π2 : am_H} {a0 a1 wc0 wc1 : Nat} {ws0 ws1 : Nat → Nat → Int} {zr0 zr1 h L : Int} (E : px_E π1 π2 a0 a1 wc0 wc1 ws0 ws1 zr0 zr1 h) (S : px_S π1 π2 L) : ∃ (ρ1 ρ2 : am_H) (L' : Int), am_loop (fun s : Int32 × am_H => f_X6_findTrade_36 a0 a1 s.1 s.2) (Int32.ofInt 0, π1) = some ρ1 ∧ am_loop (fun s : Int64 × Int32 × am_H => f_X12_trade_38 (Int32.ofInt h) s.1 s.2.1 s.2.2) (Int64.ofInt L, Int32.ofInt 0, π2) = some (Int64.ofInt L', ρ2) ∧ qf px_lC π1 ρ1 ∧ qf px_lM π2 ρ2 ∧ px_S ρ1 ρ2 L' := by
  have w60 := E.2.1.1
  obtain ⟨r1, r2, e1, e2, L', ρ2, rfl, q1, q2, s⟩ := am_loop_2 (B1 := fun s : Int32 × am_H => f_X6_findTrade_36 a0 a1 s.1 s.2) (B2 := fun s : Int64 × Int32 × am_H => f_X12_trade_38 (Int32.ofInt h) s.1 s.2.1 s.2.2) (fun N s1 s2 => ∃ (i : Nat) (L : Int) (ρ1 ρ2 : am_H), s1 = (Int32.ofInt i, ρ1) ∧ s2 = (Int64.ofInt L, Int32.ofInt i, ρ2) ∧ i ≤ wc0 ∧ qf px_lC π1 ρ1 ∧ qf px_lM π2 ρ2 ∧ px_S ρ1 ρ2 L ∧ N = wc0 - i) (fun r1 r2 => ∃ (L : Int) (ρ2 : am_H), r2 = (Int64.ofInt L, ρ2) ∧ qf px_lC π1 r1 ∧ qf px_lM π2 ρ2 ∧ px_S r1 ρ2 L) (by
    rintro N s1 s2 ⟨i, L, ρ1, ρ2, rfl, rfl, hi, q1, q2, s, rfl⟩
    have E' := px_Eq E q1 q2
    have c2 : ρ1.1 3 a0 1 = Int32.ofInt wc0 := E'.2.1.2.1
    have d2 : ρ2.1 1320 0 (0 : Int).toNat = Int32.ofInt wc0 := E'.2.2.2.1.2.1
    by_cases ce : i < wc0
    · right
      obtain ⟨ρ1', ρ2', L', f1, f2, u1, u2, s'⟩ := px_k E' ce s
      refine ⟨(Int32.ofInt ((i : Int) + 1), ρ1'), (Int64.ofInt L', Int32.ofInt ((i : Int) + 1), ρ2'), wc0 - (i + 1), ?_, ?_, by omega, i + 1, L', ρ1', ρ2', rfl, rfl, by omega, q1.tr u1, q2.tr u2, s', rfl⟩
      · simp (disch := omega) only [f_X6_findTrade_36, c2, f1, Option.bind_some, qi, ql, qI_lt, qI_le, qI_eq, qI_L, qI_ix, qL_lt, qL_eq, q_nat, q_cs, ← Int32.ofInt_add, ← Int32.ofInt_sub, ← Int32.ofInt_mul, ← Int32.ofInt_neg, ← Int64.ofInt_add, ← Int64.ofInt_sub, ← Int64.ofInt_mul, ← Int64.ofInt_neg, pL_I, q_mx, q_mn, q_ab, q_abL, q_mnL, q_nn0, q_nn1, q_rr, q_b1, q_b0, q_T, q_F, q_iT, q_iF, q_d, q_in, q_wi, q_hC, q_hM, pT_i, pU_i, pS_i, pS_j, pS_0, Sum.elim_inl, Sum.elim_inr, if_pos, if_neg]
      · simp (disch := omega) only [f_X12_trade_38, d2, f2, Option.bind_some, qi, ql, qI_lt, qI_le, qI_eq, qI_L, qI_ix, qL_lt, qL_eq, q_nat, q_cs, ← Int32.ofInt_add, ← Int32.ofInt_sub, ← Int32.ofInt_mul, ← Int32.ofInt_neg, ← Int64.ofInt_add, ← Int64.ofInt_sub, ← Int64.ofInt_mul, ← Int64.ofInt_neg, pL_I, q_mx, q_mn, q_ab, q_abL, q_mnL, q_nn0, q_nn1, q_rr, q_b1, q_b0, q_T, q_F, q_iT, q_iF, q_d, q_in, q_wi, q_hC, q_hM, pT_i, pU_i, pS_i, pS_j, pS_0, Sum.elim_inl, Sum.elim_inr, if_pos, if_neg]
    · left
      refine ⟨ρ1, (Int64.ofInt L, ρ2), ?_, ?_, L, ρ2, rfl, q1, q2, s⟩
      · simp (disch := omega) only [f_X6_findTrade_36, c2, Option.bind_some, qi, ql, qI_lt, qI_le, qI_eq, qI_L, qI_ix, qL_lt, qL_eq, q_nat, q_cs, ← Int32.ofInt_add, ← Int32.ofInt_sub, ← Int32.ofInt_mul, ← Int32.ofInt_neg, ← Int64.ofInt_add, ← Int64.ofInt_sub, ← Int64.ofInt_mul, ← Int64.ofInt_neg, pL_I, q_mx, q_mn, q_ab, q_abL, q_mnL, q_nn0, q_nn1, q_rr, q_b1, q_b0, q_T, q_F, q_iT, q_iF, q_d, q_in, q_wi, q_hC, q_hM, pT_i, pU_i, pS_i, pS_j, pS_0, Sum.elim_inl, Sum.elim_inr, if_pos, if_neg]
      · simp (disch := omega) only [f_X12_trade_38, d2, Option.bind_some, qi, ql, qI_lt, qI_le, qI_eq, qI_L, qI_ix, qL_lt, qL_eq, q_nat, q_cs, ← Int32.ofInt_add, ← Int32.ofInt_sub, ← Int32.ofInt_mul, ← Int32.ofInt_neg, ← Int64.ofInt_add, ← Int64.ofInt_sub, ← Int64.ofInt_mul, ← Int64.ofInt_neg, pL_I, q_mx, q_mn, q_ab, q_abL, q_mnL, q_nn0, q_nn1, q_rr, q_b1, q_b0, q_T, q_F, q_iT, q_iF, q_d, q_in, q_wi, q_hC, q_hM, pT_i, pU_i, pS_i, pS_j, pS_0, Sum.elim_inl, Sum.elim_inr, if_pos, if_neg]) _ (Int32.ofInt 0, π1) (Int64.ofInt L, Int32.ofInt 0, π2) ⟨0, L, π1, π2, rfl, rfl, by omega, qf.rf, qf.rf, S, rfl⟩
  exact ⟨r1, ρ2, L', e1, e2, q1, q2, s⟩
theorem po_42 : am_op_42 pr_Rel := by
  intro σ1 σ2 h v1
  obtain ⟨x, x1, x2, rfl⟩ := q_ex v1
  by_cases cx : 0 ≤ x ∧ x ≤ 99999
  · obtain ⟨a0, a1, a2, ⟨b0, b1, b2⟩, -, r0, r1, -, m0, m1⟩ := (show pr_machs σ1 (pS σ2 0) from h.2.S 0 4 (by omega))
    obtain ⟨wc0, ws0, zr0, -, -, -, -, C0, M0, -⟩ := m0
    obtain ⟨wc1, ws1, zr1, -, -, -, -, C1, M1, -⟩ := m1
    have rr0 : am_rr 3 (σ1.2.2 1205 0 (0 : Int).toNat) = some a0 := by
      rw [show (0 : Int).toNat = 0 from rfl, r0]
      exact q_rr b0
    have rr1 : am_rr 3 (σ1.2.2 1205 0 (1 : Int).toNat) = some a1 := by
      rw [show (1 : Int).toNat = 1 from rfl, r1]
      exact q_rr b1
    have Q1 : qf [(6, 0)] σ1 (am_wI σ1 6 0 0 (Int32.ofInt x)) := qf.rf.wI rfl
    have s0 := px_sumC (ph_Cq (Q1.a (by decide +kernel)) C0) cx.1 cx.2 rfl
    have s1 := px_sumC (ph_Cq (Q1.a (by decide +kernel)) C1) cx.1 cx.2 rfl
    have B0 := ps_b (f := fun i => px_T x (ws0 i)) (n := wc0) (B := 24000000000000) (fun q hq => (px_b (C0.2.2.2.2 q hq).1 cx.1 cx.2).2.2.2)
    have B1 := ps_b (f := fun i => px_T x (ws1 i)) (n := wc1) (B := 24000000000000) (fun q hq => (px_b (C1.2.2.2.2 q hq).1 cx.1 cx.2).2.2.2)
    have w60 := C0.1
    have w61 := C1.1
    have AO := px_all M0 M1 cx.1 cx.2
    generalize hA : ps_sum (fun i => px_T x (ws0 i)) wc0 + ps_sum (fun i => px_T x (ws1 i)) wc1 = A at AO
    have Q2 : qf [(6, 0), (6, 1), (6, 2), (6, 3)] σ1 (am_wI (am_wL (am_wL (am_wI σ1 6 0 0 (Int32.ofInt x)) 6 0 1 (Int64.ofInt A)) 6 0 2 (Int64.ofInt A)) 6 0 3 (Int32.ofInt 0)) := (((qf.rf.wI rfl).wL rfl).wL rfl).wI rfl
    have P2 : qf px_lM (pS σ2 0) (am_wI (pS σ2 0) 12 0 60 (Int32.ofInt (-1))) := qf.rf.wI rfl
    obtain ⟨ρ1, ρ2, L, f1, f2, q1, q2, s2, Lb, iw, w, s3, s60, sw⟩ := px_i (π1 := am_wI (am_wL (am_wL (am_wI σ1 6 0 0 (Int32.ofInt x)) 6 0 1 (Int64.ofInt A)) 6 0 2 (Int64.ofInt A)) 6 0 3 (Int32.ofInt 0)) (π2 := am_wI (pS σ2 0) 12 0 60 (Int32.ofInt (-1))) (L := A) (h := x) ⟨⟨b0, b1⟩, ph_Cq (Q2.a (by decide +kernel)) C0, ph_Cq (Q2.a (by decide +kernel)) C1, ph_Mq (P2.a (by decide +kernel)) M0, ph_Mq (P2.a (by decide +kernel)) M1, rfl, by rw [hA]; rfl, cx⟩ ⟨rfl, by omega, 0, -1, rfl, rfl, Or.inl ⟨rfl, rfl⟩⟩
    have eA : Int64.ofInt (ps_sum (fun i => px_T x (ws0 i)) wc0) + Int64.ofInt (ps_sum (fun i => px_T x (ws1 i)) wc1) = Int64.ofInt A := by rw [← Int64.ofInt_add, hA]
    have rL : ∀ τ : am_H, (am_wL τ 6 0 1 (Int64.ofInt A)).2.1 6 0 1 = Int64.ofInt A := fun τ => rfl
    have s2' : (pT ρ1 0).2.1 6 0 2 = Int64.ofInt L := s2
    refine ⟨Int64.ofInt L, pT ρ1 0, am_wI ρ2 12 0 67 (Int32.ofInt 1), ?_, ?_, ?_, ?_⟩
    · simp (disch := omega) only [f_X11_trade, f_X6_findTrade, rr0, rr1, s0, s1, hA, rL, f1, s2', Option.bind_some, qi, ql, qI_lt, qI_le, qI_eq, qI_L, qI_ix, qL_lt, qL_eq, q_nat, q_cs, ← Int32.ofInt_add, ← Int32.ofInt_sub, ← Int32.ofInt_mul, ← Int32.ofInt_neg, ← Int64.ofInt_add, ← Int64.ofInt_sub, ← Int64.ofInt_mul, ← Int64.ofInt_neg, pL_I, q_mx, q_mn, q_ab, q_abL, q_mnL, q_nn0, q_nn1, q_rr, q_b1, q_b0, q_T, q_F, q_iT, q_iF, q_d, q_in, q_wi, q_hC, q_hM, pT_i, pU_i, pS_i, pS_j, pS_0, Sum.elim_inl, Sum.elim_inr, if_pos, if_neg]
    · simp (disch := omega) only [f_X12_trade, AO, f2, Option.bind_some, qi, ql, qI_lt, qI_le, qI_eq, qI_L, qI_ix, qL_lt, qL_eq, q_nat, q_cs, ← Int32.ofInt_add, ← Int32.ofInt_sub, ← Int32.ofInt_mul, ← Int32.ofInt_neg, ← Int64.ofInt_add, ← Int64.ofInt_sub, ← Int64.ofInt_mul, ← Int64.ofInt_neg, pL_I, q_mx, q_mn, q_ab, q_abL, q_mnL, q_nn0, q_nn1, q_rr, q_b1, q_b0, q_T, q_F, q_iT, q_iF, q_d, q_in, q_wi, q_hC, q_hM, pT_i, pU_i, pS_i, pS_j, pS_0, Sum.elim_inl, Sum.elim_inr, if_pos, if_neg]
    · show Int32.ofInt 0 = (am_wI ρ2 12 0 67 (Int32.ofInt 1)).1 12 0 0
      exact ((q2 12 0 0 rfl).1).symm
    · refine (h.2.S 0).st [(11, 0), (6, 0), (6, 1), (6, 2), (6, 3), (704, 999)] [(12, 60), (12, 61), (12, 62), (12, 63), (12, 67)] [13] (by decide +kernel) (((Q2.mo (by decide)).tr (q1.mo (by decide))).wI rfl) (((P2.mo (by decide)).tr (q2.mo (by decide))).wI rfl) ?_
      intro N hN
      rw [List.mem_singleton] at hN
      subst hN
      rcases sw with ⟨e1, e2⟩ | ⟨e1, wb, t0, t1, t2, t3⟩
      · exact ⟨iw, 1, w, by omega, by omega, by omega, s3, rfl, s60, fun z => by omega, fun z => e2, fun z => by omega⟩
      · exact ⟨iw, 1, w, by omega, by omega, by omega, s3, rfl, s60, fun z => ⟨rfl, wb.1⟩, fun z => by omega, fun z => ⟨t0, t1, t2, t3⟩⟩
  · refine pr_ro h (Int64.ofInt (-1)) 5 ?_ ?_
    · simp (disch := omega) only [f_X11_trade, f_X11_none, Option.bind_some, qi, ql, qI_lt, qI_le, qI_eq, qI_L, qI_ix, qL_lt, qL_eq, q_nat, q_cs, ← Int32.ofInt_add, ← Int32.ofInt_sub, ← Int32.ofInt_mul, ← Int32.ofInt_neg, ← Int64.ofInt_add, ← Int64.ofInt_sub, ← Int64.ofInt_mul, ← Int64.ofInt_neg, pL_I, q_mx, q_mn, q_ab, q_abL, q_mnL, q_nn0, q_nn1, q_rr, q_b1, q_b0, q_T, q_F, q_iT, q_iF, q_d, q_in, q_wi, q_hC, q_hM, pT_i, pU_i, pS_i, pS_j, pS_0, Sum.elim_inl, Sum.elim_inr, if_pos, if_neg]
    · simp (disch := omega) only [f_X12_trade, f_X12_refuse, Option.bind_some, qi, ql, qI_lt, qI_le, qI_eq, qI_L, qI_ix, qL_lt, qL_eq, q_nat, q_cs, ← Int32.ofInt_add, ← Int32.ofInt_sub, ← Int32.ofInt_mul, ← Int32.ofInt_neg, ← Int64.ofInt_add, ← Int64.ofInt_sub, ← Int64.ofInt_mul, ← Int64.ofInt_neg, pL_I, q_mx, q_mn, q_ab, q_abL, q_mnL, q_nn0, q_nn1, q_rr, q_b1, q_b0, q_T, q_F, q_iT, q_iF, q_d, q_in, q_wi, q_hC, q_hM, pT_i, pU_i, pS_i, pS_j, pS_0, Sum.elim_inl, Sum.elim_inr, if_pos, if_neg]
