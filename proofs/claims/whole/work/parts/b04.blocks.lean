/-! ===== OBEYED: STEPS one after another, and blocks ===== -/
def ob_Z (R : Nat) (n c B : Int) (r q t : Nat) (ρ1 ρ2 ρ1' ρ2' : am_H) : Prop := qf ob_lC ρ1 ρ1' ∧ qf ob_lM ρ2 ρ2' ∧ ∃ h' n' o' : Int, ob_R ρ1' ρ2' h' n' o' ∧ ((ρ2'.1 12 0 58 = Int32.ofInt 0 ∧ ρ1'.1 9 0 2 = Int32.ofInt (t : Int) ∧ (∀ x, (x < r ∨ q ≤ x) → ρ1'.1 1004 0 x = ρ1.1 1004 0 x) ∧ ∃ c' : Int, (0 ≤ c' ∧ c' ≤ B) ∧ ob_run n c ρ1 = ob_run n' c' ρ1') ∨ (ρ2'.1 12 0 58 = Int32.ofInt 1 ∧ ob_run n c ρ1 = some ρ1' ∧ ∃ r' : Nat, r' < R ∧ ρ1'.1 9 0 2 = Int32.ofInt (r' : Int)))
def ob_Seg (Y : am_H → am_H → Prop) (R m f d s e r q : Nat) : Prop := ∀ (ρ1 ρ2 : am_H) (h n o c : Int), Y ρ1 ρ2 → ob_R ρ1 ρ2 h n o → ρ2.1 12 0 58 = Int32.ofInt 0 → ρ1.1 9 0 2 = Int32.ofInt (r : Int) → (0 ≤ c ∧ c ≤ 100) → ∃ ρ1' ρ2' : am_H, am_loop (fun x : Int32 × am_H => f_X12_obeyAll_3 (f_X12_obeyAll f) (Int32.ofInt (m : Int)) (Int32.ofInt (e : Int)) x.1 x.2) (Int32.ofInt (s : Int), ρ2) = some ρ2' ∧ ob_Z R n c (max c (9 * (d : Int))) r q q ρ1 ρ2 ρ1' ρ2'
theorem ob_Zt {R r q r' q' t : Nat} {n c n' c' B B' : Int} {ρ1 ρ2 σ1 σ2 ρ1' ρ2' : am_H} (q1 : qf ob_lC ρ1 σ1) (q2 : qf ob_lM ρ2 σ2) (run : ob_run n c ρ1 = ob_run n' c' σ1) (fr : ∀ x, (x < r ∨ q ≤ x) → σ1.1 1004 0 x = ρ1.1 1004 0 x) (Z : ob_Z R n' c' B' r' q' t σ1 σ2 ρ1' ρ2') (hB : B' ≤ B) (hr : r ≤ r') (hq : q' ≤ q) : ob_Z R n c B r q t ρ1 ρ2 ρ1' ρ2' := by
  obtain ⟨z1, z2, h', n'', o', X, alt⟩ := Z
  refine ⟨q1.tr z1, q2.tr z2, h', n'', o', X, ?_⟩
  rcases alt with ⟨a1, a2, a3, c'', a4, a5⟩ | ⟨a1, a2, a3⟩
  · exact Or.inl ⟨a1, a2, fun x hx => (a3 x (by omega)).trans (fr x hx), c'', by omega, run.trans a5⟩
  · exact Or.inr ⟨a1, run.trans a2, a3⟩
theorem ob_Rw {ρ1 ρ2 : am_H} {h n o : Int} (X : ob_R ρ1 ρ2 h n o) {r : Nat} {v w : Int32} : ob_R (am_wI (am_wI ρ1 1004 0 r v) 9 0 2 w) ρ2 h n o := by
  obtain ⟨⟨x6, x57, h0, h1⟩, ⟨x7, x56, n0, n1⟩, x8, ⟨mk, x9, x59, mb, xm⟩, ⟨x3, x65, o0, o1⟩⟩ := X
  exact ⟨⟨x6, x57, h0, h1⟩, ⟨x7, x56, n0, n1⟩, x8, ⟨mk, x9, x59, mb, xm⟩, ⟨x3, x65, o0, o1⟩⟩
theorem ob_Rl {ρ1 ρ2 : am_H} {h n o : Int} (X : ob_R ρ1 ρ2 h n o) {v : Int32} : ob_R ρ1 (am_wI ρ2 12 0 58 v) h n o := by
  obtain ⟨⟨x6, x57, h0, h1⟩, ⟨x7, x56, n0, n1⟩, x8, ⟨mk, x9, x59, mb, xm⟩, ⟨x3, x65, o0, o1⟩⟩ := X
  exact ⟨⟨x6, x57, h0, h1⟩, ⟨x7, x56, n0, n1⟩, x8, ⟨mk, x9, x59, mb, xm⟩, ⟨x3, x65, o0, o1⟩⟩
/-- a block's STEP: row and rounds are set, a STEP more is done -/
theorem ob_Rb {ρ1 ρ2 : am_H} {h n : Int} (X : ob_R ρ1 ρ2 h n 0) (hn : n < 200) {r : Nat} {v w : Int32} : ob_R (am_wI (am_wI (am_wI ρ1 9 0 7 (Int32.ofInt (n + 1))) 1004 0 r v) 9 0 2 w) (am_wI ρ2 12 0 56 (Int32.ofInt (n + 1))) h (n + 1) 0 := by
  obtain ⟨⟨x6, x57, h0, h1⟩, ⟨x7, x56, n0, n1⟩, x8, ⟨mk, x9, x59, mb, xm⟩, ⟨x3, x65, o0, o1⟩⟩ := X
  exact ⟨⟨x6, x57, h0, h1⟩, ⟨rfl, rfl, by omega, by omega⟩, x8, ⟨mk, x9, x59, mb, xm⟩, ⟨x3, x65, o0, o1⟩⟩
theorem ob_seg0 {Y : am_H → am_H → Prop} {R m f d s e r q : Nat} (h1 : s = e) (h2 : r = q) (he : e ≤ 40) : ob_Seg Y R m f d s e r q := by
  intro ρ1 ρ2 h n o c hY X e58 e2 cb
  refine ⟨ρ1, ρ2, ?_, qf.rf, qf.rf, h, n, o, X, Or.inl ⟨e58, by rw [e2, h2], fun x _ => rfl, c, by omega, rfl⟩⟩
  apply am_loop_out
  simp (disch := omega) only [f_X12_obeyAll_3, Option.bind_some, qi, ql, qI_lt, qI_le, qI_eq, qI_L, qI_ix, qL_lt, qL_eq, q_nat, q_cs, ← Int32.ofInt_add, ← Int32.ofInt_sub, ← Int32.ofInt_mul, ← Int32.ofInt_neg, ← Int64.ofInt_add, ← Int64.ofInt_sub, ← Int64.ofInt_mul, ← Int64.ofInt_neg, pL_I, q_mx, q_mn, q_ab, q_abL, q_mnL, q_nn0, q_nn1, q_rr, q_b1, q_b0, q_T, q_F, q_iT, q_iF, q_d, q_in, q_wi, q_hC, q_hM, pT_i, pU_i, pS_i, pS_j, pS_0, Sum.elim_inl, Sum.elim_inr, if_pos, if_neg]
/-- once through a block -/
theorem ob_turn {m a p wc R f d s e1 r q1 : Nat} {ws : Nat → Nat → Int} {zr : Int} {G : Nat → Nat → Int32} (H : ob_Seg (ob_Y m a p wc R ws zr G) R m f d (s + 1) e1 (r + 1) q1) (hd : d ≤ 2) (hq : q1 < R) (hr : r < q1) (d6 : G 0 q1 = Int32.ofInt 6) (v6 : G 3 q1 = Int32.ofInt (r : Int)) {ρ1 ρ2 : am_H} {h n o c k : Int} (Y : ob_Y m a p wc R ws zr G ρ1 ρ2) (X : ob_R ρ1 ρ2 h n o) (e58 : ρ2.1 12 0 58 = Int32.ofInt 0) (e2 : ρ1.1 9 0 2 = Int32.ofInt ((r : Int) + 1)) (cb : 0 ≤ c ∧ c ≤ 60) (ek : ρ1.1 1004 0 r = Int32.ofInt k) (kb : 1 ≤ k ∧ k ≤ 9) : ∃ ρ1' ρ2' : am_H, f_X12_obeyAll (f + 1) (Int32.ofInt (m : Int)) (Int32.ofInt ((s : Int) + 1)) (Int32.ofInt (e1 : Int)) ρ2 = some ρ2' ∧ qf ob_lC ρ1 ρ1' ∧ qf ob_lM ρ2 ρ2' ∧ ∃ h' n' o' : Int, ob_R ρ1' ρ2' h' n' o' ∧ ((ρ2'.1 12 0 58 = Int32.ofInt 0 ∧ ρ1'.1 9 0 2 = Int32.ofInt (if 0 < k - 1 then (r : Int) + 1 else (q1 : Int) + 1) ∧ ρ1'.1 1004 0 r = Int32.ofInt (k - 1) ∧ (∀ x, (x < r ∨ q1 < x) → ρ1'.1 1004 0 x = ρ1.1 1004 0 x) ∧ ∃ c' : Int, (0 ≤ c' ∧ c' ≤ max c (9 * (d : Int)) + 1) ∧ ob_run n c ρ1 = ob_run n' c' ρ1') ∨ (ρ2'.1 12 0 58 = Int32.ofInt 1 ∧ ob_run n c ρ1 = some ρ1' ∧ ∃ r' : Nat, r' < R ∧ ρ1'.1 9 0 2 = Int32.ofInt (r' : Int))) := by
  obtain ⟨σ1, σ2, lp, qa1, qa2, h', n', o', X', alt⟩ := H ρ1 ρ2 h n o c Y X e58 e2 (by omega)
  have rc : f_X12_obeyAll (f + 1) (Int32.ofInt (m : Int)) (Int32.ofInt ((s : Int) + 1)) (Int32.ofInt (e1 : Int)) ρ2 = some σ2 := by
    show f_X12_obeyAll_0 (f_X12_obeyAll f) (Int32.ofInt (m : Int)) (Int32.ofInt ((s : Int) + 1)) (Int32.ofInt (e1 : Int)) ρ2 = some σ2
    unfold f_X12_obeyAll_0
    have lp' : am_loop (fun s => f_X12_obeyAll_3 (f_X12_obeyAll f) (Int32.ofInt (m : Int)) (Int32.ofInt (e1 : Int)) s.1 s.2) (Int32.ofInt ((s : Int) + 1), ρ2) = some σ2 := lp
    rw [lp', Option.bind_some]
  rcases alt with ⟨z58, z2, zf, c', cb', run⟩ | ⟨z58, run, r', hr', er'⟩
  · have Y' := ob_Yq Y qa1 qa2
    obtain ⟨⟨⟨hm, ha, hp, hR⟩, C, M, r0, r1, e4⟩, ⟨g0, g1, g2, g3⟩, -⟩ := Y'
    have ek' : σ1.1 1004 0 r = Int32.ofInt k := by rw [zf r (Or.inl (by omega))]; exact ek
    have E := ob_end (n := n') (c := c') (k := k) r0 hp hR e4 z2 hq (by omega : r < R) (by rw [g0]; exact d6) (by rw [g3]; exact v6) ek' kb (by omega) (by omega)
    refine ⟨am_wI (am_wI σ1 1004 0 r (Int32.ofInt (k - 1))) 9 0 2 (Int32.ofInt (if 0 < k - 1 then (r : Int) + 1 else (q1 : Int) + 1)), σ2, rc, (qa1.wI rfl).wI rfl, qa2, h', n', o', ob_Rw X', Or.inl ⟨z58, rfl, ?_, fun x hx => ?_, c' + 1, by omega, run.trans E⟩⟩
    · show (am_wI σ1 1004 0 r (Int32.ofInt (k - 1))).1 1004 0 r = _
      rw [am_wI_r, if_pos ⟨rfl, rfl, rfl⟩]
    · show (am_wI σ1 1004 0 r (Int32.ofInt (k - 1))).1 1004 0 x = _
      rw [am_wI_r, if_neg (by omega)]
      exact zf x (by omega)
  · exact ⟨σ1, σ2, rc, qa1, qa2, h', n', o', X', Or.inr ⟨z58, run, r', hr', er'⟩⟩
/-- so often as a repeat says -/
theorem ob_rep {m a p wc R f d s e1 r q1 : Nat} {ws : Nat → Nat → Int} {zr g : Int} {G : Nat → Nat → Int32} (H : ob_Seg (ob_Y m a p wc R ws zr G) R m f d (s + 1) e1 (r + 1) q1) (hd : d ≤ 2) (hq : q1 < R) (hr : r < q1) (d6 : G 0 q1 = Int32.ofInt 6) (v6 : G 3 q1 = Int32.ofInt (r : Int)) (hs : s < 40) (gb : 1 ≤ g ∧ g ≤ 9) (hA : G 5 s = Int32.ofInt g) (hE : G 7 s = Int32.ofInt (e1 : Int)) : ∀ (j : Nat) (v : Int) (ρ1 ρ2 : am_H) (h n o c : Int), v < g → g - v ≤ j → 0 ≤ v → ob_Y m a p wc R ws zr G ρ1 ρ2 → ob_R ρ1 ρ2 h n o → ρ2.1 12 0 58 = Int32.ofInt 0 → ρ1.1 9 0 2 = Int32.ofInt ((r : Int) + 1) → (0 ≤ c ∧ c ≤ 9 * (d : Int) + v) → ρ1.1 1004 0 r = Int32.ofInt (g - v) → ∃ ρ1' ρ2' : am_H, am_loop (fun x : Int32 × am_H => f_X12_obeyOne_201 (f_X12_obeyAll (f + 1)) (Int32.ofInt (m : Int)) (Int32.ofInt (s : Int)) x.1 x.2) (Int32.ofInt v, ρ2) = some ρ2' ∧ ob_Z R n c (9 * (d : Int) + 9) r (q1 + 1) (q1 + 1) ρ1 ρ2 ρ1' ρ2' := by
  intro j
  induction j with
  | zero =>
    intro v ρ1 ρ2 h n o c h1 h2
    omega
  | succ j ih =>
    intro v ρ1 ρ2 h n o c h1 h2 v0 Y X e58 e2 cb ek
    obtain ⟨σ1, σ2, rc, q1', q2', h', n', o', X', alt⟩ := ob_turn (c := c) (k := g - v) H hd hq hr d6 v6 Y X e58 e2 (by omega) ek (by omega)
    have cA : ρ2.1 1369 0 s = Int32.ofInt g := by rw [Y.2.2.2.1]; exact hA
    have cE : ρ2.1 1371 0 s = Int32.ofInt (e1 : Int) := by rw [Y.2.2.2.2.2]; exact hE
    have b : f_X12_obeyOne_201 (f_X12_obeyAll (f + 1)) (Int32.ofInt (m : Int)) (Int32.ofInt (s : Int)) (Int32.ofInt v) ρ2 = some (.inl (Int32.ofInt (v + 1), σ2)) := by
      simp (disch := omega) only [f_X12_obeyOne_201, cA, cE, e58, rc, Option.bind_some, qi, ql, qI_lt, qI_le, qI_eq, qI_L, qI_ix, qL_lt, qL_eq, q_nat, q_cs, ← Int32.ofInt_add, ← Int32.ofInt_sub, ← Int32.ofInt_mul, ← Int32.ofInt_neg, ← Int64.ofInt_add, ← Int64.ofInt_sub, ← Int64.ofInt_mul, ← Int64.ofInt_neg, pL_I, q_mx, q_mn, q_ab, q_abL, q_mnL, q_nn0, q_nn1, q_rr, q_b1, q_b0, q_T, q_F, q_iT, q_iF, q_d, q_in, q_wi, q_hC, q_hM, pT_i, pU_i, pS_i, pS_j, pS_0, Sum.elim_inl, Sum.elim_inr, if_pos, if_neg]
    have lp := am_loop_in (body := fun x : Int32 × am_H => f_X12_obeyOne_201 (f_X12_obeyAll (f + 1)) (Int32.ofInt (m : Int)) (Int32.ofInt (s : Int)) x.1 x.2) (s := (Int32.ofInt v, ρ2)) (s' := (Int32.ofInt (v + 1), σ2)) b
    have Y' := ob_Yq Y q1' q2'
    have cA' : σ2.1 1369 0 s = Int32.ofInt g := by rw [Y'.2.2.2.1]; exact hA
    rcases alt with ⟨z58, z2, z4, zf, c', cb', run⟩ | ⟨z58, run, r', hr', er'⟩
    · by_cases l : v + 1 < g
      · rw [if_pos (by omega)] at z2
        obtain ⟨ρ1', ρ2', lp', Z⟩ := ih (v + 1) σ1 σ2 h' n' o' c' l (by omega) (by omega) Y' X' z58 z2 (by omega) (by rw [z4, show g - v - 1 = g - (v + 1) by omega])
        exact ⟨ρ1', ρ2', lp.trans lp', ob_Zt q1' q2' run (fun x hx => zf x (by omega)) Z (by omega) (by omega) (by omega)⟩
      · rw [if_neg (by omega)] at z2
        refine ⟨σ1, σ2, lp.trans (am_loop_out ?_), q1', q2', h', n', o', X', Or.inl ⟨z58, z2, fun x hx => zf x (by omega), c', by omega, run⟩⟩
        simp (disch := omega) only [f_X12_obeyOne_201, cA', Option.bind_some, qi, ql, qI_lt, qI_le, qI_eq, qI_L, qI_ix, qL_lt, qL_eq, q_nat, q_cs, ← Int32.ofInt_add, ← Int32.ofInt_sub, ← Int32.ofInt_mul, ← Int32.ofInt_neg, ← Int64.ofInt_add, ← Int64.ofInt_sub, ← Int64.ofInt_mul, ← Int64.ofInt_neg, pL_I, q_mx, q_mn, q_ab, q_abL, q_mnL, q_nn0, q_nn1, q_rr, q_b1, q_b0, q_T, q_F, q_iT, q_iF, q_d, q_in, q_wi, q_hC, q_hM, pT_i, pU_i, pS_i, pS_j, pS_0, Sum.elim_inl, Sum.elim_inr, if_pos, if_neg]
    · exact ⟨σ1, σ2, lp.trans (ob_l2 hs z58), q1', q2', h', n', o', X', Or.inr ⟨z58, run, r', hr', er'⟩⟩
theorem ob_lev {σ1 : am_H} {a : Nat} {Hf : Int → Int} {h t lv : Int} {b : Bool} (rr1 : am_rr 3 (σ1.2.2 9 0 1) = some a) (e6 : σ1.1 9 0 6 = Int32.ofInt h) (h0 : 0 ≤ h) (h1 : h ≤ 99999) (ht : 2 ≤ t ∧ t ≤ 3) (lb : -9999 ≤ lv ∧ lv ≤ 9999) (f : f_X3_heightAt a (Int64.ofInt h) true σ1 = some (Int32.ofInt (Hf h))) (hb : -9000 ≤ Hf h ∧ Hf h ≤ 9000) (q : b = true ↔ ob_Q Hf t lv h) : f_X9_isLevel (Int32.ofInt (t + 1)) (Int32.ofInt lv) σ1 = some b := by
  unfold ob_Q at q
  rw [if_neg (by omega), if_neg (by omega)] at q
  by_cases t2 : t = 2
  · rw [if_pos t2] at q
    by_cases c : lv < Hf h
    · rw [q.mpr c]
      simp (disch := omega) only [f_X9_isLevel, rr1, e6, f, Option.bind_some, qi, ql, qI_lt, qI_le, qI_eq, qI_L, qI_ix, qL_lt, qL_eq, q_nat, q_cs, ← Int32.ofInt_add, ← Int32.ofInt_sub, ← Int32.ofInt_mul, ← Int32.ofInt_neg, ← Int64.ofInt_add, ← Int64.ofInt_sub, ← Int64.ofInt_mul, ← Int64.ofInt_neg, pL_I, q_mx, q_mn, q_ab, q_abL, q_mnL, q_nn0, q_nn1, q_rr, q_b1, q_b0, q_T, q_F, q_iT, q_iF, q_d, q_in, q_wi, q_hC, q_hM, pT_i, pU_i, pS_i, pS_j, pS_0, Sum.elim_inl, Sum.elim_inr, if_pos, if_neg]
    · rw [show b = false by cases b with | false => rfl | true => exact absurd (q.mp rfl) c]
      simp (disch := omega) only [f_X9_isLevel, rr1, e6, f, Option.bind_some, qi, ql, qI_lt, qI_le, qI_eq, qI_L, qI_ix, qL_lt, qL_eq, q_nat, q_cs, ← Int32.ofInt_add, ← Int32.ofInt_sub, ← Int32.ofInt_mul, ← Int32.ofInt_neg, ← Int64.ofInt_add, ← Int64.ofInt_sub, ← Int64.ofInt_mul, ← Int64.ofInt_neg, pL_I, q_mx, q_mn, q_ab, q_abL, q_mnL, q_nn0, q_nn1, q_rr, q_b1, q_b0, q_T, q_F, q_iT, q_iF, q_d, q_in, q_wi, q_hC, q_hM, pT_i, pU_i, pS_i, pS_j, pS_0, Sum.elim_inl, Sum.elim_inr, if_pos, if_neg]
  · rw [if_neg t2] at q
    by_cases c : Hf h < lv
    · rw [q.mpr c]
      simp (disch := omega) only [f_X9_isLevel, rr1, e6, f, Option.bind_some, qi, ql, qI_lt, qI_le, qI_eq, qI_L, qI_ix, qL_lt, qL_eq, q_nat, q_cs, ← Int32.ofInt_add, ← Int32.ofInt_sub, ← Int32.ofInt_mul, ← Int32.ofInt_neg, ← Int64.ofInt_add, ← Int64.ofInt_sub, ← Int64.ofInt_mul, ← Int64.ofInt_neg, pL_I, q_mx, q_mn, q_ab, q_abL, q_mnL, q_nn0, q_nn1, q_rr, q_b1, q_b0, q_T, q_F, q_iT, q_iF, q_d, q_in, q_wi, q_hC, q_hM, pT_i, pU_i, pS_i, pS_j, pS_0, Sum.elim_inl, Sum.elim_inr, if_pos, if_neg]
    · rw [show b = false by cases b with | false => rfl | true => exact absurd (q.mp rfl) c]
      simp (disch := omega) only [f_X9_isLevel, rr1, e6, f, Option.bind_some, qi, ql, qI_lt, qI_le, qI_eq, qI_L, qI_ix, qL_lt, qL_eq, q_nat, q_cs, ← Int32.ofInt_add, ← Int32.ofInt_sub, ← Int32.ofInt_mul, ← Int32.ofInt_neg, ← Int64.ofInt_add, ← Int64.ofInt_sub, ← Int64.ofInt_mul, ← Int64.ofInt_neg, pL_I, q_mx, q_mn, q_ab, q_abL, q_mnL, q_nn0, q_nn1, q_rr, q_b1, q_b0, q_T, q_F, q_iT, q_iF, q_d, q_in, q_wi, q_hC, q_hM, pT_i, pU_i, pS_i, pS_j, pS_0, Sum.elim_inl, Sum.elim_inr, if_pos, if_neg]
