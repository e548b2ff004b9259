/-! ===== TOKENS: one on both sides ===== -/
/-- no FAULT is noted -/
def gF (σ : am_H) : Prop := σ.1 5 0 7 = Int32.ofInt 0 ∧ σ.1 5 0 8 = Int32.ofInt (-1)
def tk (σ1 σ2 : am_H) (n : Nat) (b : Nat → Int) (s p e : Nat) : Prop := tC σ1 n b ∧ tM σ2 n b ∧ kC σ1 b s p e ∧ kM σ2 b s p e ∧ p ≤ n ∧ s ≤ 4 ∧ (s = 1 ∨ s = 2 ∨ s = 3 → p < e ∧ e ≤ n) ∧ (s = 1 → ∀ j, p ≤ j → j < e → pL (b j) = true) ∧ (s = 2 → e - p ≤ 4 ∧ ∀ j, p ≤ j → j < e → pD (b j) = true) ∧ (s = 0 → p = n) ∧ gF σ1
def tlC : List (Nat × Nat) := [(5, 3), (5, 4), (5, 5), (5, 6), (5, 7), (5, 8)]
def tlM : List (Nat × Nat) := [(12, 12), (12, 13), (12, 14), (12, 15), (12, 16), (12, 17), (12, 18), (12, 19)]
theorem rn_1 {P : Int → Bool} {b : Nat → Int} {n p : Nat} (hp : p < n) (h : P (b p) = true) : p < rn P b (n - p) p ∧ rn P b (n - p) p ≤ n := by
  obtain ⟨f, hf⟩ : ∃ f, n - p = f + 1 := ⟨n - p - 1, by omega⟩
  rw [hf, rn_s, if_pos h]
  have := rn_b (P := P) (b := b) f (p + 1)
  omega
theorem tS_f {b : Nat → Int} {n p : Nat} (hp : p ≤ n) : tS b n p ≤ 4 ∧ (tS b n p = 1 ∨ tS b n p = 2 ∨ tS b n p = 3 → p < tE b n p ∧ tE b n p ≤ n) ∧ (tS b n p = 1 → ∀ j, p ≤ j → j < tE b n p → pL (b j) = true) ∧ (tS b n p = 2 → tE b n p - p ≤ 4 ∧ ∀ j, p ≤ j → j < tE b n p → pD (b j) = true) ∧ (tS b n p = 0 → p = n) := by
  by_cases c : p < n
  rotate_left
  · have sS : tS b n p = 0 := by
      unfold tS
      rw [if_neg c]
    rw [sS]
    exact ⟨by omega, fun z => by omega, fun z => by omega, fun z => by omega, fun _ => by omega⟩
  rcases so_c (b p) with ⟨e1, d1⟩ | ⟨e1, d1, d2⟩ | ⟨e1, d1, d2, d3⟩ | ⟨e1, d1, d2, d3⟩
  · have sS : tS b n p = 1 := by
      unfold tS
      rw [if_pos c, if_neg (by omega)]
      exact e1
    have sE : tE b n p = rn pL b (n - p) p := by
      unfold tE
      rw [if_pos e1]
    rw [sS, sE]
    exact ⟨by omega, fun _ => rn_1 c d1, fun _ j h1 h2 => rn_a _ _ j h1 h2, fun z => by omega, fun z => by omega⟩
  · have sE : tE b n p = rn pD b (n - p) p := by
      unfold tE
      rw [if_neg (by omega), if_pos e1]
    by_cases c4 : 4 < rn pD b (n - p) p - p
    · have sS : tS b n p = 4 := by
        unfold tS
        rw [if_pos c, if_pos ⟨e1, c4⟩]
      rw [sS]
      exact ⟨by omega, fun z => by omega, fun z => by omega, fun z => by omega, fun z => by omega⟩
    · have sS : tS b n p = 2 := by
        unfold tS
        rw [if_pos c, if_neg (by omega)]
        exact e1
      rw [sS, sE]
      exact ⟨by omega, fun _ => rn_1 c d2, fun z => by omega, fun _ => ⟨by omega, fun j h1 h2 => rn_a _ _ j h1 h2⟩, fun z => by omega⟩
  · have sS : tS b n p = 3 := by
      unfold tS
      rw [if_pos c, if_neg (by omega)]
      exact e1
    have sE : tE b n p = p + 1 := by
      unfold tE
      rw [if_neg (by omega), if_neg (by omega)]
    rw [sS, sE]
    exact ⟨by omega, fun _ => by omega, fun z => by omega, fun z => by omega, fun z => by omega⟩
  · have sS : tS b n p = 4 := by
      unfold tS
      rw [if_pos c, if_neg (by omega)]
      exact e1
    rw [sS]
    exact ⟨by omega, fun z => by omega, fun z => by omega, fun z => by omega, fun z => by omega⟩
theorem tk_from {σ1 σ2 : am_H} {n : Nat} {b : Nat → Int} {q : Nat} (C : tC σ1 n b) (M : tM σ2 n b) (h5 : σ1.1 5 0 5 = Int32.ofInt (q : Int)) (h16 : σ2.1 12 0 16 = Int32.ofInt (q : Int)) (hq : q ≤ n) (hF : gF σ1) : ∃ (τ1 τ2 : am_H) (s p e : Nat), f_X5_advance σ1 = some τ1 ∧ f_X12_next σ2 = some τ2 ∧ tk τ1 τ2 n b s p e ∧ q ≤ p ∧ qf [(5, 3), (5, 4), (5, 5), (5, 6)] σ1 τ1 ∧ qf tl_M σ2 τ2 := by
  obtain ⟨τ1, a1, a2, a3⟩ := tc_adv C h5 hq
  obtain ⟨τ2, c1, c2, c3⟩ := tm_next M h16 hq
  have rb := rn_b (P := pB) (b := b) (n - q) q
  obtain ⟨f1, f2, f3, f4, f5⟩ := tS_f (b := b) (n := n) (p := rn pB b (n - q) q) (by omega)
  exact ⟨τ1, τ2, tS b n (rn pB b (n - q) q), rn pB b (n - q) q, tE b n (rn pB b (n - q) q), a1, c1, ⟨C.q a2 (by decide +kernel), M.q c2 (by decide +kernel), a3, c3, by omega, f1, f2, f3, f4, f5, ⟨((a2 5 0 7 rfl).1).trans hF.1, ((a2 5 0 8 rfl).1).trans hF.2⟩⟩, rb.1, a2, c2⟩
theorem tk_next {σ1 σ2 : am_H} {n : Nat} {b : Nat → Int} {s p e : Nat} (h : tk σ1 σ2 n b s p e) (hs : s = 1 ∨ s = 2 ∨ s = 3) : ∃ (τ1 τ2 : am_H) (s' p' e' : Nat), f_X5_advance σ1 = some τ1 ∧ f_X12_next σ2 = some τ2 ∧ tk τ1 τ2 n b s' p' e' ∧ e ≤ p' ∧ qf [(5, 3), (5, 4), (5, 5), (5, 6)] σ1 τ1 ∧ qf tl_M σ2 τ2 := by
  obtain ⟨C, M, kc, km, h1, h2, h3, -, -, -, hF⟩ := h
  exact tk_from C M (kc.2.2.1 hs) (km.2.2.1 hs) (h3 hs).2 hF
/-- a change elsewhere -/
theorem tk.q {σ1 σ2 τ1 τ2 : am_H} {n : Nat} {b : Nat → Int} {s p e : Nat} {l r : List (Nat × Nat)} (h : tk σ1 σ2 n b s p e) (q1 : qf l σ1 τ1) (d1 : qf_dj l [(5, 2), (600, 999), (5, 3), (5, 4), (5, 5), (5, 6), (5, 7), (5, 8)] = true) (q2 : qf r σ2 τ2) (d2 : qf_dj r [(12, 9), (1307, 999), (12, 14), (12, 15), (12, 16), (12, 17), (12, 18), (12, 19)] = true) : tk τ1 τ2 n b s p e := by
  obtain ⟨C, M, kc, km, y1, y2, y3, y4, y5, y6, hF⟩ := h
  have g1 := q1.a d1
  have g2 := q2.a d2
  refine ⟨⟨C.1, (g1.i (k := 5) (j := 2) rfl 0).trans C.2.1, fun j hj => ⟨(C.2.2 j hj).1, by rw [g1.I (k := 600) (fun j => rfl)]; exact (C.2.2 j hj).2⟩⟩, ⟨M.1, (g2.i (k := 12) (j := 9) rfl 0).trans M.2.1, fun j hj => ⟨(M.2.2 j hj).1, by rw [g2.I (k := 1307) (fun j => rfl)]; exact (M.2.2 j hj).2⟩⟩, ?_, ?_, y1, y2, y3, y4, y5, y6, ⟨(g1.i (k := 5) (j := 7) rfl 0).trans hF.1, (g1.i (k := 5) (j := 8) rfl 0).trans hF.2⟩⟩
  · unfold kC at kc ⊢
    rw [g1.i (k := 5) (j := 3) rfl, g1.i (k := 5) (j := 4) rfl, g1.i (k := 5) (j := 5) rfl, g1.i (k := 5) (j := 6) rfl]
    exact kc
  · unfold kM at km ⊢
    rw [g2.i (k := 12) (j := 14) rfl, g2.i (k := 12) (j := 15) rfl, g2.i (k := 12) (j := 16) rfl, g2.i (k := 12) (j := 17) rfl, g2.i (k := 12) (j := 18) rfl, g2.l (k := 12) (j := 19) rfl]
    exact km
/-! ===== WORDS ===== -/
theorem wl_n : ∀ r : Fin 22, am_slen r.val = Int32.ofInt (((wl r.val).length : Nat) : Int) := by decide +kernel
theorem ls_ext : ∀ l r : List Int, l.length = r.length → (∀ i, i < l.length → l.getD i 0 = r.getD i 0) → l = r := by
  intro l
  induction l with
  | nil =>
    intro r h _
    match r, h with
    | [], _ => rfl
  | cons a l ih =>
    intro r h g
    match r, h, g with
    | d :: r, h, g =>
      have e1 : a = d := g 0 (by show 0 < l.length + 1; omega)
      have e2 := ih r (by have h : l.length + 1 = r.length + 1 := h; omega) (fun i hi => g (i + 1) (by show i + 1 < l.length + 1; omega))
      rw [e1, e2]
theorem t_by {σ : am_H} {n : Nat} {b : Nat → Int} {i : Nat} (C : tC σ n b) (hi : i < n) (hl : pL (b i) = true) : f_X5_byteAt (Int32.ofInt (i : Int)) σ = some (Int32.ofInt (b i)) := by
  obtain ⟨c1, c2, c3⟩ := C
  obtain ⟨b1, b2⟩ := c3 i hi
  have d := of_decide_eq_true hl
  have e := tu_2 b1.1 b1.2
  have t := (tu_b b1.1 b1.2).2.2.2 (by omega)
  rw [t] at e
  simp (disch := omega) only [f_X5_byteAt, b2, e, Option.bind_some, qi, ql, qI_lt, qI_le, qI_eq, qI_L, qI_ix, qL_lt, qL_eq, q_nat, q_cs, ← Int32.ofInt_add, ← Int32.ofInt_sub, ← Int32.ofInt_mul, ← Int32.ofInt_neg, ← Int64.ofInt_add, ← Int64.ofInt_sub, ← Int64.ofInt_mul, ← Int64.ofInt_neg, pL_I, q_mx, q_mn, q_ab, q_abL, q_mnL, q_nn0, q_nn1, q_rr, q_b1, q_b0, q_T, q_F, q_iT, q_iF, q_d, q_in, q_wi, q_hC, q_hM, pT_i, pU_i, pS_i, pS_j, pS_0, Sum.elim_inl, Sum.elim_inr, if_pos, if_neg]
theorem tw_30 {σ : am_H} {n : Nat} {b : Nat → Int} {r p e : Nat} (C : tC σ n b) (h4 : σ.1 5 0 4 = Int32.ofInt (p : Int)) (hr : r < 22) (hl : ∀ j, p ≤ j → j < e → pL (b j) = true) (he : e ≤ n) (hL : e - p = (wl r).length) (hp : p ≤ e) : ∀ f i : Nat, i + f = (wl r).length → (∀ j, j < i → b (p + j) - 96 = (wl r).getD ((wl r).length - 1 - j) 0) → am_loop (fun s : Int32 => f_X5_isWord_30 r (Int32.ofInt (((wl r).length : Nat) : Int)) s σ) (Int32.ofInt (i : Int)) = some (if (decide (∀ j, j < (wl r).length → b (p + j) - 96 = (wl r).getD ((wl r).length - 1 - j) 0)) = true then .inr () else .inl ()) := by
  obtain ⟨w1, w2, w3, w4⟩ := wl_ok ⟨r, hr⟩
  have c1 := C.1
  simp only at w1 w2 w3 w4
  intro f
  induction f with
  | zero =>
    intro i hi hj
    rw [decide_eq_true (fun j hj' => hj j (by omega)), if_pos rfl]
    refine am_loop_out ?_
    simp (disch := omega) only [f_X5_isWord_30, Option.bind_some, qi, ql, qI_lt, qI_le, qI_eq, qI_L, qI_ix, qL_lt, qL_eq, q_nat, q_cs, ← Int32.ofInt_add, ← Int32.ofInt_sub, ← Int32.ofInt_mul, ← Int32.ofInt_neg, ← Int64.ofInt_add, ← Int64.ofInt_sub, ← Int64.ofInt_mul, ← Int64.ofInt_neg, pL_I, q_mx, q_mn, q_ab, q_abL, q_mnL, q_nn0, q_nn1, q_rr, q_b1, q_b0, q_T, q_F, q_iT, q_iF, q_d, q_in, q_wi, q_hC, q_hM, pT_i, pU_i, pS_i, pS_j, pS_0, Sum.elim_inl, Sum.elim_inr, if_pos, if_neg]
  | succ f ih =>
    intro i hi hj
    obtain ⟨v1, v2, v3⟩ := w4 ⟨i, by omega⟩ (by show i < _; omega)
    simp only at v1 v2 v3
    have lt := hl (p + i) (by omega) (by omega)
    have by' := t_by C (by omega : p + i < n) lt
    have by2 : f_X5_byteAt (Int32.ofInt ((p : Int) + (i : Int))) σ = some (Int32.ofInt (b (p + i))) := by
      rw [← by', show ((p : Int) + (i : Int)) = (((p + i : Nat)) : Int) by omega]
    have d := of_decide_eq_true lt
    have ix : am_ix (am_sL.getD r 0) (Int32.ofInt (i : Int)) = some i := by
      rw [← w1, qI_ix (by omega) (by omega) (by omega), q_nat]
    by_cases m : b (p + i) - 96 = (wl r).getD ((wl r).length - 1 - i) 0
    · refine (am_loop_in (s' := Int32.ofInt ((i : Int) + 1)) ?_).trans (ih (i + 1) (by omega) (fun j hj' => ?_))
      · simp (disch := omega) only [f_X5_isWord_30, h4, by2, ix, v1, Option.bind_some, qi, ql, qI_lt, qI_le, qI_eq, qI_L, qI_ix, qL_lt, qL_eq, q_nat, q_cs, ← Int32.ofInt_add, ← Int32.ofInt_sub, ← Int32.ofInt_mul, ← Int32.ofInt_neg, ← Int64.ofInt_add, ← Int64.ofInt_sub, ← Int64.ofInt_mul, ← Int64.ofInt_neg, pL_I, q_mx, q_mn, q_ab, q_abL, q_mnL, q_nn0, q_nn1, q_rr, q_b1, q_b0, q_T, q_F, q_iT, q_iF, q_d, q_in, q_wi, q_hC, q_hM, pT_i, pU_i, pS_i, pS_j, pS_0, Sum.elim_inl, Sum.elim_inr, if_pos, if_neg]
      · by_cases ej : j = i
        · rw [ej]
          exact m
        · exact hj j (by omega)
    · rw [decide_eq_false (fun z => m (z i (by omega))), if_neg Bool.false_ne_true]
      refine am_loop_out ?_
      simp (disch := omega) only [f_X5_isWord_30, h4, by2, ix, v1, Option.bind_some, qi, ql, qI_lt, qI_le, qI_eq, qI_L, qI_ix, qL_lt, qL_eq, q_nat, q_cs, ← Int32.ofInt_add, ← Int32.ofInt_sub, ← Int32.ofInt_mul, ← Int32.ofInt_neg, ← Int64.ofInt_add, ← Int64.ofInt_sub, ← Int64.ofInt_mul, ← Int64.ofInt_neg, pL_I, q_mx, q_mn, q_ab, q_abL, q_mnL, q_nn0, q_nn1, q_rr, q_b1, q_b0, q_T, q_F, q_iT, q_iF, q_d, q_in, q_wi, q_hC, q_hM, pT_i, pU_i, pS_i, pS_j, pS_0, Sum.elim_inl, Sum.elim_inr, if_pos, if_neg]
theorem lr_wl {b : Nat → Int} {r p k : Nat} : (lr b p k = wl r) ↔ (k = (wl r).length ∧ ∀ j, j < (wl r).length → b (p + j) - 96 = (wl r).getD ((wl r).length - 1 - j) 0) := by
  constructor
  · intro h
    have hk : k = (wl r).length := by rw [← h, lr_n]
    refine ⟨hk, fun j hj => ?_⟩
    rw [← h, lr_n]
    rw [lr_g k (k - 1 - j) (by omega), show k - 1 - (k - 1 - j) = j by omega]
  · rintro ⟨hk, h⟩
    refine ls_ext _ _ (by rw [lr_n, hk]) (fun i hi => ?_)
    rw [lr_n] at hi
    rw [lr_g k i hi, h (k - 1 - i) (by omega), ← hk, show k - 1 - (k - 1 - i) = i by omega]
/-- is it this WORD: both say the same -/
theorem tk_word {σ1 σ2 : am_H} {n : Nat} {b : Nat → Int} {s p e : Nat} (h : tk σ1 σ2 n b s p e) {r : Nat} (hr : r < 22) : f_X5_isWord r σ1 = some (wq b s p e r) ∧ f_X12_isWord (Int64.ofInt (ev 32 (wl r))) σ2 = some (wq b s p e r) := by
  obtain ⟨C, M, ⟨k3, k4, k5, k6⟩, ⟨m14, m15, m16, m17, m18⟩, h1, h2, h3, h4, -⟩ := h
  obtain ⟨w1, w2, w3, w4⟩ := wl_ok ⟨r, hr⟩
  have wn : am_slen r = _ := wl_n ⟨r, hr⟩
  have c1 := C.1
  simp only at w1 w2 w3 w4 wn
  unfold wq
  by_cases s1 : s = 1
  rotate_left
  · rw [decide_eq_false (fun z => s1 z.1)]
    constructor
    · simp (disch := omega) only [f_X5_isWord, k3, Option.bind_some, qi, ql, qI_lt, qI_le, qI_eq, qI_L, qI_ix, qL_lt, qL_eq, q_nat, q_cs, ← Int32.ofInt_add, ← Int32.ofInt_sub, ← Int32.ofInt_mul, ← Int32.ofInt_neg, ← Int64.ofInt_add, ← Int64.ofInt_sub, ← Int64.ofInt_mul, ← Int64.ofInt_neg, pL_I, q_mx, q_mn, q_ab, q_abL, q_mnL, q_nn0, q_nn1, q_rr, q_b1, q_b0, q_T, q_F, q_iT, q_iF, q_d, q_in, q_wi, q_hC, q_hM, pT_i, pU_i, pS_i, pS_j, pS_0, Sum.elim_inl, Sum.elim_inr, if_pos, if_neg]
    · simp (disch := omega) only [f_X12_isWord, m14, Option.bind_some, qi, ql, qI_lt, qI_le, qI_eq, qI_L, qI_ix, qL_lt, qL_eq, q_nat, q_cs, ← Int32.ofInt_add, ← Int32.ofInt_sub, ← Int32.ofInt_mul, ← Int32.ofInt_neg, ← Int64.ofInt_add, ← Int64.ofInt_sub, ← Int64.ofInt_mul, ← Int64.ofInt_neg, pL_I, q_mx, q_mn, q_ab, q_abL, q_mnL, q_nn0, q_nn1, q_rr, q_b1, q_b0, q_T, q_F, q_iT, q_iF, q_d, q_in, q_wi, q_hC, q_hM, pT_i, pU_i, pS_i, pS_j, pS_0, Sum.elim_inl, Sum.elim_inr, if_pos, if_neg]
  have k5 := k5 (Or.inl s1)
  obtain ⟨pe, en⟩ := h3 (Or.inl s1)
  have hl := h4 s1
  have m19 := (m18 s1).2
  constructor
  · by_cases cl : e - p = (wl r).length
    · have lp := tw_30 C k4 hr hl en cl (by omega) (wl r).length 0 (by omega) (fun j hj => by omega)
      have lp' : am_loop (fun s : Int32 => f_X5_isWord_30 r (Int32.ofInt (((wl r).length : Nat) : Int)) s σ1) (Int32.ofInt 0) = _ := lp
      by_cases ml : ∀ j, j < (wl r).length → b (p + j) - 96 = (wl r).getD ((wl r).length - 1 - j) 0
      · rw [decide_eq_true ml, if_pos rfl] at lp'
        rw [decide_eq_true ⟨s1, lr_wl.mpr ⟨cl, ml⟩⟩]
        simp (disch := omega) only [f_X5_isWord, k3, k4, k5, wn, lp', Option.bind_some, qi, ql, qI_lt, qI_le, qI_eq, qI_L, qI_ix, qL_lt, qL_eq, q_nat, q_cs, ← Int32.ofInt_add, ← Int32.ofInt_sub, ← Int32.ofInt_mul, ← Int32.ofInt_neg, ← Int64.ofInt_add, ← Int64.ofInt_sub, ← Int64.ofInt_mul, ← Int64.ofInt_neg, pL_I, q_mx, q_mn, q_ab, q_abL, q_mnL, q_nn0, q_nn1, q_rr, q_b1, q_b0, q_T, q_F, q_iT, q_iF, q_d, q_in, q_wi, q_hC, q_hM, pT_i, pU_i, pS_i, pS_j, pS_0, Sum.elim_inl, Sum.elim_inr, if_pos, if_neg]
      · rw [decide_eq_false ml, if_neg Bool.false_ne_true] at lp'
        rw [decide_eq_false (fun z => ml (lr_wl.mp z.2).2)]
        simp (disch := omega) only [f_X5_isWord, k3, k4, k5, wn, lp', Option.bind_some, qi, ql, qI_lt, qI_le, qI_eq, qI_L, qI_ix, qL_lt, qL_eq, q_nat, q_cs, ← Int32.ofInt_add, ← Int32.ofInt_sub, ← Int32.ofInt_mul, ← Int32.ofInt_neg, ← Int64.ofInt_add, ← Int64.ofInt_sub, ← Int64.ofInt_mul, ← Int64.ofInt_neg, pL_I, q_mx, q_mn, q_ab, q_abL, q_mnL, q_nn0, q_nn1, q_rr, q_b1, q_b0, q_T, q_F, q_iT, q_iF, q_d, q_in, q_wi, q_hC, q_hM, pT_i, pU_i, pS_i, pS_j, pS_0, Sum.elim_inl, Sum.elim_inr, if_pos, if_neg]
    · rw [decide_eq_false (fun z => cl (lr_wl.mp z.2).1)]
      simp (disch := omega) only [f_X5_isWord, k3, k4, k5, wn, Option.bind_some, qi, ql, qI_lt, qI_le, qI_eq, qI_L, qI_ix, qL_lt, qL_eq, q_nat, q_cs, ← Int32.ofInt_add, ← Int32.ofInt_sub, ← Int32.ofInt_mul, ← Int32.ofInt_neg, ← Int64.ofInt_add, ← Int64.ofInt_sub, ← Int64.ofInt_mul, ← Int64.ofInt_neg, pL_I, q_mx, q_mn, q_ab, q_abL, q_mnL, q_nn0, q_nn1, q_rr, q_b1, q_b0, q_T, q_F, q_iT, q_iF, q_d, q_in, q_wi, q_hC, q_hM, pT_i, pU_i, pS_i, pS_j, pS_0, Sum.elim_inl, Sum.elim_inr, if_pos, if_neg]
  · have d1 := lr_d (b := b) (p := p) (e - p) (fun j j1 j2 => hl j j1 (by omega))
    have p1 := ev_p (B := 32) (by omega) (wl r) w3
    have u1 := ev_u (B := 32) (by omega) (wl r) w3
    have u2 : (32 : Int) ^ (wl r).length ≤ 32 ^ 5 := by
      rcases (by omega : (wl r).length = 0 ∨ (wl r).length = 1 ∨ (wl r).length = 2 ∨ (wl r).length = 3 ∨ (wl r).length = 4 ∨ (wl r).length = 5) with z | z | z | z | z | z <;> rw [z] <;> decide
    have u3 : (32 : Int) ^ 5 = 33554432 := rfl
    by_cases c8 : e - p ≤ 8
    · have ew := wd_ev (b := b) (p := p) (e - p) c8
      have d2 : ∀ d ∈ lr b p (e - p), 1 ≤ d ∧ d < 32 := fun d hd => by have := d1 d hd; omega
      have p2 := ev_p (B := 32) (by omega) (lr b p (e - p)) d2
      have v1 := ev_u (B := 32) (by omega) (lr b p (e - p)) d2
      rw [lr_n] at v1
      have v2 : (32 : Int) ^ (e - p) ≤ 32 ^ 8 := by
        rcases (by omega : e - p = 0 ∨ e - p = 1 ∨ e - p = 2 ∨ e - p = 3 ∨ e - p = 4 ∨ e - p = 5 ∨ e - p = 6 ∨ e - p = 7 ∨ e - p = 8) with z | z | z | z | z | z | z | z | z <;> rw [z] <;> decide
      have v3 : (32 : Int) ^ 8 = 1099511627776 := rfl
      rw [ew] at m19
      by_cases ml : lr b p (e - p) = wl r
      · rw [decide_eq_true ⟨s1, ml⟩]
        rw [ml] at m19
        simp (disch := omega) only [f_X12_isWord, m14, m19, Option.bind_some, qi, ql, qI_lt, qI_le, qI_eq, qI_L, qI_ix, qL_lt, qL_eq, q_nat, q_cs, ← Int32.ofInt_add, ← Int32.ofInt_sub, ← Int32.ofInt_mul, ← Int32.ofInt_neg, ← Int64.ofInt_add, ← Int64.ofInt_sub, ← Int64.ofInt_mul, ← Int64.ofInt_neg, pL_I, q_mx, q_mn, q_ab, q_abL, q_mnL, q_nn0, q_nn1, q_rr, q_b1, q_b0, q_T, q_F, q_iT, q_iF, q_d, q_in, q_wi, q_hC, q_hM, pT_i, pU_i, pS_i, pS_j, pS_0, Sum.elim_inl, Sum.elim_inr, if_pos, if_neg]
      · have ne : ev 32 (lr b p (e - p)) ≠ ev 32 (wl r) := fun z => ml (ev_i (B := 32) (by omega) _ _ d2 w3 z)
        rw [decide_eq_false (fun z => ml z.2)]
        simp (disch := omega) only [f_X12_isWord, m14, m19, Option.bind_some, qi, ql, qI_lt, qI_le, qI_eq, qI_L, qI_ix, qL_lt, qL_eq, q_nat, q_cs, ← Int32.ofInt_add, ← Int32.ofInt_sub, ← Int32.ofInt_mul, ← Int32.ofInt_neg, ← Int64.ofInt_add, ← Int64.ofInt_sub, ← Int64.ofInt_mul, ← Int64.ofInt_neg, pL_I, q_mx, q_mn, q_ab, q_abL, q_mnL, q_nn0, q_nn1, q_rr, q_b1, q_b0, q_T, q_F, q_iT, q_iF, q_d, q_in, q_wi, q_hC, q_hM, pT_i, pU_i, pS_i, pS_j, pS_0, Sum.elim_inl, Sum.elim_inr, if_pos, if_neg]
    · rw [wd_9 (by omega)] at m19
      rw [decide_eq_false (fun z => by have := (lr_wl.mp z.2).1; omega)]
      simp (disch := omega) only [f_X12_isWord, m14, m19, Option.bind_some, qi, ql, qI_lt, qI_le, qI_eq, qI_L, qI_ix, qL_lt, qL_eq, q_nat, q_cs, ← Int32.ofInt_add, ← Int32.ofInt_sub, ← Int32.ofInt_mul, ← Int32.ofInt_neg, ← Int64.ofInt_add, ← Int64.ofInt_sub, ← Int64.ofInt_mul, ← Int64.ofInt_neg, pL_I, q_mx, q_mn, q_ab, q_abL, q_mnL, q_nn0, q_nn1, q_rr, q_b1, q_b0, q_T, q_F, q_iT, q_iF, q_d, q_in, q_wi, q_hC, q_hM, pT_i, pU_i, pS_i, pS_j, pS_0, Sum.elim_inl, Sum.elim_inr, if_pos, if_neg]
