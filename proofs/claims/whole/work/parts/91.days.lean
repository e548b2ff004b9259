/-! ===== waters of a DAY ===== -/
noncomputable def pv_c (G : Int → Int) (base : Int) : Nat → Nat
  | 0 => 0
  | n + 1 => pv_c G base n + (@ite Nat (pv_W G (base + n)) (Classical.propDecidable _) 1 0)
noncomputable def pv_t (G : Int → Int) (base h : Int) : Int := ((pv_c G base (h - base).toNat : Nat) : Int)
theorem pv_t0 {G : Int → Int} {base : Int} : pv_t G base base = 0 := by
  unfold pv_t
  rw [show (base - base).toNat = 0 by omega]
  rfl
theorem pv_ts {G : Int → Int} {base h : Int} (hb : base ≤ h) (hw : pv_W G h) : pv_t G base (h + 1) = pv_t G base h + 1 := by
  unfold pv_t
  rw [show (h + 1 - base).toNat = (h - base).toNat + 1 by omega]
  show ((pv_c G base (h - base).toNat + (@ite Nat (pv_W G (base + (h - base).toNat)) (Classical.propDecidable _) 1 0) : Nat) : Int) = _
  rw [if_pos (by rw [show base + (h - base).toNat = h by omega]; exact hw)]
  rfl
theorem pv_tn {G : Int → Int} {base h : Int} (hb : base ≤ h) (hw : ¬ pv_W G h) : pv_t G base (h + 1) = pv_t G base h := by
  unfold pv_t
  rw [show (h + 1 - base).toNat = (h - base).toNat + 1 by omega]
  show ((pv_c G base (h - base).toNat + (@ite Nat (pv_W G (base + (h - base).toNat)) (Classical.propDecidable _) 1 0) : Nat) : Int) = _
  rw [if_neg (by rw [show base + (h - base).toNat = h by omega]; exact hw)]
  rfl
theorem pv_tb {G : Int → Int} {base : Int} (n : Nat) : 0 ≤ pv_t G base (base + n) ∧ pv_t G base (base + n) ≤ n := by
  induction n with
  | zero =>
    rw [show base + ((0 : Nat) : Int) = base by omega, pv_t0]
    omega
  | succ n ih =>
    rw [show base + ((n + 1 : Nat) : Int) = base + n + 1 by omega]
    by_cases c : pv_W G (base + n)
    · rw [pv_ts (by omega) c]; omega
    · rw [pv_tn (by omega) c]; omega
theorem pv_tl {G : Int → Int} {base h : Int} (hb : base ≤ h) : 0 ≤ pv_t G base h ∧ pv_t G base h ≤ h - base := by
  have := pv_tb (G := G) (base := base) (h - base).toNat
  rw [show base + (((h - base).toNat : Nat) : Int) = h by omega] at this
  omega
theorem pv_tm {G : Int → Int} {base h : Int} (hb : base ≤ h) (n : Nat) : pv_t G base h ≤ pv_t G base (h + n) := by
  induction n with
  | zero =>
    rw [show h + ((0 : Nat) : Int) = h by omega]
    omega
  | succ n ih =>
    rw [show h + ((n + 1 : Nat) : Int) = h + n + 1 by omega]
    by_cases c : pv_W G (h + n)
    · rw [pv_ts (by omega) c]; omega
    · rw [pv_tn (by omega) c]; omega
theorem pv_tm2 {G : Int → Int} {base h h' : Int} (hb : base ≤ h) (hh : h ≤ h') : pv_t G base h ≤ pv_t G base h' := by
  have := pv_tm (G := G) hb (h' - h).toNat
  rw [show h + (((h' - h).toNat : Nat) : Int) = h' by omega] at this
  exact this
theorem pv_tg {G : Int → Int} {base h : Int} (hb : base ≤ h) (n : Nat) (hn : ∀ k, h ≤ k → k < h + n → ¬ pv_W G k) : pv_t G base (h + n) = pv_t G base h := by
  induction n with
  | zero => rw [show h + ((0 : Nat) : Int) = h by omega]
  | succ n ih =>
    rw [show h + ((n + 1 : Nat) : Int) = h + n + 1 by omega, pv_tn (by omega) (hn _ (by omega) (by omega))]
    exact ih (fun k k0 k1 => hn k k0 (by omega))
theorem pv_tg2 {G : Int → Int} {base h h' : Int} (hb : base ≤ h) (hh : h ≤ h') (hn : ∀ k, h ≤ k → k < h' → ¬ pv_W G k) : pv_t G base h' = pv_t G base h := by
  have := pv_tg (G := G) hb (h' - h).toNat (fun k k0 k1 => hn k k0 (by omega))
  rw [show h + (((h' - h).toNat : Nat) : Int) = h' by omega] at this
  exact this
/-- the k-th water of a day that goes from base to l -/
def pv_K (G : Int → Int) (base l k r : Int) : Prop := (r = -1 ∧ (k < 0 ∨ pv_t G base (l + 1) ≤ k)) ∨ ((base ≤ r ∧ r ≤ l) ∧ pv_W G r ∧ pv_t G base r = k)
theorem pv_K1 {G : Int → Int} {base l k r r' : Int} (b0 : 0 ≤ base) (h : pv_K G base l k r) (h' : pv_K G base l k r') : r = r' := by
  have cross : ∀ s : Int, (base ≤ s ∧ s ≤ l) → pv_W G s → pv_t G base s = k → ¬ (k < 0 ∨ pv_t G base (l + 1) ≤ k) := by
    intro s sb sw sk
    have h1 := pv_ts (base := base) sb.1 sw
    have h2 := pv_tm2 (G := G) (base := base) (h := s + 1) (h' := l + 1) (by omega) (by omega)
    have h3 := pv_tl (G := G) (base := base) (h := s) sb.1
    omega
  have lt : ∀ s t : Int, (base ≤ s ∧ s ≤ l) → pv_W G s → pv_t G base s = k → (base ≤ t ∧ t ≤ l) → pv_t G base t = k → ¬ s < t := by
    intro s t sb sw sk tb tk hst
    have h1 := pv_ts (base := base) sb.1 sw
    have h2 := pv_tm2 (G := G) (base := base) (h := s + 1) (h' := t) (by omega) (by omega)
    omega
  rcases h with ⟨e, c⟩ | ⟨sb, sw, sk⟩
  · rcases h' with ⟨e', -⟩ | ⟨sb', sw', sk'⟩
    · rw [e, e']
    · exact absurd c (cross r' sb' sw' sk')
  · rcases h' with ⟨e', c'⟩ | ⟨sb', sw', sk'⟩
    · exact absurd c' (cross r sb sw sk)
    · have a1 := lt r r' sb sw sk sb' sk'
      have a2 := lt r' r sb' sw' sk' sb sk
      omega
theorem pv_N1 {G : Int → Int} {y z r r' : Int} (h : pv_N G y z r) (h' : pv_N G y z r') : r = r' := by
  rcases h with ⟨e, c⟩ | ⟨b, w, n⟩
  · rcases h' with ⟨e', -⟩ | ⟨b', w', -⟩
    · rw [e, e']
    · exact absurd w' (c r' b'.1 b'.2.1)
  · rcases h' with ⟨e', c'⟩ | ⟨b', w', n'⟩
    · exact absurd w (c' r b.1 b.2.1)
    · by_cases t : r < r'
      · exact absurd w (n' r b.1 t)
      · by_cases t' : r' < r
        · exact absurd w' (n r' b'.1 t')
        · omega
theorem pv_wC {σ1 σ2 : am_H} {m a : Nat} {H : Bool → Int → Int} {S Z : Int} (hh : pr_HH σ1 σ2 m a H S Z) (g b : Bool) {d k : Int} (d0 : 0 ≤ d) (d1 : d ≤ 4166) (k1 : -2147483648 ≤ k) (k2 : k < 2147483648) : ∃ r : Int, (-1 ≤ r ∧ r ≤ 99999) ∧ f_X3_waterOf a (Int32.ofInt d) g b (Int32.ofInt k) σ1 = some (Int32.ofInt r) ∧ pv_K (pv_G (H b) g) (24 * d) (min 99999 (24 * d + 23)) k r := by
  have el : min (24 * d + 24 - 1) 99999 = min 99999 (24 * d + 23) := by omega
  generalize hl : min 99999 (24 * d + 23) = l at el ⊢
  generalize hG : pv_G (H b) g = G
  have tl := pv_tl (G := G) (base := 24 * d) (h := l + 1) (by omega)
  by_cases c0 : k < 0
  · refine ⟨-1, by omega, ?_, Or.inl ⟨rfl, Or.inl c0⟩⟩
    simp (disch := omega) only [f_X3_waterOf, Option.bind_some, qi, ql, qI_lt, qI_le, qI_eq, qI_L, qI_ix, qL_lt, qL_eq, q_nat, q_cs, ← Int32.ofInt_add, ← Int32.ofInt_sub, ← Int32.ofInt_mul, ← Int32.ofInt_neg, ← Int64.ofInt_add, ← Int64.ofInt_sub, ← Int64.ofInt_mul, ← Int64.ofInt_neg, pL_I, q_mx, q_mn, q_ab, q_abL, q_mnL, q_nn0, q_nn1, q_rr, q_b1, q_b0, q_T, q_F, q_iT, q_iF, q_d, q_in, q_wi, q_hC, q_hM, pT_i, pU_i, pS_i, pS_j, pS_0, Sum.elim_inl, Sum.elim_inr, if_pos, if_neg]
  · by_cases c1 : k < 24
    · obtain ⟨r0, rb, e0, n0⟩ := pv_next hh g b (y := 24 * d) (z := l) (by omega) (by omega) (by omega) (by omega)
      rw [hG] at n0
      obtain ⟨w, e1, r, rfl, rb1, hr⟩ := am_loop_1 (B := fun s : Int32 × Int32 => f_X3_waterOf_37 a g b (Int32.ofInt k) (Int32.ofInt l) s.1 s.2 σ1) (fun n s => ∃ r i : Int, s = (Int32.ofInt r, Int32.ofInt i) ∧ (-1 ≤ r ∧ r ≤ 99999) ∧ (0 ≤ i ∧ i ≤ k) ∧ ((r = -1 ∧ pv_t G (24 * d) (l + 1) ≤ i) ∨ ((24 * d ≤ r ∧ r ≤ l) ∧ pv_W G r ∧ pv_t G (24 * d) r = i)) ∧ n = (k - i).toNat) (fun w => ∃ r : Int, w = Int32.ofInt r ∧ (-1 ≤ r ∧ r ≤ 99999) ∧ pv_K G (24 * d) l k r) (by
        rintro n s ⟨r, i, rfl, rb, ib, inv, rfl⟩
        by_cases ci : i < k
        · by_cases cr : r = -1
          · left
            refine ⟨Int32.ofInt r, ?_, r, rfl, rb, ?_⟩
            · simp (disch := omega) only [f_X3_waterOf_37, Option.bind_some, qi, ql, qI_lt, qI_le, qI_eq, qI_L, qI_ix, qL_lt, qL_eq, q_nat, q_cs, ← Int32.ofInt_add, ← Int32.ofInt_sub, ← Int32.ofInt_mul, ← Int32.ofInt_neg, ← Int64.ofInt_add, ← Int64.ofInt_sub, ← Int64.ofInt_mul, ← Int64.ofInt_neg, pL_I, q_mx, q_mn, q_ab, q_abL, q_mnL, q_nn0, q_nn1, q_rr, q_b1, q_b0, q_T, q_F, q_iT, q_iF, q_d, q_in, q_wi, q_hC, q_hM, pT_i, pU_i, pS_i, pS_j, pS_0, Sum.elim_inl, Sum.elim_inr, if_pos, if_neg]
            · rcases inv with ⟨-, h⟩ | ⟨h, -⟩
              · exact Or.inl ⟨cr, Or.inr (by omega)⟩
              · omega
          · right
            obtain ⟨q, qb, q1, q2⟩ := pv_next hh g b (y := r + 1) (z := l) (by omega) (by omega) (by omega) (by omega)
            rw [hG] at q2
            rcases inv with ⟨h, -⟩ | ⟨h1, h2, h3⟩
            · exact absurd h cr
            · have h4 := pv_ts (base := 24 * d) h1.1 h2
              refine ⟨(Int32.ofInt q, Int32.ofInt (i + 1)), (k - (i + 1)).toNat, ?_, by omega, q, i + 1, rfl, qb, by omega, ?_, rfl⟩
              · simp (disch := omega) only [f_X3_waterOf_37, q1, Option.bind_some, qi, ql, qI_lt, qI_le, qI_eq, qI_L, qI_ix, qL_lt, qL_eq, q_nat, q_cs, ← Int32.ofInt_add, ← Int32.ofInt_sub, ← Int32.ofInt_mul, ← Int32.ofInt_neg, ← Int64.ofInt_add, ← Int64.ofInt_sub, ← Int64.ofInt_mul, ← Int64.ofInt_neg, pL_I, q_mx, q_mn, q_ab, q_abL, q_mnL, q_nn0, q_nn1, q_rr, q_b1, q_b0, q_T, q_F, q_iT, q_iF, q_d, q_in, q_wi, q_hC, q_hM, pT_i, pU_i, pS_i, pS_j, pS_0, Sum.elim_inl, Sum.elim_inr, if_pos, if_neg]
              · rcases q2 with ⟨rfl, q3⟩ | ⟨q3, q4, q5⟩
                · refine Or.inl ⟨rfl, ?_⟩
                  have := pv_tg2 (G := G) (base := 24 * d) (h := r + 1) (h' := l + 1) (by omega) (by omega) (fun j j0 j1 => q3 j j0 (by omega))
                  omega
                · refine Or.inr ⟨by omega, q4, ?_⟩
                  have := pv_tg2 (G := G) (base := 24 * d) (h := r + 1) (h' := q) (by omega) (by omega) (fun j j0 j1 => q5 j j0 j1)
                  omega
        · left
          refine ⟨Int32.ofInt r, ?_, r, rfl, rb, ?_⟩
          · simp (disch := omega) only [f_X3_waterOf_37, Option.bind_some, qi, ql, qI_lt, qI_le, qI_eq, qI_L, qI_ix, qL_lt, qL_eq, q_nat, q_cs, ← Int32.ofInt_add, ← Int32.ofInt_sub, ← Int32.ofInt_mul, ← Int32.ofInt_neg, ← Int64.ofInt_add, ← Int64.ofInt_sub, ← Int64.ofInt_mul, ← Int64.ofInt_neg, pL_I, q_mx, q_mn, q_ab, q_abL, q_mnL, q_nn0, q_nn1, q_rr, q_b1, q_b0, q_T, q_F, q_iT, q_iF, q_d, q_in, q_wi, q_hC, q_hM, pT_i, pU_i, pS_i, pS_j, pS_0, Sum.elim_inl, Sum.elim_inr, if_pos, if_neg]
          · have : i = k := by omega
            subst this
            rcases inv with ⟨h, h'⟩ | ⟨h1, h2, h3⟩
            · exact Or.inl ⟨h, Or.inr h'⟩
            · exact Or.inr ⟨h1, h2, h3⟩) _ (Int32.ofInt r0, Int32.ofInt 0) ⟨r0, 0, rfl, rb, by omega, by
          rcases n0 with ⟨rfl, q3⟩ | ⟨q3, q4, q5⟩
          · refine Or.inl ⟨rfl, ?_⟩
            have := pv_tg2 (G := G) (base := 24 * d) (h := 24 * d) (h' := l + 1) (by omega) (by omega) (fun j j0 j1 => q3 j j0 (by omega))
            rw [pv_t0] at this
            omega
          · refine Or.inr ⟨by omega, q4, ?_⟩
            have := pv_tg2 (G := G) (base := 24 * d) (h := 24 * d) (h' := r0) (by omega) (by omega) (fun j j0 j1 => q5 j j0 j1)
            rw [pv_t0] at this
            omega, rfl⟩
      refine ⟨r, rb1, ?_, hr⟩
      simp (disch := omega) only [f_X3_waterOf, f_X3_lastHourOf, el, e0, e1, Option.bind_some, qi, ql, qI_lt, qI_le, qI_eq, qI_L, qI_ix, qL_lt, qL_eq, q_nat, q_cs, ← Int32.ofInt_add, ← Int32.ofInt_sub, ← Int32.ofInt_mul, ← Int32.ofInt_neg, ← Int64.ofInt_add, ← Int64.ofInt_sub, ← Int64.ofInt_mul, ← Int64.ofInt_neg, pL_I, q_mx, q_mn, q_ab, q_abL, q_mnL, q_nn0, q_nn1, q_rr, q_b1, q_b0, q_T, q_F, q_iT, q_iF, q_d, q_in, q_wi, q_hC, q_hM, pT_i, pU_i, pS_i, pS_j, pS_0, Sum.elim_inl, Sum.elim_inr, if_pos, if_neg]
    · refine ⟨-1, by omega, ?_, Or.inl ⟨rfl, Or.inr (by omega)⟩⟩
      simp (disch := omega) only [f_X3_waterOf, Option.bind_some, qi, ql, qI_lt, qI_le, qI_eq, qI_L, qI_ix, qL_lt, qL_eq, q_nat, q_cs, ← Int32.ofInt_add, ← Int32.ofInt_sub, ← Int32.ofInt_mul, ← Int32.ofInt_neg, ← Int64.ofInt_add, ← Int64.ofInt_sub, ← Int64.ofInt_mul, ← Int64.ofInt_neg, pL_I, q_mx, q_mn, q_ab, q_abL, q_mnL, q_nn0, q_nn1, q_rr, q_b1, q_b0, q_T, q_F, q_iT, q_iF, q_d, q_in, q_wi, q_hC, q_hM, pT_i, pU_i, pS_i, pS_j, pS_0, Sum.elim_inl, Sum.elim_inr, if_pos, if_neg]
theorem pv_wM {σ1 σ2 : am_H} {m a : Nat} {H : Bool → Int → Int} {S Z : Int} (hh : pr_HH σ1 σ2 m a H S Z) (g b : Bool) {d k : Int} (d0 : 0 ≤ d) (d1 : d ≤ 4166) (k1 : -2147483648 ≤ k) (k2 : k < 2147483648) : ∃ r : Int, (-1 ≤ r ∧ r ≤ 99999) ∧ f_X12_waterOf (Int32.ofInt m) (Int32.ofInt d) g b (Int32.ofInt k) σ2 = some (Int32.ofInt r) ∧ pv_K (pv_G (H b) g) (24 * d) (min 99999 (24 * d + 23)) k r := by
  generalize hl : min 99999 (24 * d + 23) = l
  generalize hG : pv_G (H b) g = G
  obtain ⟨w, e1, hw⟩ := am_loop_1 (B := fun s : Int32 × Int32 => f_X12_waterOf_10 (Int32.ofInt m) (Int32.ofInt d) g b (Int32.ofInt k) s.1 s.2 σ2) (fun n s => ∃ c h : Int, s = (Int32.ofInt c, Int32.ofInt h) ∧ (24 * d ≤ h ∧ h ≤ l + 1) ∧ (k < 0 ∧ c = k ∨ 0 ≤ c ∧ c = k - pv_t G (24 * d) h) ∧ n = (l + 1 - h).toNat) (fun w => (∃ r : Int, w = .inl (Int32.ofInt r) ∧ (0 ≤ r ∧ r ≤ 99999) ∧ pv_K G (24 * d) l k r) ∨ (w = .inr () ∧ pv_K G (24 * d) l k (-1))) (by
    rintro n s ⟨c, h, rfl, hb, inv, rfl⟩
    have tl := pv_tl (G := G) (base := 24 * d) (h := h) hb.1
    by_cases ce : l < h
    · left
      refine ⟨.inr (), ?_, Or.inr ⟨rfl, Or.inl ⟨rfl, ?_⟩⟩⟩
      · simp (disch := omega) only [f_X12_waterOf_10, f_X12_lastHour, hl, Option.bind_some, qi, ql, qI_lt, qI_le, qI_eq, qI_L, qI_ix, qL_lt, qL_eq, q_nat, q_cs, ← Int32.ofInt_add, ← Int32.ofInt_sub, ← Int32.ofInt_mul, ← Int32.ofInt_neg, ← Int64.ofInt_add, ← Int64.ofInt_sub, ← Int64.ofInt_mul, ← Int64.ofInt_neg, pL_I, q_mx, q_mn, q_ab, q_abL, q_mnL, q_nn0, q_nn1, q_rr, q_b1, q_b0, q_T, q_F, q_iT, q_iF, q_d, q_in, q_wi, q_hC, q_hM, pT_i, pU_i, pS_i, pS_j, pS_0, Sum.elim_inl, Sum.elim_inr, if_pos, if_neg]
      · have : h = l + 1 := by omega
        subst this
        omega
    · by_cases ck : k < 0
      · left
        refine ⟨.inr (), ?_, Or.inr ⟨rfl, Or.inl ⟨rfl, Or.inl ck⟩⟩⟩
        simp (disch := omega) only [f_X12_waterOf_10, f_X12_lastHour, hl, Option.bind_some, qi, ql, qI_lt, qI_le, qI_eq, qI_L, qI_ix, qL_lt, qL_eq, q_nat, q_cs, ← Int32.ofInt_add, ← Int32.ofInt_sub, ← Int32.ofInt_mul, ← Int32.ofInt_neg, ← Int64.ofInt_add, ← Int64.ofInt_sub, ← Int64.ofInt_mul, ← Int64.ofInt_neg, pL_I, q_mx, q_mn, q_ab, q_abL, q_mnL, q_nn0, q_nn1, q_rr, q_b1, q_b0, q_T, q_F, q_iT, q_iF, q_d, q_in, q_wi, q_hC, q_hM, pT_i, pU_i, pS_i, pS_j, pS_0, Sum.elim_inl, Sum.elim_inr, if_pos, if_neg]
      · obtain ⟨wb, w1, w2⟩ := pv_water hh g b (h := h) (by omega) (by omega)
        rw [hG] at w2
        cases wb with
        | true =>
          have hw := w2.mp rfl
          by_cases cc : c = 0
          · left
            refine ⟨.inl (Int32.ofInt h), ?_, Or.inl ⟨h, rfl, by omega, Or.inr ⟨by omega, hw, by omega⟩⟩⟩
            simp (disch := omega) only [f_X12_waterOf_10, f_X12_lastHour, hl, w1, Option.bind_some, qi, ql, qI_lt, qI_le, qI_eq, qI_L, qI_ix, qL_lt, qL_eq, q_nat, q_cs, ← Int32.ofInt_add, ← Int32.ofInt_sub, ← Int32.ofInt_mul, ← Int32.ofInt_neg, ← Int64.ofInt_add, ← Int64.ofInt_sub, ← Int64.ofInt_mul, ← Int64.ofInt_neg, pL_I, q_mx, q_mn, q_ab, q_abL, q_mnL, q_nn0, q_nn1, q_rr, q_b1, q_b0, q_T, q_F, q_iT, q_iF, q_d, q_in, q_wi, q_hC, q_hM, pT_i, pU_i, pS_i, pS_j, pS_0, Sum.elim_inl, Sum.elim_inr, if_pos, if_neg]
          · right
            have h4 := pv_ts (base := 24 * d) hb.1 hw
            refine ⟨(Int32.ofInt (c + -1), Int32.ofInt (h + 1)), (l + 1 - (h + 1)).toNat, ?_, by omega, _, _, rfl, by omega, Or.inr ⟨by omega, by omega⟩, rfl⟩
            simp (disch := omega) only [f_X12_waterOf_10, f_X12_lastHour, hl, w1, Option.bind_some, qi, ql, qI_lt, qI_le, qI_eq, qI_L, qI_ix, qL_lt, qL_eq, q_nat, q_cs, ← Int32.ofInt_add, ← Int32.ofInt_sub, ← Int32.ofInt_mul, ← Int32.ofInt_neg, ← Int64.ofInt_add, ← Int64.ofInt_sub, ← Int64.ofInt_mul, ← Int64.ofInt_neg, pL_I, q_mx, q_mn, q_ab, q_abL, q_mnL, q_nn0, q_nn1, q_rr, q_b1, q_b0, q_T, q_F, q_iT, q_iF, q_d, q_in, q_wi, q_hC, q_hM, pT_i, pU_i, pS_i, pS_j, pS_0, Sum.elim_inl, Sum.elim_inr, if_pos, if_neg]
        | false =>
          have hw : ¬ pv_W G h := fun z => by have := w2.mpr z; cases this
          right
          have h4 := pv_tn (base := 24 * d) hb.1 hw
          refine ⟨(Int32.ofInt c, Int32.ofInt (h + 1)), (l + 1 - (h + 1)).toNat, ?_, by omega, _, _, rfl, by omega, Or.inr ⟨by omega, by omega⟩, rfl⟩
          simp (disch := omega) only [f_X12_waterOf_10, f_X12_lastHour, hl, w1, Option.bind_some, qi, ql, qI_lt, qI_le, qI_eq, qI_L, qI_ix, qL_lt, qL_eq, q_nat, q_cs, ← Int32.ofInt_add, ← Int32.ofInt_sub, ← Int32.ofInt_mul, ← Int32.ofInt_neg, ← Int64.ofInt_add, ← Int64.ofInt_sub, ← Int64.ofInt_mul, ← Int64.ofInt_neg, pL_I, q_mx, q_mn, q_ab, q_abL, q_mnL, q_nn0, q_nn1, q_rr, q_b1, q_b0, q_T, q_F, q_iT, q_iF, q_d, q_in, q_wi, q_hC, q_hM, pT_i, pU_i, pS_i, pS_j, pS_0, Sum.elim_inl, Sum.elim_inr, if_pos, if_neg]) _ (Int32.ofInt k, Int32.ofInt (24 * d)) ⟨k, 24 * d, rfl, by omega, by
      rw [pv_t0]
      omega, rfl⟩
  rcases hw with ⟨r, rfl, rb, hr⟩ | ⟨rfl, hr⟩
  · refine ⟨r, by omega, ?_, hr⟩
    simp (disch := omega) only [f_X12_waterOf, e1, Option.bind_some, qi, ql, qI_lt, qI_le, qI_eq, qI_L, qI_ix, qL_lt, qL_eq, q_nat, q_cs, ← Int32.ofInt_add, ← Int32.ofInt_sub, ← Int32.ofInt_mul, ← Int32.ofInt_neg, ← Int64.ofInt_add, ← Int64.ofInt_sub, ← Int64.ofInt_mul, ← Int64.ofInt_neg, pL_I, q_mx, q_mn, q_ab, q_abL, q_mnL, q_nn0, q_nn1, q_rr, q_b1, q_b0, q_T, q_F, q_iT, q_iF, q_d, q_in, q_wi, q_hC, q_hM, pT_i, pU_i, pS_i, pS_j, pS_0, Sum.elim_inl, Sum.elim_inr, if_pos, if_neg]
  · refine ⟨-1, by omega, ?_, hr⟩
    simp (disch := omega) only [f_X12_waterOf, e1, Option.bind_some, qi, ql, qI_lt, qI_le, qI_eq, qI_L, qI_ix, qL_lt, qL_eq, q_nat, q_cs, ← Int32.ofInt_add, ← Int32.ofInt_sub, ← Int32.ofInt_mul, ← Int32.ofInt_neg, ← Int64.ofInt_add, ← Int64.ofInt_sub, ← Int64.ofInt_mul, ← Int64.ofInt_neg, pL_I, q_mx, q_mn, q_ab, q_abL, q_mnL, q_nn0, q_nn1, q_rr, q_b1, q_b0, q_T, q_F, q_iT, q_iF, q_d, q_in, q_wi, q_hC, q_hM, pT_i, pU_i, pS_i, pS_j, pS_0, Sum.elim_inl, Sum.elim_inr, if_pos, if_neg]
theorem po_37 : am_op_37 pr_Rel := by
  intro σ1 σ2 h v1 v2 g b v5
  obtain ⟨x, x1, x2, rfl⟩ := q_ex v1
  obtain ⟨d, d1, d2, rfl⟩ := q_ex v2
  obtain ⟨k, k1, k2, rfl⟩ := q_ex v5
  rcases pr_m (h.2.S 0) x1 x2 with ⟨c, e1, e2⟩ | ⟨m, a, hm, ha, rfl, hr, e1, e2, M⟩
  · refine pr_ro h (Int32.ofInt (-1)) 2 ?_ ?_
    · simp (disch := omega) only [f_X11_water, f_X11_none, e1, Option.bind_some, qi, ql, qI_lt, qI_le, qI_eq, qI_L, qI_ix, qL_lt, qL_eq, q_nat, q_cs, ← Int32.ofInt_add, ← Int32.ofInt_sub, ← Int32.ofInt_mul, ← Int32.ofInt_neg, ← Int64.ofInt_add, ← Int64.ofInt_sub, ← Int64.ofInt_mul, ← Int64.ofInt_neg, pL_I, q_mx, q_mn, q_ab, q_abL, q_mnL, q_nn0, q_nn1, q_rr, q_b1, q_b0, q_T, q_F, q_iT, q_iF, q_d, q_in, q_wi, q_hC, q_hM, pT_i, pU_i, pS_i, pS_j, pS_0, Sum.elim_inl, Sum.elim_inr, if_pos, if_neg]
    · simp (disch := omega) only [f_X12_water, f_X12_refuse, e2, Option.bind_some, qi, ql, qI_lt, qI_le, qI_eq, qI_L, qI_ix, qL_lt, qL_eq, q_nat, q_cs, ← Int32.ofInt_add, ← Int32.ofInt_sub, ← Int32.ofInt_mul, ← Int32.ofInt_neg, ← Int64.ofInt_add, ← Int64.ofInt_sub, ← Int64.ofInt_mul, ← Int64.ofInt_neg, pL_I, q_mx, q_mn, q_ab, q_abL, q_mnL, q_nn0, q_nn1, q_rr, q_b1, q_b0, q_T, q_F, q_iT, q_iF, q_d, q_in, q_wi, q_hC, q_hM, pT_i, pU_i, pS_i, pS_j, pS_0, Sum.elim_inl, Sum.elim_inr, if_pos, if_neg]
  · by_cases cd : 0 ≤ d ∧ d ≤ 4166
    · obtain ⟨H, S, Z, hh⟩ := pr_HHe (by omega) M
      obtain ⟨r, rb, f1, g1⟩ := pv_wC hh g b cd.1 cd.2 k1 k2
      obtain ⟨r', rb', f2, g2⟩ := pv_wM hh g b cd.1 cd.2 k1 k2
      have := pv_K1 (by omega) g1 g2
      subst this
      by_cases cr : r = -1
      · subst cr
        refine pr_ro h (Int32.ofInt (-1)) 8 ?_ ?_
        · simp (disch := omega) only [f_X11_water, f_X11_none, e1, f1, Option.bind_some, qi, ql, qI_lt, qI_le, qI_eq, qI_L, qI_ix, qL_lt, qL_eq, q_nat, q_cs, ← Int32.ofInt_add, ← Int32.ofInt_sub, ← Int32.ofInt_mul, ← Int32.ofInt_neg, ← Int64.ofInt_add, ← Int64.ofInt_sub, ← Int64.ofInt_mul, ← Int64.ofInt_neg, pL_I, q_mx, q_mn, q_ab, q_abL, q_mnL, q_nn0, q_nn1, q_rr, q_b1, q_b0, q_T, q_F, q_iT, q_iF, q_d, q_in, q_wi, q_hC, q_hM, pT_i, pU_i, pS_i, pS_j, pS_0, Sum.elim_inl, Sum.elim_inr, if_pos, if_neg]
        · simp (disch := omega) only [f_X12_water, f_X12_isDay, f_X12_refuse, e2, f2, Option.bind_some, qi, ql, qI_lt, qI_le, qI_eq, qI_L, qI_ix, qL_lt, qL_eq, q_nat, q_cs, ← Int32.ofInt_add, ← Int32.ofInt_sub, ← Int32.ofInt_mul, ← Int32.ofInt_neg, ← Int64.ofInt_add, ← Int64.ofInt_sub, ← Int64.ofInt_mul, ← Int64.ofInt_neg, pL_I, q_mx, q_mn, q_ab, q_abL, q_mnL, q_nn0, q_nn1, q_rr, q_b1, q_b0, q_T, q_F, q_iT, q_iF, q_d, q_in, q_wi, q_hC, q_hM, pT_i, pU_i, pS_i, pS_j, pS_0, Sum.elim_inl, Sum.elim_inr, if_pos, if_neg]
      · refine pr_ro h (Int32.ofInt r) 0 ?_ ?_
        · simp (disch := omega) only [f_X11_water, f_X11_answer, e1, f1, Option.bind_some, qi, ql, qI_lt, qI_le, qI_eq, qI_L, qI_ix, qL_lt, qL_eq, q_nat, q_cs, ← Int32.ofInt_add, ← Int32.ofInt_sub, ← Int32.ofInt_mul, ← Int32.ofInt_neg, ← Int64.ofInt_add, ← Int64.ofInt_sub, ← Int64.ofInt_mul, ← Int64.ofInt_neg, pL_I, q_mx, q_mn, q_ab, q_abL, q_mnL, q_nn0, q_nn1, q_rr, q_b1, q_b0, q_T, q_F, q_iT, q_iF, q_d, q_in, q_wi, q_hC, q_hM, pT_i, pU_i, pS_i, pS_j, pS_0, Sum.elim_inl, Sum.elim_inr, if_pos, if_neg]
        · simp (disch := omega) only [f_X12_water, f_X12_isDay, e2, f2, Option.bind_some, qi, ql, qI_lt, qI_le, qI_eq, qI_L, qI_ix, qL_lt, qL_eq, q_nat, q_cs, ← Int32.ofInt_add, ← Int32.ofInt_sub, ← Int32.ofInt_mul, ← Int32.ofInt_neg, ← Int64.ofInt_add, ← Int64.ofInt_sub, ← Int64.ofInt_mul, ← Int64.ofInt_neg, pL_I, q_mx, q_mn, q_ab, q_abL, q_mnL, q_nn0, q_nn1, q_rr, q_b1, q_b0, q_T, q_F, q_iT, q_iF, q_d, q_in, q_wi, q_hC, q_hM, pT_i, pU_i, pS_i, pS_j, pS_0, Sum.elim_inl, Sum.elim_inr, if_pos, if_neg]
    · refine pr_ro h (Int32.ofInt (-1)) 5 ?_ ?_
      · simp (disch := omega) only [f_X11_water, f_X11_none, e1, Option.bind_some, qi, ql, qI_lt, qI_le, qI_eq, qI_L, qI_ix, qL_lt, qL_eq, q_nat, q_cs, ← Int32.ofInt_add, ← Int32.ofInt_sub, ← Int32.ofInt_mul, ← Int32.ofInt_neg, ← Int64.ofInt_add, ← Int64.ofInt_sub, ← Int64.ofInt_mul, ← Int64.ofInt_neg, pL_I, q_mx, q_mn, q_ab, q_abL, q_mnL, q_nn0, q_nn1, q_rr, q_b1, q_b0, q_T, q_F, q_iT, q_iF, q_d, q_in, q_wi, q_hC, q_hM, pT_i, pU_i, pS_i, pS_j, pS_0, Sum.elim_inl, Sum.elim_inr, if_pos, if_neg]
      · simp (disch := omega) only [f_X12_water, f_X12_isDay, f_X12_refuse, e2, Option.bind_some, qi, ql, qI_lt, qI_le, qI_eq, qI_L, qI_ix, qL_lt, qL_eq, q_nat, q_cs, ← Int32.ofInt_add, ← Int32.ofInt_sub, ← Int32.ofInt_mul, ← Int32.ofInt_neg, ← Int64.ofInt_add, ← Int64.ofInt_sub, ← Int64.ofInt_mul, ← Int64.ofInt_neg, pL_I, q_mx, q_mn, q_ab, q_abL, q_mnL, q_nn0, q_nn1, q_rr, q_b1, q_b0, q_T, q_F, q_iT, q_iF, q_d, q_in, q_wi, q_hC, q_hM, pT_i, pU_i, pS_i, pS_j, pS_0, Sum.elim_inl, Sum.elim_inr, if_pos, if_neg]
theorem po_36 : am_op_36 pr_Rel := by
  intro σ1 σ2 h v1 v2 g b
  obtain ⟨x, x1, x2, rfl⟩ := q_ex v1
  obtain ⟨d, d1, d2, rfl⟩ := q_ex v2
  rcases pr_m (h.2.S 0) x1 x2 with ⟨c, e1, e2⟩ | ⟨m, a, hm, ha, rfl, hr, e1, e2, M⟩
  · refine pr_ro h (Int32.ofInt (-1)) 2 ?_ ?_
    · simp (disch := omega) only [f_X11_waters, f_X11_none, e1, Option.bind_some, qi, ql, qI_lt, qI_le, qI_eq, qI_L, qI_ix, qL_lt, qL_eq, q_nat, q_cs, ← Int32.ofInt_add, ← Int32.ofInt_sub, ← Int32.ofInt_mul, ← Int32.ofInt_neg, ← Int64.ofInt_add, ← Int64.ofInt_sub, ← Int64.ofInt_mul, ← Int64.ofInt_neg, pL_I, q_mx, q_mn, q_ab, q_abL, q_mnL, q_nn0, q_nn1, q_rr, q_b1, q_b0, q_T, q_F, q_iT, q_iF, q_d, q_in, q_wi, q_hC, q_hM, pT_i, pU_i, pS_i, pS_j, pS_0, Sum.elim_inl, Sum.elim_inr, if_pos, if_neg]
    · simp (disch := omega) only [f_X12_waters, f_X12_refuse, e2, Option.bind_some, qi, ql, qI_lt, qI_le, qI_eq, qI_L, qI_ix, qL_lt, qL_eq, q_nat, q_cs, ← Int32.ofInt_add, ← Int32.ofInt_sub, ← Int32.ofInt_mul, ← Int32.ofInt_neg, ← Int64.ofInt_add, ← Int64.ofInt_sub, ← Int64.ofInt_mul, ← Int64.ofInt_neg, pL_I, q_mx, q_mn, q_ab, q_abL, q_mnL, q_nn0, q_nn1, q_rr, q_b1, q_b0, q_T, q_F, q_iT, q_iF, q_d, q_in, q_wi, q_hC, q_hM, pT_i, pU_i, pS_i, pS_j, pS_0, Sum.elim_inl, Sum.elim_inr, if_pos, if_neg]
  · by_cases cd : 0 ≤ d ∧ d ≤ 4166
    · obtain ⟨H, S, Z, hh⟩ := pr_HHe (by omega) M
      have el : min (24 * d + 24 - 1) 99999 = min 99999 (24 * d + 23) := by omega
      generalize hl : min 99999 (24 * d + 23) = l at el
      obtain ⟨r0, rb, e0, n0⟩ := pv_next hh g b (y := 24 * d) (z := l) (by omega) (by omega) (by omega) (by omega)
      generalize hG : pv_G (H b) g = G at n0
      have tl := pv_tl (G := G) (base := 24 * d) (h := l + 1) (by omega)
      obtain ⟨w, f1, rfl⟩ := am_loop_1 (B := fun s : Int32 × Int32 × Int32 => f_X3_watersOf_26 a g b (Int32.ofInt l) s.1 s.2.1 s.2.2 σ1) (fun n s => ∃ r i : Int, s = (Int32.ofInt i, Int32.ofInt r, Int32.ofInt i) ∧ (-1 ≤ r ∧ r ≤ 99999) ∧ (0 ≤ i ∧ i ≤ 24) ∧ ((r = -1 ∧ pv_t G (24 * d) (l + 1) = i) ∨ ((24 * d ≤ r ∧ r ≤ l) ∧ pv_W G r ∧ pv_t G (24 * d) r = i)) ∧ n = (24 - i).toNat) (fun w => w = Int32.ofInt (pv_t G (24 * d) (l + 1))) (by
        rintro n s ⟨r, i, rfl, rb, ib, inv, rfl⟩
        by_cases ci : i < 24
        · by_cases cr : r = -1
          · left
            refine ⟨Int32.ofInt i, ?_, ?_⟩
            · simp (disch := omega) only [f_X3_watersOf_26, Option.bind_some, qi, ql, qI_lt, qI_le, qI_eq, qI_L, qI_ix, qL_lt, qL_eq, q_nat, q_cs, ← Int32.ofInt_add, ← Int32.ofInt_sub, ← Int32.ofInt_mul, ← Int32.ofInt_neg, ← Int64.ofInt_add, ← Int64.ofInt_sub, ← Int64.ofInt_mul, ← Int64.ofInt_neg, pL_I, q_mx, q_mn, q_ab, q_abL, q_mnL, q_nn0, q_nn1, q_rr, q_b1, q_b0, q_T, q_F, q_iT, q_iF, q_d, q_in, q_wi, q_hC, q_hM, pT_i, pU_i, pS_i, pS_j, pS_0, Sum.elim_inl, Sum.elim_inr, if_pos, if_neg]
            · rcases inv with ⟨-, h⟩ | ⟨h, -⟩
              · rw [h]
              · omega
          · right
            obtain ⟨q, qb, q1, q2⟩ := pv_next hh g b (y := r + 1) (z := l) (by omega) (by omega) (by omega) (by omega)
            rw [hG] at q2
            rcases inv with ⟨h, -⟩ | ⟨h1, h2, h3⟩
            · exact absurd h cr
            · have h4 := pv_ts (base := 24 * d) h1.1 h2
              refine ⟨(Int32.ofInt (i + 1), Int32.ofInt q, Int32.ofInt (i + 1)), (24 - (i + 1)).toNat, ?_, by omega, q, i + 1, rfl, qb, by omega, ?_, rfl⟩
              · simp (disch := omega) only [f_X3_watersOf_26, q1, Option.bind_some, qi, ql, qI_lt, qI_le, qI_eq, qI_L, qI_ix, qL_lt, qL_eq, q_nat, q_cs, ← Int32.ofInt_add, ← Int32.ofInt_sub, ← Int32.ofInt_mul, ← Int32.ofInt_neg, ← Int64.ofInt_add, ← Int64.ofInt_sub, ← Int64.ofInt_mul, ← Int64.ofInt_neg, pL_I, q_mx, q_mn, q_ab, q_abL, q_mnL, q_nn0, q_nn1, q_rr, q_b1, q_b0, q_T, q_F, q_iT, q_iF, q_d, q_in, q_wi, q_hC, q_hM, pT_i, pU_i, pS_i, pS_j, pS_0, Sum.elim_inl, Sum.elim_inr, if_pos, if_neg]
              · rcases q2 with ⟨rfl, q3⟩ | ⟨q3, q4, q5⟩
                · refine Or.inl ⟨rfl, ?_⟩
                  have := pv_tg2 (G := G) (base := 24 * d) (h := r + 1) (h' := l + 1) (by omega) (by omega) (fun j j0 j1 => q3 j j0 (by omega))
                  omega
                · refine Or.inr ⟨by omega, q4, ?_⟩
                  have := pv_tg2 (G := G) (base := 24 * d) (h := r + 1) (h' := q) (by omega) (by omega) (fun j j0 j1 => q5 j j0 j1)
                  omega
        · left
          refine ⟨Int32.ofInt i, ?_, ?_⟩
          · simp (disch := omega) only [f_X3_watersOf_26, Option.bind_some, qi, ql, qI_lt, qI_le, qI_eq, qI_L, qI_ix, qL_lt, qL_eq, q_nat, q_cs, ← Int32.ofInt_add, ← Int32.ofInt_sub, ← Int32.ofInt_mul, ← Int32.ofInt_neg, ← Int64.ofInt_add, ← Int64.ofInt_sub, ← Int64.ofInt_mul, ← Int64.ofInt_neg, pL_I, q_mx, q_mn, q_ab, q_abL, q_mnL, q_nn0, q_nn1, q_rr, q_b1, q_b0, q_T, q_F, q_iT, q_iF, q_d, q_in, q_wi, q_hC, q_hM, pT_i, pU_i, pS_i, pS_j, pS_0, Sum.elim_inl, Sum.elim_inr, if_pos, if_neg]
          · rcases inv with ⟨-, h⟩ | ⟨h1, h2, h3⟩
            · rw [h]
            · have := pv_tl (G := G) (base := 24 * d) (h := r) h1.1
              omega) _ (Int32.ofInt 0, Int32.ofInt r0, Int32.ofInt 0) ⟨r0, 0, rfl, rb, by omega, by
          rcases n0 with ⟨rfl, q3⟩ | ⟨q3, q4, q5⟩
          · refine Or.inl ⟨rfl, ?_⟩
            have := pv_tg2 (G := G) (base := 24 * d) (h := 24 * d) (h' := l + 1) (by omega) (by omega) (fun j j0 j1 => q3 j j0 (by omega))
            rw [pv_t0] at this
            omega
          · refine Or.inr ⟨by omega, q4, ?_⟩
            have := pv_tg2 (G := G) (base := 24 * d) (h := 24 * d) (h' := r0) (by omega) (by omega) (fun j j0 j1 => q5 j j0 j1)
            rw [pv_t0] at this
            omega, rfl⟩
      obtain ⟨w, f2, rfl⟩ := am_loop_1 (B := fun s : Int32 × Int32 => f_X12_waters_45 (Int32.ofInt m) (Int32.ofInt d) g b s.1 s.2 (pS σ2 0)) (fun n s => ∃ k : Int, s = (Int32.ofInt (pv_t G (24 * d) k), Int32.ofInt k) ∧ (24 * d ≤ k ∧ k ≤ l + 1) ∧ n = (l + 1 - k).toNat) (fun w => w = Int32.ofInt (pv_t G (24 * d) (l + 1))) (by
        rintro n s ⟨k, rfl, kb, rfl⟩
        by_cases ce : l < k
        · left
          have : k = l + 1 := by omega
          subst this
          refine ⟨_, ?_, rfl⟩
          simp (disch := omega) only [f_X12_waters_45, f_X12_lastHour, hl, Option.bind_some, qi, ql, qI_lt, qI_le, qI_eq, qI_L, qI_ix, qL_lt, qL_eq, q_nat, q_cs, ← Int32.ofInt_add, ← Int32.ofInt_sub, ← Int32.ofInt_mul, ← Int32.ofInt_neg, ← Int64.ofInt_add, ← Int64.ofInt_sub, ← Int64.ofInt_mul, ← Int64.ofInt_neg, pL_I, q_mx, q_mn, q_ab, q_abL, q_mnL, q_nn0, q_nn1, q_rr, q_b1, q_b0, q_T, q_F, q_iT, q_iF, q_d, q_in, q_wi, q_hC, q_hM, pT_i, pU_i, pS_i, pS_j, pS_0, Sum.elim_inl, Sum.elim_inr, if_pos, if_neg]
        · right
          obtain ⟨wb, w1, w2⟩ := pv_water hh g b (h := k) (by omega) (by omega)
          rw [hG] at w2
          cases wb with
          | true =>
            have h4 := pv_ts (base := 24 * d) kb.1 (w2.mp rfl)
            refine ⟨(Int32.ofInt (pv_t G (24 * d) (k + 1)), Int32.ofInt (k + 1)), (l + 1 - (k + 1)).toNat, ?_, by omega, k + 1, rfl, by omega, rfl⟩
            simp (disch := omega) only [f_X12_waters_45, f_X12_lastHour, hl, w1, h4, Option.bind_some, qi, ql, qI_lt, qI_le, qI_eq, qI_L, qI_ix, qL_lt, qL_eq, q_nat, q_cs, ← Int32.ofInt_add, ← Int32.ofInt_sub, ← Int32.ofInt_mul, ← Int32.ofInt_neg, ← Int64.ofInt_add, ← Int64.ofInt_sub, ← Int64.ofInt_mul, ← Int64.ofInt_neg, pL_I, q_mx, q_mn, q_ab, q_abL, q_mnL, q_nn0, q_nn1, q_rr, q_b1, q_b0, q_T, q_F, q_iT, q_iF, q_d, q_in, q_wi, q_hC, q_hM, pT_i, pU_i, pS_i, pS_j, pS_0, Sum.elim_inl, Sum.elim_inr, if_pos, if_neg]
          | false =>
            have h4 := pv_tn (base := 24 * d) kb.1 (fun z => by have := w2.mpr z; cases this)
            refine ⟨(Int32.ofInt (pv_t G (24 * d) (k + 1)), Int32.ofInt (k + 1)), (l + 1 - (k + 1)).toNat, ?_, by omega, k + 1, rfl, by omega, rfl⟩
            simp (disch := omega) only [f_X12_waters_45, f_X12_lastHour, hl, w1, h4, Int.add_zero, Option.bind_some, qi, ql, qI_lt, qI_le, qI_eq, qI_L, qI_ix, qL_lt, qL_eq, q_nat, q_cs, ← Int32.ofInt_add, ← Int32.ofInt_sub, ← Int32.ofInt_mul, ← Int32.ofInt_neg, ← Int64.ofInt_add, ← Int64.ofInt_sub, ← Int64.ofInt_mul, ← Int64.ofInt_neg, pL_I, q_mx, q_mn, q_ab, q_abL, q_mnL, q_nn0, q_nn1, q_rr, q_b1, q_b0, q_T, q_F, q_iT, q_iF, q_d, q_in, q_wi, q_hC, q_hM, pT_i, pU_i, pS_i, pS_j, pS_0, Sum.elim_inl, Sum.elim_inr, if_pos, if_neg]) _ (Int32.ofInt 0, Int32.ofInt (24 * d)) ⟨24 * d, by rw [pv_t0], by omega, rfl⟩
      refine pr_ro h (Int32.ofInt (pv_t G (24 * d) (l + 1))) 0 ?_ ?_
      · simp (disch := omega) only [f_X11_waters, f_X11_answer, f_X3_watersOf, f_X3_lastHourOf, e1, el, e0, f1, Option.bind_some, qi, ql, qI_lt, qI_le, qI_eq, qI_L, qI_ix, qL_lt, qL_eq, q_nat, q_cs, ← Int32.ofInt_add, ← Int32.ofInt_sub, ← Int32.ofInt_mul, ← Int32.ofInt_neg, ← Int64.ofInt_add, ← Int64.ofInt_sub, ← Int64.ofInt_mul, ← Int64.ofInt_neg, pL_I, q_mx, q_mn, q_ab, q_abL, q_mnL, q_nn0, q_nn1, q_rr, q_b1, q_b0, q_T, q_F, q_iT, q_iF, q_d, q_in, q_wi, q_hC, q_hM, pT_i, pU_i, pS_i, pS_j, pS_0, Sum.elim_inl, Sum.elim_inr, if_pos, if_neg]
      · simp (disch := omega) only [f_X12_waters, f_X12_isDay, e2, f2, Option.bind_some, qi, ql, qI_lt, qI_le, qI_eq, qI_L, qI_ix, qL_lt, qL_eq, q_nat, q_cs, ← Int32.ofInt_add, ← Int32.ofInt_sub, ← Int32.ofInt_mul, ← Int32.ofInt_neg, ← Int64.ofInt_add, ← Int64.ofInt_sub, ← Int64.ofInt_mul, ← Int64.ofInt_neg, pL_I, q_mx, q_mn, q_ab, q_abL, q_mnL, q_nn0, q_nn1, q_rr, q_b1, q_b0, q_T, q_F, q_iT, q_iF, q_d, q_in, q_wi, q_hC, q_hM, pT_i, pU_i, pS_i, pS_j, pS_0, Sum.elim_inl, Sum.elim_inr, if_pos, if_neg]
    · refine pr_ro h (Int32.ofInt (-1)) 5 ?_ ?_
      · simp (disch := omega) only [f_X11_waters, f_X11_none, e1, Option.bind_some, qi, ql, qI_lt, qI_le, qI_eq, qI_L, qI_ix, qL_lt, qL_eq, q_nat, q_cs, ← Int32.ofInt_add, ← Int32.ofInt_sub, ← Int32.ofInt_mul, ← Int32.ofInt_neg, ← Int64.ofInt_add, ← Int64.ofInt_sub, ← Int64.ofInt_mul, ← Int64.ofInt_neg, pL_I, q_mx, q_mn, q_ab, q_abL, q_mnL, q_nn0, q_nn1, q_rr, q_b1, q_b0, q_T, q_F, q_iT, q_iF, q_d, q_in, q_wi, q_hC, q_hM, pT_i, pU_i, pS_i, pS_j, pS_0, Sum.elim_inl, Sum.elim_inr, if_pos, if_neg]
      · simp (disch := omega) only [f_X12_waters, f_X12_isDay, f_X12_refuse, e2, Option.bind_some, qi, ql, qI_lt, qI_le, qI_eq, qI_L, qI_ix, qL_lt, qL_eq, q_nat, q_cs, ← Int32.ofInt_add, ← Int32.ofInt_sub, ← Int32.ofInt_mul, ← Int32.ofInt_neg, ← Int64.ofInt_add, ← Int64.ofInt_sub, ← Int64.ofInt_mul, ← Int64.ofInt_neg, pL_I, q_mx, q_mn, q_ab, q_abL, q_mnL, q_nn0, q_nn1, q_rr, q_b1, q_b0, q_T, q_F, q_iT, q_iF, q_d, q_in, q_wi, q_hC, q_hM, pT_i, pU_i, pS_i, pS_j, pS_0, Sum.elim_inl, Sum.elim_inr, if_pos, if_neg]
theorem po_39 : am_op_39 pr_Rel := by
  intro σ1 σ2 h v1 v2 b v5
  obtain ⟨x, x1, x2, rfl⟩ := q_ex v1
  obtain ⟨d, d1, d2, rfl⟩ := q_ex v2
  obtain ⟨k, k1, k2, rfl⟩ := q_ex v5
  rcases pr_m (h.2.S 0) x1 x2 with ⟨c, e1, e2⟩ | ⟨m, a, hm, ha, rfl, hr, e1, e2, M⟩
  · refine pr_ro h (Int32.ofInt (-1)) 2 ?_ ?_
    · simp (disch := omega) only [f_X11_gap, f_X11_none, e1, Option.bind_some, qi, ql, qI_lt, qI_le, qI_eq, qI_L, qI_ix, qL_lt, qL_eq, q_nat, q_cs, ← Int32.ofInt_add, ← Int32.ofInt_sub, ← Int32.ofInt_mul, ← Int32.ofInt_neg, ← Int64.ofInt_add, ← Int64.ofInt_sub, ← Int64.ofInt_mul, ← Int64.ofInt_neg, pL_I, q_mx, q_mn, q_ab, q_abL, q_mnL, q_nn0, q_nn1, q_rr, q_b1, q_b0, q_T, q_F, q_iT, q_iF, q_d, q_in, q_wi, q_hC, q_hM, pT_i, pU_i, pS_i, pS_j, pS_0, Sum.elim_inl, Sum.elim_inr, if_pos, if_neg]
    · simp (disch := omega) only [f_X12_gap, f_X12_refuse, e2, Option.bind_some, qi, ql, qI_lt, qI_le, qI_eq, qI_L, qI_ix, qL_lt, qL_eq, q_nat, q_cs, ← Int32.ofInt_add, ← Int32.ofInt_sub, ← Int32.ofInt_mul, ← Int32.ofInt_neg, ← Int64.ofInt_add, ← Int64.ofInt_sub, ← Int64.ofInt_mul, ← Int64.ofInt_neg, pL_I, q_mx, q_mn, q_ab, q_abL, q_mnL, q_nn0, q_nn1, q_rr, q_b1, q_b0, q_T, q_F, q_iT, q_iF, q_d, q_in, q_wi, q_hC, q_hM, pT_i, pU_i, pS_i, pS_j, pS_0, Sum.elim_inl, Sum.elim_inr, if_pos, if_neg]
  · by_cases cd : 0 ≤ d ∧ d ≤ 4166
    · obtain ⟨H, S, Z, hh⟩ := pr_HHe (by omega) M
      obtain ⟨r, rb, f1, g1⟩ := pv_wC hh true b cd.1 cd.2 k1 k2
      obtain ⟨r', rb', f2, g2⟩ := pv_wM hh true b cd.1 cd.2 k1 k2
      have := pv_K1 (by omega) g1 g2
      subst this
      by_cases cr : r = -1
      · subst cr
        refine pr_ro h (Int32.ofInt (-1)) 8 ?_ ?_
        · simp (disch := omega) only [f_X11_gap, f_X11_none, e1, f1, Option.bind_some, qi, ql, qI_lt, qI_le, qI_eq, qI_L, qI_ix, qL_lt, qL_eq, q_nat, q_cs, ← Int32.ofInt_add, ← Int32.ofInt_sub, ← Int32.ofInt_mul, ← Int32.ofInt_neg, ← Int64.ofInt_add, ← Int64.ofInt_sub, ← Int64.ofInt_mul, ← Int64.ofInt_neg, pL_I, q_mx, q_mn, q_ab, q_abL, q_mnL, q_nn0, q_nn1, q_rr, q_b1, q_b0, q_T, q_F, q_iT, q_iF, q_d, q_in, q_wi, q_hC, q_hM, pT_i, pU_i, pS_i, pS_j, pS_0, Sum.elim_inl, Sum.elim_inr, if_pos, if_neg]
        · simp (disch := omega) only [f_X12_gap, f_X12_isDay, f_X12_refuse, e2, f2, Option.bind_some, qi, ql, qI_lt, qI_le, qI_eq, qI_L, qI_ix, qL_lt, qL_eq, q_nat, q_cs, ← Int32.ofInt_add, ← Int32.ofInt_sub, ← Int32.ofInt_mul, ← Int32.ofInt_neg, ← Int64.ofInt_add, ← Int64.ofInt_sub, ← Int64.ofInt_mul, ← Int64.ofInt_neg, pL_I, q_mx, q_mn, q_ab, q_abL, q_mnL, q_nn0, q_nn1, q_rr, q_b1, q_b0, q_T, q_F, q_iT, q_iF, q_d, q_in, q_wi, q_hC, q_hM, pT_i, pU_i, pS_i, pS_j, pS_0, Sum.elim_inl, Sum.elim_inr, if_pos, if_neg]
      · obtain ⟨q, qb, q1, q2⟩ := pv_next hh true b (y := r + 1) (z := min (r + 200) 99999) (by omega) (by omega) (by omega) (by omega)
        generalize hG : pv_G (H b) true = G at *
        obtain ⟨w, f3, hw⟩ := am_loop_1 (B := fun s : Int32 => f_X12_gap_63 (Int32.ofInt m) b (Int32.ofInt r) s (pS σ2 0)) (fun n s => ∃ j : Int, s = Int32.ofInt j ∧ (1 ≤ j ∧ j ≤ 201) ∧ (∀ k, r + 1 ≤ k → k < r + j → ¬ pv_W G k) ∧ n = (201 - j).toNat) (fun w => (∃ j : Int, w = .inl (Int32.ofInt j) ∧ (1 ≤ j ∧ j ≤ 200) ∧ pv_N G (r + 1) (min (r + 200) 99999) (r + j)) ∨ (w = .inr () ∧ pv_N G (r + 1) (min (r + 200) 99999) (-1))) (by
          rintro n s ⟨j, rfl, jb, hj, rfl⟩
          by_cases c1 : 200 < j
          · left
            refine ⟨.inr (), ?_, Or.inr ⟨rfl, Or.inl ⟨rfl, fun k k0 k1 => hj k k0 (by omega)⟩⟩⟩
            simp (disch := omega) only [f_X12_gap_63, Option.bind_some, qi, ql, qI_lt, qI_le, qI_eq, qI_L, qI_ix, qL_lt, qL_eq, q_nat, q_cs, ← Int32.ofInt_add, ← Int32.ofInt_sub, ← Int32.ofInt_mul, ← Int32.ofInt_neg, ← Int64.ofInt_add, ← Int64.ofInt_sub, ← Int64.ofInt_mul, ← Int64.ofInt_neg, pL_I, q_mx, q_mn, q_ab, q_abL, q_mnL, q_nn0, q_nn1, q_rr, q_b1, q_b0, q_T, q_F, q_iT, q_iF, q_d, q_in, q_wi, q_hC, q_hM, pT_i, pU_i, pS_i, pS_j, pS_0, Sum.elim_inl, Sum.elim_inr, if_pos, if_neg]
          · by_cases c2 : 99999 < r + j
            · left
              refine ⟨.inr (), ?_, Or.inr ⟨rfl, Or.inl ⟨rfl, fun k k0 k1 => hj k k0 (by omega)⟩⟩⟩
              simp (disch := omega) only [f_X12_gap_63, Option.bind_some, qi, ql, qI_lt, qI_le, qI_eq, qI_L, qI_ix, qL_lt, qL_eq, q_nat, q_cs, ← Int32.ofInt_add, ← Int32.ofInt_sub, ← Int32.ofInt_mul, ← Int32.ofInt_neg, ← Int64.ofInt_add, ← Int64.ofInt_sub, ← Int64.ofInt_mul, ← Int64.ofInt_neg, pL_I, q_mx, q_mn, q_ab, q_abL, q_mnL, q_nn0, q_nn1, q_rr, q_b1, q_b0, q_T, q_F, q_iT, q_iF, q_d, q_in, q_wi, q_hC, q_hM, pT_i, pU_i, pS_i, pS_j, pS_0, Sum.elim_inl, Sum.elim_inr, if_pos, if_neg]
            · obtain ⟨wb, w1, w2⟩ := pv_water hh true b (h := r + j) (by omega) (by omega)
              rw [hG] at w2
              cases wb with
              | true =>
                left
                refine ⟨.inl (Int32.ofInt j), ?_, Or.inl ⟨j, rfl, by omega, Or.inr ⟨by omega, w2.mp rfl, fun k k0 k1 => hj k k0 k1⟩⟩⟩
                simp (disch := omega) only [f_X12_gap_63, w1, Option.bind_some, qi, ql, qI_lt, qI_le, qI_eq, qI_L, qI_ix, qL_lt, qL_eq, q_nat, q_cs, ← Int32.ofInt_add, ← Int32.ofInt_sub, ← Int32.ofInt_mul, ← Int32.ofInt_neg, ← Int64.ofInt_add, ← Int64.ofInt_sub, ← Int64.ofInt_mul, ← Int64.ofInt_neg, pL_I, q_mx, q_mn, q_ab, q_abL, q_mnL, q_nn0, q_nn1, q_rr, q_b1, q_b0, q_T, q_F, q_iT, q_iF, q_d, q_in, q_wi, q_hC, q_hM, pT_i, pU_i, pS_i, pS_j, pS_0, Sum.elim_inl, Sum.elim_inr, if_pos, if_neg]
              | false =>
                right
                refine ⟨Int32.ofInt (j + 1), (201 - (j + 1)).toNat, ?_, by omega, j + 1, rfl, by omega, fun k k0 k1 => ?_, rfl⟩
                · simp (disch := omega) only [f_X12_gap_63, w1, Option.bind_some, qi, ql, qI_lt, qI_le, qI_eq, qI_L, qI_ix, qL_lt, qL_eq, q_nat, q_cs, ← Int32.ofInt_add, ← Int32.ofInt_sub, ← Int32.ofInt_mul, ← Int32.ofInt_neg, ← Int64.ofInt_add, ← Int64.ofInt_sub, ← Int64.ofInt_mul, ← Int64.ofInt_neg, pL_I, q_mx, q_mn, q_ab, q_abL, q_mnL, q_nn0, q_nn1, q_rr, q_b1, q_b0, q_T, q_F, q_iT, q_iF, q_d, q_in, q_wi, q_hC, q_hM, pT_i, pU_i, pS_i, pS_j, pS_0, Sum.elim_inl, Sum.elim_inr, if_pos, if_neg]
                · by_cases ck : k = r + j
                  · subst ck
                    exact fun z => by have := w2.mpr z; cases this
                  · exact hj k k0 (by omega)) _ (Int32.ofInt 1) ⟨1, rfl, by omega, fun k k0 k1 => by omega, rfl⟩
        rcases hw with ⟨j, rfl, jb, hn⟩ | ⟨rfl, hn⟩
        · have := pv_N1 hn q2
          subst this
          have ej : r + j - r = j := by omega
          refine pr_ro h (Int32.ofInt j) 0 ?_ ?_
          · simp (disch := omega) only [f_X11_gap, f_X11_answer, e1, f1, q1, ej, Option.bind_some, qi, ql, qI_lt, qI_le, qI_eq, qI_L, qI_ix, qL_lt, qL_eq, q_nat, q_cs, ← Int32.ofInt_add, ← Int32.ofInt_sub, ← Int32.ofInt_mul, ← Int32.ofInt_neg, ← Int64.ofInt_add, ← Int64.ofInt_sub, ← Int64.ofInt_mul, ← Int64.ofInt_neg, pL_I, q_mx, q_mn, q_ab, q_abL, q_mnL, q_nn0, q_nn1, q_rr, q_b1, q_b0, q_T, q_F, q_iT, q_iF, q_d, q_in, q_wi, q_hC, q_hM, pT_i, pU_i, pS_i, pS_j, pS_0, Sum.elim_inl, Sum.elim_inr, if_pos, if_neg]
          · simp (disch := omega) only [f_X12_gap, f_X12_isDay, e2, f2, f3, Option.bind_some, qi, ql, qI_lt, qI_le, qI_eq, qI_L, qI_ix, qL_lt, qL_eq, q_nat, q_cs, ← Int32.ofInt_add, ← Int32.ofInt_sub, ← Int32.ofInt_mul, ← Int32.ofInt_neg, ← Int64.ofInt_add, ← Int64.ofInt_sub, ← Int64.ofInt_mul, ← Int64.ofInt_neg, pL_I, q_mx, q_mn, q_ab, q_abL, q_mnL, q_nn0, q_nn1, q_rr, q_b1, q_b0, q_T, q_F, q_iT, q_iF, q_d, q_in, q_wi, q_hC, q_hM, pT_i, pU_i, pS_i, pS_j, pS_0, Sum.elim_inl, Sum.elim_inr, if_pos, if_neg]
        · have := pv_N1 hn q2
          subst this
          refine pr_ro h (Int32.ofInt (-1)) 8 ?_ ?_
          · simp (disch := omega) only [f_X11_gap, f_X11_none, e1, f1, q1, Option.bind_some, qi, ql, qI_lt, qI_le, qI_eq, qI_L, qI_ix, qL_lt, qL_eq, q_nat, q_cs, ← Int32.ofInt_add, ← Int32.ofInt_sub, ← Int32.ofInt_mul, ← Int32.ofInt_neg, ← Int64.ofInt_add, ← Int64.ofInt_sub, ← Int64.ofInt_mul, ← Int64.ofInt_neg, pL_I, q_mx, q_mn, q_ab, q_abL, q_mnL, q_nn0, q_nn1, q_rr, q_b1, q_b0, q_T, q_F, q_iT, q_iF, q_d, q_in, q_wi, q_hC, q_hM, pT_i, pU_i, pS_i, pS_j, pS_0, Sum.elim_inl, Sum.elim_inr, if_pos, if_neg]
          · simp (disch := omega) only [f_X12_gap, f_X12_isDay, f_X12_refuse, e2, f2, f3, Option.bind_some, qi, ql, qI_lt, qI_le, qI_eq, qI_L, qI_ix, qL_lt, qL_eq, q_nat, q_cs, ← Int32.ofInt_add, ← Int32.ofInt_sub, ← Int32.ofInt_mul, ← Int32.ofInt_neg, ← Int64.ofInt_add, ← Int64.ofInt_sub, ← Int64.ofInt_mul, ← Int64.ofInt_neg, pL_I, q_mx, q_mn, q_ab, q_abL, q_mnL, q_nn0, q_nn1, q_rr, q_b1, q_b0, q_T, q_F, q_iT, q_iF, q_d, q_in, q_wi, q_hC, q_hM, pT_i, pU_i, pS_i, pS_j, pS_0, Sum.elim_inl, Sum.elim_inr, if_pos, if_neg]
    · refine pr_ro h (Int32.ofInt (-1)) 5 ?_ ?_
      · simp (disch := omega) only [f_X11_gap, f_X11_none, e1, Option.bind_some, qi, ql, qI_lt, qI_le, qI_eq, qI_L, qI_ix, qL_lt, qL_eq, q_nat, q_cs, ← Int32.ofInt_add, ← Int32.ofInt_sub, ← Int32.ofInt_mul, ← Int32.ofInt_neg, ← Int64.ofInt_add, ← Int64.ofInt_sub, ← Int64.ofInt_mul, ← Int64.ofInt_neg, pL_I, q_mx, q_mn, q_ab, q_abL, q_mnL, q_nn0, q_nn1, q_rr, q_b1, q_b0, q_T, q_F, q_iT, q_iF, q_d, q_in, q_wi, q_hC, q_hM, pT_i, pU_i, pS_i, pS_j, pS_0, Sum.elim_inl, Sum.elim_inr, if_pos, if_neg]
      · simp (disch := omega) only [f_X12_gap, f_X12_isDay, f_X12_refuse, e2, Option.bind_some, qi, ql, qI_lt, qI_le, qI_eq, qI_L, qI_ix, qL_lt, qL_eq, q_nat, q_cs, ← Int32.ofInt_add, ← Int32.ofInt_sub, ← Int32.ofInt_mul, ← Int32.ofInt_neg, ← Int64.ofInt_add, ← Int64.ofInt_sub, ← Int64.ofInt_mul, ← Int64.ofInt_neg, pL_I, q_mx, q_mn, q_ab, q_abL, q_mnL, q_nn0, q_nn1, q_rr, q_b1, q_b0, q_T, q_F, q_iT, q_iF, q_d, q_in, q_wi, q_hC, q_hM, pT_i, pU_i, pS_i, pS_j, pS_0, Sum.elim_inl, Sum.elim_inr, if_pos, if_neg]
