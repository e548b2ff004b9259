/-- all couples of a KIND u -/
theorem sm_row {σ : am_H} {m kc wc cnt x l s d u : Nat} {ws : Nat → Nat → Int} {kw kt : Nat → Int} {z per h : Int} (hm : m < 2) (KK : tn_K kc kw kt) (hx : x < 64) (hxw : x < 2 ^ wc) (ec : cnt = sb_n x 6) (hc : cnt ≤ 3) (hs : s < cnt) (p0 : 0 ≤ per) (p1 : per ≤ 99) (h0 : 0 ≤ h) (h1 : h ≤ 99999) (hu : u < kc) (I : sm_I σ m kc wc cnt x ws kw kt z per h l (s + 1) d) {ρ : am_H} {p : Nat → Nat} {S : Int × (Nat → Int)} (K : tm_K ρ m kc kw kt) (M : ph_M ρ m wc ws z) (P : tm_P ρ kc (2 * s) p) (hn : ∀ u, u < kc → (en_n p (2 * s) u : Int) ≤ kw u) (Z : sm_S σ ρ cnt S) : ∃ τ : am_H, am_loop (fun y : Int32 × am_H => f_X12_shareFrom_98 (f_X12_shareFrom d) (Int32.ofInt (m : Int)) (Int32.ofInt (sb_r x s : Int)) (Int32.ofInt (2 * (s : Int))) (Int32.ofInt per) (Int32.ofInt h) (Int32.ofInt (sb_w x s : Int)) (Int32.ofInt (u : Int)) y.1 y.2) (Int32.ofInt 0, ρ) = some τ ∧ qf sm_l ρ τ ∧ (∀ j, j < 2 * s → τ.1 1377 0 j = ρ.1 1377 0 j) ∧ sm_S σ τ cnt (en_fo (fun b S => @ite _ (sh_d (sf_fit ws kt x per h) kw p s u b) (Classical.propDecidable _) (sh_F (sf_fit ws kt x per h) kw kt kc l (s + 1) (sh_p p (2 * s) u b) S) S) kc S) := by
  have k10 := KK.1
  have kk := KK.2
  have w6 := M.1
  obtain ⟨rn, r64, tz, an⟩ := sb_3 ⟨x, hx⟩ ⟨s, by omega⟩ (by show s < sb_n x 6; omega)
  have wv : sb_w x s < wc := sb_6 ⟨x, hx⟩ ⟨wc, by omega⟩ ⟨s, by omega⟩ hxw (by show s < sb_n x 6; omega)
  have an' : Int32.ofInt (sb_r x s : Int) &&& Int32.ofInt ((sb_r x s : Int) - 1) = Int32.ofInt (sb_r x (s + 1) : Int) := an
  refine am_loop_1 (B := fun y : Int32 × am_H => f_X12_shareFrom_98 (f_X12_shareFrom d) (Int32.ofInt (m : Int)) (Int32.ofInt (sb_r x s : Int)) (Int32.ofInt (2 * (s : Int))) (Int32.ofInt per) (Int32.ofInt h) (Int32.ofInt (sb_w x s : Int)) (Int32.ofInt (u : Int)) y.1 y.2) (fun N y => ∃ (v : Nat) (π : am_H), y = (Int32.ofInt (v : Int), π) ∧ v ≤ kc ∧ N = kc - v ∧ qf sm_l ρ π ∧ (∀ j, j < 2 * s → π.1 1377 0 j = ρ.1 1377 0 j) ∧ sm_S σ π cnt (en_fo (fun b S => @ite _ (sh_d (sf_fit ws kt x per h) kw p s u b) (Classical.propDecidable _) (sh_F (sf_fit ws kt x per h) kw kt kc l (s + 1) (sh_p p (2 * s) u b) S) S) v S)) _ ?_ kc (Int32.ofInt 0, ρ) ⟨0, ρ, rfl, by omega, by omega, qf.rf, fun j _ => rfl, Z⟩
  rintro N y ⟨v, π, rfl, hv, hN, q, h7, Z'⟩
  obtain ⟨K', M'⟩ := sm_qM q K M
  have K1 := K'.1
  by_cases ce : v < kc
  · right
    generalize hS : en_fo (fun b S => @ite _ (sh_d (sf_fit ws kt x per h) kw p s u b) (Classical.propDecidable _) (sh_F (sf_fit ws kt x per h) kw kt kc l (s + 1) (sh_p p (2 * s) u b) S) S) v S = S1 at Z'
    have eS : en_fo (fun b S => @ite _ (sh_d (sf_fit ws kt x per h) kw p s u b) (Classical.propDecidable _) (sh_F (sf_fit ws kt x per h) kw kt kc l (s + 1) (sh_p p (2 * s) u b) S) S) (v + 1) S = @ite _ (sh_d (sf_fit ws kt x per h) kw p s u v) (Classical.propDecidable _) (sh_F (sf_fit ws kt x per h) kw kt kc l (s + 1) (sh_p p (2 * s) u v) S1) S1 := by
      rw [← hS]
      rfl
    have tu := (tm_teeth hm k10 K' hu).1
    have tv := (tm_teeth hm k10 K' ce).1
    obtain ⟨ok, Mw⟩ := M'.2.2.2.2 (sb_w x s) wv
    have ku := (kk u hu).2
    have kv := (kk v ce).2
    have f1 := pm_offOf ok Mw (by omega) (by omega) (a := kt u) (b := kt v) (by omega) (by omega) (by omega) (by omega)
    have f2 := (pm_o Mw (by omega) (by omega)).2
    have ob := pw_off_r ok (a := kt u) (b := kt v) (by omega) (by omega) (by omega) (by omega)
    have w1 := ok.2.1
    have g1 : 0 ≤ per * ws (sb_w x s) 1 ∧ per * ws (sb_w x s) 1 ≤ 99 * 9999 := ⟨Int.mul_nonneg p0 (by omega), Int.mul_le_mul p1 w1.2 (by omega) (by omega)⟩
    have g2 : 0 ≤ per * ws (sb_w x s) 1 * kt v ∧ per * ws (sb_w x s) 1 * kt v ≤ 99 * 9999 * 200 := ⟨Int.mul_nonneg g1.1 (by omega), Int.mul_le_mul g1.2 kv.2 (by omega) (by omega)⟩
    have g3 : 0 ≤ pw_off (ws (sb_w x s)) (kt u) (kt v) * h ∧ pw_off (ws (sb_w x s)) (kt u) (kt v) * h ≤ 239976000000 * 99999 := ⟨Int.mul_nonneg ob.1 h0, Int.mul_le_mul ob.2 h1 h0 (by omega)⟩
    have i0 : (2 * (s : Int)).toNat = 2 * s := by omega
    have i1 : (2 * (s : Int) + 1).toNat = 2 * s + 1 := by omega
    have skip : ∀ π' : am_H, ¬ sh_d (sf_fit ws kt x per h) kw p s u v → qf sm_l ρ π' → (∀ j, j < 2 * s → π'.1 1377 0 j = ρ.1 1377 0 j) → sm_S σ π' cnt S1 → f_X12_shareFrom_98 (f_X12_shareFrom d) (Int32.ofInt (m : Int)) (Int32.ofInt (sb_r x s : Int)) (Int32.ofInt (2 * (s : Int))) (Int32.ofInt per) (Int32.ofInt h) (Int32.ofInt (sb_w x s : Int)) (Int32.ofInt (u : Int)) (Int32.ofInt (v : Int)) π = some (.inl (Int32.ofInt ((v : Int) + 1), π')) → ∃ (s' : Int32 × am_H) (n' : Nat), f_X12_shareFrom_98 (f_X12_shareFrom d) (Int32.ofInt (m : Int)) (Int32.ofInt (sb_r x s : Int)) (Int32.ofInt (2 * (s : Int))) (Int32.ofInt per) (Int32.ofInt h) (Int32.ofInt (sb_w x s : Int)) (Int32.ofInt (u : Int)) (Int32.ofInt (v : Int)) π = some (.inl s') ∧ n' < N ∧ ∃ (v : Nat) (π : am_H), s' = (Int32.ofInt (v : Int), π) ∧ v ≤ kc ∧ n' = kc - v ∧ qf sm_l ρ π ∧ (∀ j, j < 2 * s → π.1 1377 0 j = ρ.1 1377 0 j) ∧ sm_S σ π cnt (en_fo (fun b S => @ite _ (sh_d (sf_fit ws kt x per h) kw p s u b) (Classical.propDecidable _) (sh_F (sf_fit ws kt x per h) kw kt kc l (s + 1) (sh_p p (2 * s) u b) S) S) v S) := by
      intro π' no q' h7' Z1 f
      refine ⟨_, kc - (v + 1), f, by omega, v + 1, π', rfl, by omega, rfl, q', h7', ?_⟩
      rw [eS, if_neg no]
      exact Z1
    by_cases c : per * ws (sb_w x s) 1 * kt v < pw_off (ws (sb_w x s)) (kt u) (kt v) * h
    · refine skip π (fun d => sm_lt.mp c d.1) q h7 Z' ?_
      simp (disch := omega) only [f_X12_shareFrom_98, K1, tu, tv, f1, f2, Option.bind_some, qi, ql, qI_lt, qI_le, qI_eq, qI_L, qI_ix, qL_lt, qL_eq, q_nat, q_cs, ← Int32.ofInt_add, ← Int32.ofInt_sub, ← Int32.ofInt_mul, ← Int32.ofInt_neg, ← Int64.ofInt_add, ← Int64.ofInt_sub, ← Int64.ofInt_mul, ← Int64.ofInt_neg, pL_I, q_mx, q_mn, q_ab, q_abL, q_mnL, q_nn0, q_nn1, q_rr, q_b1, q_b0, q_T, q_F, q_iT, q_iF, q_d, q_in, q_wi, q_hC, q_hM, pT_i, pU_i, pS_i, pS_j, pS_0, Sum.elim_inl, Sum.elim_inr, if_pos, if_neg]
    · have fi : sf_fit ws kt x per h s u v := by
        show sc_f (ws (sb_w x s)) kt per h u v
        exact Classical.byContradiction (fun z => c (sm_lt.mpr z))
      have Q2 : qf sm_l ρ (am_wI (am_wI π 1377 0 (2 * s) (Int32.ofInt (u : Int))) 1377 0 (2 * s + 1) (Int32.ofInt (v : Int))) := (q.wI rfl).wI rfl
      have P2 : tm_P (am_wI (am_wI π 1377 0 (2 * s) (Int32.ofInt (u : Int))) 1377 0 (2 * s + 1) (Int32.ofInt (v : Int))) kc (2 * s + 2) (sh_p p (2 * s) u v) := by
        intro j hj
        by_cases j0 : j < 2 * s
        · rw [sh_pj j0]
          refine ⟨?_, (P j j0).2⟩
          rw [am_wI_r, if_neg (by omega), am_wI_r, if_neg (by omega), h7 j j0]
          exact (P j j0).1
        · by_cases j1 : j = 2 * s
          · rw [j1, sh_p0]
            refine ⟨?_, hu⟩
            rw [am_wI_r, if_neg (by omega), am_wI_r, if_pos ⟨rfl, rfl, rfl⟩]
          · rw [show j = 2 * s + 1 by omega, sh_p1]
            refine ⟨?_, ce⟩
            rw [am_wI_r, if_pos ⟨rfl, rfl, rfl⟩]
      have S2 : sm_S σ (am_wI (am_wI π 1377 0 (2 * s) (Int32.ofInt (u : Int))) 1377 0 (2 * s + 1) (Int32.ofInt (v : Int))) cnt S1 := by
        obtain ⟨y1, y2, y3⟩ := Z'
        refine ⟨y1, fun e => ⟨(y2 e).1, (y2 e).2.1, fun j => ?_⟩, fun e => ⟨(y3 e).1, (y3 e).2.1, fun j hj => ?_⟩⟩
        · rw [am_wI_r, if_neg (by omega), am_wI_r, if_neg (by omega)]
          exact (y2 e).2.2 j
        · rw [am_wI_r, if_neg (by omega), am_wI_r, if_neg (by omega)]
          exact (y3 e).2.2 j hj
      have H7 : ∀ j, j < 2 * s → (am_wI (am_wI π 1377 0 (2 * s) (Int32.ofInt (u : Int))) 1377 0 (2 * s + 1) (Int32.ofInt (v : Int))).1 1377 0 j = ρ.1 1377 0 j := fun j hj => by
        rw [am_wI_r, if_neg (by omega), am_wI_r, if_neg (by omega)]
        exact h7 j hj
      obtain ⟨K2, M2⟩ := sm_qM Q2 K M
      obtain ⟨hb, a1, a2⟩ := tm_hasAll (M := 2 * s + 2) hm KK K2 (by omega) P2
      have a1' : f_X12_hasAll (Int32.ofInt (m : Int)) (Int32.ofInt (2 * (s : Int) + 2)) (am_wI (am_wI π 1377 0 (2 * s) (Int32.ofInt (u : Int))) 1377 0 (2 * s + 1) (Int32.ofInt (v : Int))) = some hb := a1
      have dk := sh_ok (fit := sf_fit ws kt x per h) (kw := kw) (p := p) (s := s) (a := u) (b := v) (c := kc) (fun j hj => (P j hj).2) hn hu ce
      cases hb with
      | false =>
        refine skip _ (fun dd => ?_) Q2 H7 S2 ?_
        · have := a2.mpr (dk.mp dd).2
          cases this
        · simp (disch := omega) only [f_X12_shareFrom_98, K1, tu, tv, f1, f2, i0, i1, a1', Option.bind_some, qi, ql, qI_lt, qI_le, qI_eq, qI_L, qI_ix, qL_lt, qL_eq, q_nat, q_cs, ← Int32.ofInt_add, ← Int32.ofInt_sub, ← Int32.ofInt_mul, ← Int32.ofInt_neg, ← Int64.ofInt_add, ← Int64.ofInt_sub, ← Int64.ofInt_mul, ← Int64.ofInt_neg, pL_I, q_mx, q_mn, q_ab, q_abL, q_mnL, q_nn0, q_nn1, q_rr, q_b1, q_b0, q_T, q_F, q_iT, q_iF, q_d, q_in, q_wi, q_hC, q_hM, pT_i, pU_i, pS_i, pS_j, pS_0, Sum.elim_inl, Sum.elim_inr, if_pos, if_neg]
      | true =>
        have eok := a2.mp rfl
        have dd := dk.mpr ⟨fi, eok⟩
        have hn2 : ∀ y, y < kc → (en_n (sh_p p (2 * s) u v) (2 * (s + 1)) y : Int) ≤ kw y := by
          intro y hy
          show (en_n (sh_p p (2 * s) u v) (2 * s + 2) y : Int) ≤ kw y
          have d1 := dd.2.1
          have d2 := dd.2.2
          have hny := hn y hy
          rw [sh_n1] at d2
          rw [sh_n]
          by_cases e1 : u = y
          · by_cases e2 : v = y
            · rw [if_pos (by omega)] at d2
              rw [if_pos e1, if_pos e2, ← e2]
              omega
            · rw [if_pos e1, if_neg e2, ← e1]
              omega
          · by_cases e2 : v = y
            · rw [if_neg (by omega)] at d2
              rw [if_neg e1, if_pos e2, ← e2]
              omega
            · rw [if_neg e1, if_neg e2]
              omega
        obtain ⟨τ, f, qt, t7, Zt⟩ := I _ (sh_p p (2 * s) u v) S1 K2 M2 P2 hn2 S2
        rw [show 2 * ((s + 1 : Nat) : Int) = 2 * (s : Int) + 2 by omega] at f
        refine ⟨(Int32.ofInt ((v : Int) + 1), τ), kc - (v + 1), ?_, by omega, v + 1, τ, rfl, by omega, rfl, Q2.tr qt, fun j hj => (t7 j (by omega)).trans (H7 j hj), ?_⟩
        · simp (disch := omega) only [f_X12_shareFrom_98, K1, tu, tv, f1, f2, i0, i1, a1', an', f, Option.bind_some, qi, ql, qI_lt, qI_le, qI_eq, qI_L, qI_ix, qL_lt, qL_eq, q_nat, q_cs, ← Int32.ofInt_add, ← Int32.ofInt_sub, ← Int32.ofInt_mul, ← Int32.ofInt_neg, ← Int64.ofInt_add, ← Int64.ofInt_sub, ← Int64.ofInt_mul, ← Int64.ofInt_neg, pL_I, q_mx, q_mn, q_ab, q_abL, q_mnL, q_nn0, q_nn1, q_rr, q_b1, q_b0, q_T, q_F, q_iT, q_iF, q_d, q_in, q_wi, q_hC, q_hM, pT_i, pU_i, pS_i, pS_j, pS_0, Sum.elim_inl, Sum.elim_inr, if_pos, if_neg]
        · rw [eS, if_pos dd]
          exact Zt
  · left
    have : v = kc := by omega
    subst this
    refine ⟨π, ?_, q, h7, Z'⟩
    simp (disch := omega) only [f_X12_shareFrom_98, K1, Option.bind_some, qi, ql, qI_lt, qI_le, qI_eq, qI_L, qI_ix, qL_lt, qL_eq, q_nat, q_cs, ← Int32.ofInt_add, ← Int32.ofInt_sub, ← Int32.ofInt_mul, ← Int32.ofInt_neg, ← Int64.ofInt_add, ← Int64.ofInt_sub, ← Int64.ofInt_mul, ← Int64.ofInt_neg, pL_I, q_mx, q_mn, q_ab, q_abL, q_mnL, q_nn0, q_nn1, q_rr, q_b1, q_b0, q_T, q_F, q_iT, q_iF, q_d, q_in, q_wi, q_hC, q_hM, pT_i, pU_i, pS_i, pS_j, pS_0, Sum.elim_inl, Sum.elim_inr, if_pos, if_neg]
/-- the reference's search -/
theorem sm_try {σ : am_H} {m kc wc cnt x : Nat} {ws : Nat → Nat → Int} {kw kt : Nat → Int} {z per h : Int} (hm : m < 2) (KK : tn_K kc kw kt) (hx : x < 64) (hxw : x < 2 ^ wc) (ec : cnt = sb_n x 6) (hc : cnt ≤ 3) (p0 : 0 ≤ per) (p1 : per ≤ 99) (h0 : 0 ≤ h) (h1 : h ≤ 99999) : ∀ l s d : Nat, s + l = cnt → l < d → sm_I σ m kc wc cnt x ws kw kt z per h l s d := by
  intro l
  induction l with
  | zero =>
    intro s d hs hd
    obtain ⟨d, rfl⟩ : ∃ d', d = d' + 1 := ⟨d - 1, by omega⟩
    have e : s = cnt := by omega
    rw [e]
    exact sm_leaf hm KK hx ec hc
  | succ l ih =>
    intro s d hs hd
    obtain ⟨d, rfl⟩ : ∃ d', d = d' + 1 := ⟨d - 1, by omega⟩
    have I := ih (s + 1) d (by omega) (by omega)
    intro ρ p S K M P hn Z
    have k10 := KK.1
    have w6 := M.1
    obtain ⟨rn, r64, tz, an⟩ := sb_3 ⟨x, hx⟩ ⟨s, by omega⟩ (by show s < sb_n x 6; omega)
    have rn' : sb_r x s ≠ 0 := rn
    have r64' : sb_r x s < 64 := r64
    have tz' : f_J6_numberOfTrailingZeros_0f7a4 (Int32.ofInt (sb_r x s : Int)) ρ = some (Int32.ofInt (sb_w x s : Int)) := by
      rw [sb_tz]
      exact tz
    have key : ∃ τ : am_H, am_loop (fun y : Int32 × am_H => f_X12_shareFrom_84 (f_X12_shareFrom d) (Int32.ofInt (m : Int)) (Int32.ofInt (sb_r x s : Int)) (Int32.ofInt (2 * (s : Int))) (Int32.ofInt per) (Int32.ofInt h) (Int32.ofInt (sb_w x s : Int)) y.1 y.2) (Int32.ofInt 0, ρ) = some τ ∧ qf sm_l ρ τ ∧ (∀ j, j < 2 * s → τ.1 1377 0 j = ρ.1 1377 0 j) ∧ sm_S σ τ cnt (sh_F (sf_fit ws kt x per h) kw kt kc (l + 1) s p S) := by
      refine am_loop_1 (B := fun y : Int32 × am_H => f_X12_shareFrom_84 (f_X12_shareFrom d) (Int32.ofInt (m : Int)) (Int32.ofInt (sb_r x s : Int)) (Int32.ofInt (2 * (s : Int))) (Int32.ofInt per) (Int32.ofInt h) (Int32.ofInt (sb_w x s : Int)) y.1 y.2) (fun N y => ∃ (u : Nat) (π : am_H), y = (Int32.ofInt (u : Int), π) ∧ u ≤ kc ∧ N = kc - u ∧ qf sm_l ρ π ∧ (∀ j, j < 2 * s → π.1 1377 0 j = ρ.1 1377 0 j) ∧ sm_S σ π cnt (en_fo (fun a S => en_fo (fun b S => @ite _ (sh_d (sf_fit ws kt x per h) kw p s a b) (Classical.propDecidable _) (sh_F (sf_fit ws kt x per h) kw kt kc l (s + 1) (sh_p p (2 * s) a b) S) S) kc S) u S)) _ ?_ kc (Int32.ofInt 0, ρ) ⟨0, ρ, rfl, by omega, by omega, qf.rf, fun j _ => rfl, Z⟩
      rintro N y ⟨u, π, rfl, hu, hN, q, h7, Z'⟩
      obtain ⟨K', M'⟩ := sm_qM q K M
      have K1 := K'.1
      by_cases ce : u < kc
      · right
        obtain ⟨τ, f, qt, t7, Zt⟩ := sm_row hm KK hx hxw ec hc (by omega : s < cnt) p0 p1 h0 h1 ce I K' M' (fun j hj => ⟨by rw [h7 j hj]; exact (P j hj).1, (P j hj).2⟩) hn Z'
        refine ⟨(Int32.ofInt ((u : Int) + 1), τ), kc - (u + 1), ?_, by omega, u + 1, τ, rfl, by omega, rfl, q.tr qt, fun j hj => (t7 j hj).trans (h7 j hj), Zt⟩
        simp (disch := omega) only [f_X12_shareFrom_84, K1, f, Option.bind_some, qi, ql, qI_lt, qI_le, qI_eq, qI_L, qI_ix, qL_lt, qL_eq, q_nat, q_cs, ← Int32.ofInt_add, ← Int32.ofInt_sub, ← Int32.ofInt_mul, ← Int32.ofInt_neg, ← Int64.ofInt_add, ← Int64.ofInt_sub, ← Int64.ofInt_mul, ← Int64.ofInt_neg, pL_I, q_mx, q_mn, q_ab, q_abL, q_mnL, q_nn0, q_nn1, q_rr, q_b1, q_b0, q_T, q_F, q_iT, q_iF, q_d, q_in, q_wi, q_hC, q_hM, pT_i, pU_i, pS_i, pS_j, pS_0, Sum.elim_inl, Sum.elim_inr, if_pos, if_neg]
      · left
        have : u = kc := by omega
        subst this
        refine ⟨π, ?_, q, h7, Z'⟩
        simp (disch := omega) only [f_X12_shareFrom_84, K1, Option.bind_some, qi, ql, qI_lt, qI_le, qI_eq, qI_L, qI_ix, qL_lt, qL_eq, q_nat, q_cs, ← Int32.ofInt_add, ← Int32.ofInt_sub, ← Int32.ofInt_mul, ← Int32.ofInt_neg, ← Int64.ofInt_add, ← Int64.ofInt_sub, ← Int64.ofInt_mul, ← Int64.ofInt_neg, pL_I, q_mx, q_mn, q_ab, q_abL, q_mnL, q_nn0, q_nn1, q_rr, q_b1, q_b0, q_T, q_F, q_iT, q_iF, q_d, q_in, q_wi, q_hC, q_hM, pT_i, pU_i, pS_i, pS_j, pS_0, Sum.elim_inl, Sum.elim_inr, if_pos, if_neg]
    obtain ⟨τ, lp, r⟩ := key
    refine ⟨τ, ?_, r⟩
    show f_X12_shareFrom_0 (f_X12_shareFrom d) (Int32.ofInt (m : Int)) (Int32.ofInt (sb_r x s : Int)) (Int32.ofInt (2 * (s : Int))) (Int32.ofInt per) (Int32.ofInt h) ρ = some τ
    simp (disch := omega) only [f_X12_shareFrom_0, tz', lp, Option.bind_some, qi, ql, qI_lt, qI_le, qI_eq, qI_L, qI_ix, qL_lt, qL_eq, q_nat, q_cs, ← Int32.ofInt_add, ← Int32.ofInt_sub, ← Int32.ofInt_mul, ← Int32.ofInt_neg, ← Int64.ofInt_add, ← Int64.ofInt_sub, ← Int64.ofInt_mul, ← Int64.ofInt_neg, pL_I, q_mx, q_mn, q_ab, q_abL, q_mnL, q_nn0, q_nn1, q_rr, q_b1, q_b0, q_T, q_F, q_iT, q_iF, q_d, q_in, q_wi, q_hC, q_hM, pT_i, pU_i, pS_i, pS_j, pS_0, Sum.elim_inl, Sum.elim_inr, if_pos, if_neg]
