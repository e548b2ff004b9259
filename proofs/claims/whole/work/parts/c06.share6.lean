/-! ===== SHARED: the class finds ===== -/
def sf_fit (ws : Nat → Nat → Int) (kt : Nat → Int) (x : Nat) (per h : Int) (s u v : Nat) : Prop := sc_f (ws (sb_w x s)) kt per h u v
def sf_E (ρ : am_H) (kc n x : Nat) (ws : Nat → Nat → Int) (kt : Nat → Int) (per h : Int) (L : Nat → Int) : Prop := ∀ s, s < n → (0 ≤ L s ∧ L s ≤ 1000000) ∧ ρ.1 807 0 s = Int32.ofInt (L s) ∧ ∀ u v, u < kc → v < kc → (ρ.1 806 0 (100 * s + 10 * u + v) = Int32.ofInt 1 ∧ sf_fit ws kt x per h s u v ∧ L s ≤ kt u + kt v) ∨ (ρ.1 806 0 (100 * s + 10 * u + v) = Int32.ofInt 0 ∧ ¬ sf_fit ws kt x per h s u v)
def sf_l1 : List (Nat × Nat) := [(7, 2), (806, 999), (807, 999)]
theorem sb_nm {x : Nat} : ∀ i k : Nat, sb_n x i ≤ sb_n x (i + k) := by
  intro i k
  induction k with
  | zero => exact Nat.le_refl _
  | succ k ih =>
    show sb_n x i ≤ sb_n x (i + k) + (if x.testBit (i + k) = true then 1 else 0)
    omega
/-- the WAVES of the set, one behind the other -/
theorem sf_prep {σ : am_H} {a kc wc x : Nat} {ws : Nat → Nat → Int} {kw kt : Nat → Int} {zr per h : Int} (ha : a < 3) (hx : x < 64) (hxw : x < 2 ^ wc) (hc : sb_n x 6 ≤ 3) (C : ph_C σ a wc ws zr) (K : tn_K kc kw kt) (b1 : σ.2.2 7 0 0 = some a) (b2 : σ.1 3 a 4 = Int32.ofInt kc) (b3 : ∀ u, u < kc → σ.1 403 a u = Int32.ofInt (kt u)) (e2 : σ.1 7 0 2 = Int32.ofInt 0) (p0 : 0 ≤ per) (p1 : per ≤ 99) (h0 : 0 ≤ h) (h1 : h ≤ 99999) : ∃ (τ : am_H) (L : Nat → Int), am_loop (fun z : Int32 × am_H => f_X7_findShared_14 a (Int32.ofInt (x : Int)) (Int32.ofInt per) (Int32.ofInt h) z.1 z.2) (Int32.ofInt 0, σ) = some τ ∧ qf sf_l1 σ τ ∧ τ.1 7 0 2 = Int32.ofInt (2 * (sb_n x 6 : Int)) ∧ sf_E τ kc (sb_n x 6) x ws kt per h L := by
  have w6 := C.1
  have key : ∃ τ : am_H, am_loop (fun z : Int32 × am_H => f_X7_findShared_14 a (Int32.ofInt (x : Int)) (Int32.ofInt per) (Int32.ofInt h) z.1 z.2) (Int32.ofInt 0, σ) = some τ ∧ ∃ L : Nat → Int, qf sf_l1 σ τ ∧ τ.1 7 0 2 = Int32.ofInt (2 * (sb_n x 6 : Int)) ∧ sf_E τ kc (sb_n x 6) x ws kt per h L := by
    refine am_loop_1 (B := fun z : Int32 × am_H => f_X7_findShared_14 a (Int32.ofInt (x : Int)) (Int32.ofInt per) (Int32.ofInt h) z.1 z.2) (fun N z => ∃ (i : Nat) (ρ : am_H), z = (Int32.ofInt (i : Int), ρ) ∧ i ≤ wc ∧ N = wc - i ∧ ∃ L : Nat → Int, qf sf_l1 σ ρ ∧ ρ.1 7 0 2 = Int32.ofInt (2 * (sb_n x i : Int)) ∧ sf_E ρ kc (sb_n x i) x ws kt per h L) _ ?_ wc (Int32.ofInt 0, σ) ⟨0, σ, rfl, by omega, by omega, fun _ => 0, qf.rf, e2, fun s hs => absurd hs (Nat.not_lt_zero s)⟩
    rintro N z ⟨i, ρ, rfl, hi, hN, L, q, q2, E⟩
    have C' := ph_Cq (q.a (by decide +kernel)) C
    have c1 := C'.2.1
    by_cases ce : i < wc
    · right
      have i6 : i < 6 := by omega
      have B1 : ρ.2.2 7 0 0 = some a := by rw [(q 7 0 0 rfl).2.2]; exact b1
      have B2 : ρ.1 3 a 4 = Int32.ofInt kc := by rw [(q 3 a 4 rfl).1]; exact b2
      have B3 : ∀ u, u < kc → ρ.1 403 a u = Int32.ofInt (kt u) := fun u hu => by rw [(q 403 a u rfl).1]; exact b3 u hu
      have bit : (((Int32.ofInt (x : Int)) >>> ((Int32.ofInt (i : Int)) &&& Int32.ofInt 31)) &&& Int32.ofInt 1) = Int32.ofInt (if x.testBit i = true then 1 else 0) := sb_1 ⟨x, hx⟩ ⟨i, i6⟩
      have nm := sb_nm (x := x) (i + 1) (6 - (i + 1))
      rw [show i + 1 + (6 - (i + 1)) = 6 by omega] at nm
      by_cases tb : x.testBit i = true
      · rw [if_pos tb] at bit
        have n1 : sb_n x (i + 1) = sb_n x i + 1 := by
          show sb_n x i + (if x.testBit i = true then 1 else 0) = _
          rw [if_pos tb]
        have wi : sb_w x (sb_n x i) = i := sb_2 ⟨x, hx⟩ ⟨i, i6⟩ tb
        obtain ⟨ok, Cw⟩ := C'.2.2.2.2 i ce
        obtain ⟨τ, f, qn, L', Lb, l7, l7', l6', ent⟩ := sc_note (s := sb_n x i) ha (by omega) ok Cw K B1 B2 B3 q2 p0 p1 h0 h1
        have t2 : τ.1 7 0 2 = Int32.ofInt (2 * (sb_n x i : Int)) := by rw [(qn 7 0 2 rfl).1]; exact q2
        refine ⟨(Int32.ofInt ((i : Int) + 1), am_wI τ 7 0 2 (Int32.ofInt (2 * (sb_n x i : Int) + 2))), wc - (i + 1), ?_, by omega, i + 1, _, rfl, by omega, rfl, fun t => if t = sb_n x i then L' else L t, (q.tr (qn.mo (by decide +kernel))).wI rfl, ?_, ?_⟩
        · simp (disch := omega) only [f_X7_findShared_14, c1, bit, q2, f, t2, Option.bind_some, qi, ql, qI_lt, qI_le, qI_eq, qI_L, qI_ix, qL_lt, qL_eq, q_nat, q_cs, ← Int32.ofInt_add, ← Int32.ofInt_sub, ← Int32.ofInt_mul, ← Int32.ofInt_neg, ← Int64.ofInt_add, ← Int64.ofInt_sub, ← Int64.ofInt_mul, ← Int64.ofInt_neg, pL_I, q_mx, q_mn, q_ab, q_abL, q_mnL, q_nn0, q_nn1, q_rr, q_b1, q_b0, q_T, q_F, q_iT, q_iF, q_d, q_in, q_wi, q_hC, q_hM, pT_i, pU_i, pS_i, pS_j, pS_0, Sum.elim_inl, Sum.elim_inr, if_pos, if_neg]
        · rw [n1, show 2 * ((sb_n x i + 1 : Nat) : Int) = 2 * (sb_n x i : Int) + 2 by omega]
          rfl
        · intro s hs
          rw [n1] at hs
          have r7 : (am_wI τ 7 0 2 (Int32.ofInt (2 * (sb_n x i : Int) + 2))).1 807 0 s = τ.1 807 0 s := rfl
          have r6 : ∀ j, (am_wI τ 7 0 2 (Int32.ofInt (2 * (sb_n x i : Int) + 2))).1 806 0 j = τ.1 806 0 j := fun j => rfl
          rw [r7]
          by_cases e : s = sb_n x i
          · have eL : (fun t => if t = sb_n x i then L' else L t) s = L' := if_pos e
            rw [eL, e]
            refine ⟨Lb, l7, fun u v hu hv => ?_⟩
            rw [r6]
            have en := ent u v hu hv trivial
            unfold sf_fit
            rw [wi]
            exact en
          · have eL : (fun t => if t = sb_n x i then L' else L t) s = L s := if_neg e
            obtain ⟨E1, E2, E3⟩ := E s (by omega)
            rw [eL]
            refine ⟨E1, by rw [l7' s e]; exact E2, fun u v hu hv => ?_⟩
            have k10 := K.1
            rw [r6, l6' (100 * s + 10 * u + v) (by omega)]
            exact E3 u v hu hv
      · rw [if_neg tb] at bit
        have n1 : sb_n x (i + 1) = sb_n x i := by
          show sb_n x i + (if x.testBit i = true then 1 else 0) = _
          rw [if_neg tb]
          rfl
        refine ⟨(Int32.ofInt ((i : Int) + 1), ρ), wc - (i + 1), ?_, by omega, i + 1, ρ, rfl, by omega, rfl, L, q, by rw [n1]; exact q2, by rw [n1]; exact E⟩
        simp (disch := omega) only [f_X7_findShared_14, c1, bit, Option.bind_some, qi, ql, qI_lt, qI_le, qI_eq, qI_L, qI_ix, qL_lt, qL_eq, q_nat, q_cs, ← Int32.ofInt_add, ← Int32.ofInt_sub, ← Int32.ofInt_mul, ← Int32.ofInt_neg, ← Int64.ofInt_add, ← Int64.ofInt_sub, ← Int64.ofInt_mul, ← Int64.ofInt_neg, pL_I, q_mx, q_mn, q_ab, q_abL, q_mnL, q_nn0, q_nn1, q_rr, q_b1, q_b0, q_T, q_F, q_iT, q_iF, q_d, q_in, q_wi, q_hC, q_hM, pT_i, pU_i, pS_i, pS_j, pS_0, Sum.elim_inl, Sum.elim_inr, if_pos, if_neg]
    · left
      have ei : i = wc := by omega
      have n6 : sb_n x i = sb_n x 6 := by
        rw [ei]
        exact sb_5 ⟨x, hx⟩ ⟨wc, by omega⟩ hxw
      refine ⟨ρ, ?_, L, q, by rw [← n6]; exact q2, by rw [← n6]; exact E⟩
      simp (disch := omega) only [f_X7_findShared_14, c1, Option.bind_some, qi, ql, qI_lt, qI_le, qI_eq, qI_L, qI_ix, qL_lt, qL_eq, q_nat, q_cs, ← Int32.ofInt_add, ← Int32.ofInt_sub, ← Int32.ofInt_mul, ← Int32.ofInt_neg, ← Int64.ofInt_add, ← Int64.ofInt_sub, ← Int64.ofInt_mul, ← Int64.ofInt_neg, pL_I, q_mx, q_mn, q_ab, q_abL, q_mnL, q_nn0, q_nn1, q_rr, q_b1, q_b0, q_T, q_F, q_iT, q_iF, q_d, q_in, q_wi, q_hC, q_hM, pT_i, pU_i, pS_i, pS_j, pS_0, Sum.elim_inl, Sum.elim_inr, if_pos, if_neg]
  obtain ⟨τ, f, L, r⟩ := key
  exact ⟨τ, L, f, r⟩
theorem sl_1 {L : Nat → Int} {cnt s : Nat} (hs : s < cnt) : sl L cnt (cnt - s) ≤ L s + sl L cnt (cnt - (s + 1)) := by
  rw [show cnt - s = (cnt - (s + 1)) + 1 by omega]
  show min 1000000 (L (cnt - ((cnt - (s + 1)) + 1)) + sl L cnt (cnt - (s + 1))) ≤ _
  rw [show cnt - ((cnt - (s + 1)) + 1) = s by omega]
  omega
/-- what is found is kept -/
theorem sf_copy {σ : am_H} {M : Nat} (hM : M ≤ 6) (e2 : σ.1 7 0 2 = Int32.ofInt M) : ∃ τ : am_H, am_loop (fun z : Int32 × am_H => f_X7_findShared_101 z.1 z.2) (Int32.ofInt 0, σ) = some τ ∧ qf [(813, 999)] σ τ ∧ ∀ j, j < M → τ.1 813 0 j = σ.1 805 0 j := by
  refine am_loop_1 (B := fun z : Int32 × am_H => f_X7_findShared_101 z.1 z.2) (fun N z => ∃ (i : Nat) (ρ : am_H), z = (Int32.ofInt (i : Int), ρ) ∧ i ≤ M ∧ N = M - i ∧ qf [(813, 999)] σ ρ ∧ ∀ j, j < i → ρ.1 813 0 j = σ.1 805 0 j) _ ?_ M (Int32.ofInt 0, σ) ⟨0, σ, rfl, by omega, by omega, qf.rf, fun j hj => absurd hj (Nat.not_lt_zero j)⟩
  rintro N z ⟨i, ρ, rfl, hi, hN, q, u⟩
  have e2' : ρ.1 7 0 2 = Int32.ofInt M := by rw [(q 7 0 2 rfl).1]; exact e2
  by_cases ce : i < M
  · right
    refine ⟨(Int32.ofInt ((i : Int) + 1), am_wI ρ 813 0 i (ρ.1 805 0 i)), M - (i + 1), ?_, by omega, i + 1, _, rfl, by omega, rfl, q.wI rfl, fun j hj => ?_⟩
    · simp (disch := omega) only [f_X7_findShared_101, e2', Option.bind_some, qi, ql, qI_lt, qI_le, qI_eq, qI_L, qI_ix, qL_lt, qL_eq, q_nat, q_cs, ← Int32.ofInt_add, ← Int32.ofInt_sub, ← Int32.ofInt_mul, ← Int32.ofInt_neg, ← Int64.ofInt_add, ← Int64.ofInt_sub, ← Int64.ofInt_mul, ← Int64.ofInt_neg, pL_I, q_mx, q_mn, q_ab, q_abL, q_mnL, q_nn0, q_nn1, q_rr, q_b1, q_b0, q_T, q_F, q_iT, q_iF, q_d, q_in, q_wi, q_hC, q_hM, pT_i, pU_i, pS_i, pS_j, pS_0, Sum.elim_inl, Sum.elim_inr, if_pos, if_neg]
    · rw [am_wI_r]
      by_cases e : j = i
      · rw [if_pos ⟨rfl, rfl, e⟩, e, (q 805 0 i rfl).1]
      · rw [if_neg (by omega)]
        exact u j (by omega)
  · left
    refine ⟨ρ, ?_, q, fun j hj => u j (by omega)⟩
    simp (disch := omega) only [f_X7_findShared_101, e2', Option.bind_some, qi, ql, qI_lt, qI_le, qI_eq, qI_L, qI_ix, qL_lt, qL_eq, q_nat, q_cs, ← Int32.ofInt_add, ← Int32.ofInt_sub, ← Int32.ofInt_mul, ← Int32.ofInt_neg, ← Int64.ofInt_add, ← Int64.ofInt_sub, ← Int64.ofInt_mul, ← Int64.ofInt_neg, pL_I, q_mx, q_mn, q_ab, q_abL, q_mnL, q_nn0, q_nn1, q_rr, q_b1, q_b0, q_T, q_F, q_iT, q_iF, q_d, q_in, q_wi, q_hC, q_hM, pT_i, pU_i, pS_i, pS_j, pS_0, Sum.elim_inl, Sum.elim_inr, if_pos, if_neg]
def sf_l0 : List (Nat × Nat) := [(7, 0), (7, 2), (7, 8), (803, 999), (804, 999), (805, 999), (806, 999), (807, 999)]
def sf_l : List (Nat × Nat) := [(7, 0), (7, 2), (7, 8), (803, 999), (804, 999), (805, 999), (806, 999), (807, 999), (813, 999), (7, 14)]
theorem sf_find {σ : am_H} {a kc wc x : Nat} {ws : Nat → Nat → Int} {kw kt : Nat → Int} {zr per h : Int} (ha : a < 3) (hx : x < 64) (hxw : x < 2 ^ wc) (hc : sb_n x 6 ≤ 3) (C : ph_C σ a wc ws zr) (K : tn_K kc kw kt) (b2 : σ.1 3 a 4 = Int32.ofInt kc) (b3 : ∀ u, u < kc → σ.1 402 a u = Int32.ofInt (kw u) ∧ σ.1 403 a u = Int32.ofInt (kt u)) (p0 : 0 ≤ per) (p1 : per ≤ 99) (h0 : 0 ≤ h) (h1 : h ≤ 99999) : ∃ (b : Bool) (τ : am_H) (S : Int × (Nat → Int)), f_X7_findShared a (Int32.ofInt (x : Int)) (Int32.ofInt per) (Int32.ofInt h) σ = some (b, τ) ∧ S = sh_F (sf_fit ws kt x per h) kw kt kc (sb_n x 6) 0 (fun _ => 0) (1000000, fun _ => 0) ∧ ((S.1 = 1000000 ∧ b = false ∧ qf sf_l0 σ τ) ∨ (S.1 ≠ 1000000 ∧ (0 ≤ S.1 ∧ S.1 ≤ 1000000) ∧ b = true ∧ qf sf_l σ τ ∧ τ.1 7 0 8 = Int32.ofInt S.1 ∧ τ.1 7 0 14 = Int32.ofInt (2 * (sb_n x 6 : Int)) ∧ ∀ j, j < 2 * sb_n x 6 → τ.1 813 0 j = Int32.ofInt (S.2 j))) := by
  obtain ⟨k10, kk⟩ := K
  obtain ⟨τ1, f1, q1, r1, x1⟩ := tn_box (kw := kw) k10 b2 (fun u hu => ⟨(b3 u hu).1, (kk u hu).1.1, (kk u hu).1.2⟩)
  have q1' : qf sf_l0 σ (am_wI τ1 7 0 2 (Int32.ofInt 0)) := (q1.mo (by decide +kernel)).wI rfl
  have C1 := ph_Cq (q1'.a (by decide +kernel)) C
  obtain ⟨τ2, L, f2, q2, e2, E⟩ := sf_prep ha hx hxw hc C1 ⟨k10, kk⟩ (show (am_wI τ1 7 0 2 (Int32.ofInt 0)).2.2 7 0 0 = some a from r1) (by rw [(q1' 3 a 4 rfl).1]; exact b2) (fun u hu => by rw [(q1' 403 a u rfl).1]; exact (b3 u hu).2) rfl p0 p1 h0 h1
  have q2' : qf sf_l0 σ (am_wI τ2 7 0 8 (Int32.ofInt 1000000)) := (q1'.tr (q2.mo (by decide +kernel))).wI rfl
  obtain ⟨τ3, f3, q3, s7⟩ := sc_sum (σ := am_wI τ2 7 0 8 (Int32.ofInt 1000000)) (L := L) hc (show (am_wI τ2 7 0 8 (Int32.ofInt 1000000)).1 7 0 2 = _ from e2) (fun s hs => ⟨(E s hs).2.1, (E s hs).1.1, (E s hs).1.2⟩)
  have q3' : qf sf_l0 σ τ3 := q2'.tr (q3.mo (by decide +kernel))
  have sb := sl_b (L := L) (cnt := sb_n x 6) (fun s hs => (E s hs).1.1)
  have hLB : ∀ s, s ≤ sb_n x 6 → 0 ≤ (fun s => sl L (sb_n x 6) (sb_n x 6 - s)) s ∧ (fun s => sl L (sb_n x 6) (sb_n x 6 - s)) s ≤ 1000000 := fun s hs => sb (sb_n x 6 - s) (by omega)
  have B : sc_B τ3 a kc (sb_n x 6) kt (sf_fit ws kt x per h) (fun s => sl L (sb_n x 6) (sb_n x 6 - s)) := by
    refine ⟨?_, by rw [(q3' 3 a 4 rfl).1]; exact b2, fun u hu => by rw [(q3' 403 a u rfl).1]; exact (b3 u hu).2, ?_, fun s u v hs hu hv => ?_, s7⟩
    · rw [(q3 7 0 0 rfl).2.2]
      show τ2.2.2 7 0 0 = some a
      rw [(q2 7 0 0 rfl).2.2]
      exact r1
    · rw [(q3 7 0 2 rfl).1]
      exact e2
    · have r6 : τ3.1 806 0 (100 * s + 10 * u + v) = τ2.1 806 0 (100 * s + 10 * u + v) := (q3 806 0 (100 * s + 10 * u + v) rfl).1
      rw [r6]
      rcases (E s hs).2.2 u v hu hv with ⟨t1, t2, -⟩ | t
      · exact Or.inl ⟨t1, t2⟩
      · exact Or.inr t
  have X : sc_X τ3 kc (2 * 0) kw (fun _ => 0) := by
    intro u hu
    have e0 : kw u - ((en_n (fun _ => 0) (2 * 0) u : Nat) : Int) = kw u := by
      show kw u - ((0 : Nat) : Int) = kw u
      omega
    have ku := (kk u hu).1.1
    refine ⟨?_, ku⟩
    rw [e0, (q3 803 0 u rfl).1]
    show τ2.1 803 0 u = _
    rw [(q2 803 0 u rfl).1]
    exact x1 u hu
  have Z : sc_S τ3 (sb_n x 6) (1000000, fun _ => 0) := by
    refine ⟨?_, ⟨by show (0 : Int) ≤ 1000000; omega, by show (1000000 : Int) ≤ 1000000; omega⟩, fun z => absurd rfl z⟩
    rw [(q3 7 0 8 rfl).1]
    rfl
  obtain ⟨τ4, f4, q4, h3, h4, Z4⟩ := sc_try (LB := fun s => sl L (sb_n x 6) (sb_n x 6 - s)) (fit := sf_fit ws kt x per h) ha hc ⟨k10, kk⟩ hLB (sb_n x 6) 0 8 (by omega) (by omega) τ3 (fun _ => 0) (1000000, fun _ => 0) B X (fun j hj => absurd hj (Nat.not_lt_zero j)) Z
  have f4' : f_X7_tryCouple 8 (Int32.ofInt 0) (Int32.ofInt 0) τ3 = some τ4 := f4
  rw [sh_GF (by show sl L (sb_n x 6) (sb_n x 6 - sb_n x 6) = 0; rw [Nat.sub_self]; rfl) (fun s hs u v hu hv hf => by
    show sl L (sb_n x 6) (sb_n x 6 - s) ≤ kt u + kt v + sl L (sb_n x 6) (sb_n x 6 - (s + 1))
    have h1 := sl_1 (L := L) hs
    rcases (E s hs).2.2 u v hu hv with ⟨-, -, t⟩ | ⟨-, t⟩
    · omega
    · exact absurd hf t) (sb_n x 6) 0 (fun _ => 0) (1000000, fun _ => 0) (by omega) (fun _ => by show (0 : Int) < 1000000; omega)] at Z4
  have q4' : qf sf_l0 σ τ4 := q3'.tr (q4.mo (by decide +kernel))
  generalize hS : sh_F (sf_fit ws kt x per h) kw kt kc (sb_n x 6) 0 (fun _ => 0) (1000000, fun _ => 0) = S at Z4
  obtain ⟨z8, zb, z5⟩ := Z4
  by_cases c : S.1 = 1000000
  · refine ⟨false, τ4, S, ?_, rfl, Or.inl ⟨c, rfl, q4'⟩⟩
    rw [c] at z8
    simp (disch := omega) only [f_X7_findShared, f1, f2, f3, f4', z8, Option.bind_some, qi, ql, qI_lt, qI_le, qI_eq, qI_L, qI_ix, qL_lt, qL_eq, q_nat, q_cs, ← Int32.ofInt_add, ← Int32.ofInt_sub, ← Int32.ofInt_mul, ← Int32.ofInt_neg, ← Int64.ofInt_add, ← Int64.ofInt_sub, ← Int64.ofInt_mul, ← Int64.ofInt_neg, pL_I, q_mx, q_mn, q_ab, q_abL, q_mnL, q_nn0, q_nn1, q_rr, q_b1, q_b0, q_T, q_F, q_iT, q_iF, q_d, q_in, q_wi, q_hC, q_hM, pT_i, pU_i, pS_i, pS_j, pS_0, Sum.elim_inl, Sum.elim_inr, if_pos, if_neg]
  · have e4 : τ4.1 7 0 2 = Int32.ofInt ((2 * sb_n x 6 : Nat) : Int) := by
      rw [(q4 7 0 2 rfl).1]
      exact B.2.2.2.1
    obtain ⟨τ5, f5, q5, u5⟩ := sf_copy (M := 2 * sb_n x 6) (by omega) e4
    have e5 : τ5.1 7 0 2 = Int32.ofInt (2 * (sb_n x 6 : Int)) := by rw [(q5 7 0 2 rfl).1]; exact e4
    refine ⟨true, am_wI τ5 7 0 14 (Int32.ofInt (2 * (sb_n x 6 : Int))), S, ?_, rfl, Or.inr ⟨c, zb, rfl, ((q4'.mo (by decide +kernel)).tr (q5.mo (by decide +kernel))).wI rfl, ?_, rfl, fun j hj => ?_⟩⟩
    · simp (disch := omega) only [f_X7_findShared, f1, f2, f3, f4', z8, f5, e5, Option.bind_some, qi, ql, qI_lt, qI_le, qI_eq, qI_L, qI_ix, qL_lt, qL_eq, q_nat, q_cs, ← Int32.ofInt_add, ← Int32.ofInt_sub, ← Int32.ofInt_mul, ← Int32.ofInt_neg, ← Int64.ofInt_add, ← Int64.ofInt_sub, ← Int64.ofInt_mul, ← Int64.ofInt_neg, pL_I, q_mx, q_mn, q_ab, q_abL, q_mnL, q_nn0, q_nn1, q_rr, q_b1, q_b0, q_T, q_F, q_iT, q_iF, q_d, q_in, q_wi, q_hC, q_hM, pT_i, pU_i, pS_i, pS_j, pS_0, Sum.elim_inl, Sum.elim_inr, if_pos, if_neg]
    · show τ5.1 7 0 8 = _
      rw [(q5 7 0 8 rfl).1]
      exact z8
    · show τ5.1 813 0 j = _
      rw [u5 j hj]
      exact z5 c j hj
