/-! ===== SHARED: what fits, and the least that is wanted ===== -/
theorem pw_Cq {σ τ : am_H} {r : Nat} {w : Nat → Int} (h : qa (pr_fC 4) σ τ) (C : pw_C σ r w) : pw_C τ r w := by
  unfold pw_C at C ⊢
  rw [h.I (k := 10) (fun j => rfl), h.L (k := 10) (fun j => rfl), h.I (k := 1106) (fun j => rfl)]
  exact C
/-- a couple holds its WAVE -/
def sc_f (w kt : Nat → Int) (per h : Int) (x y : Nat) : Prop := ¬ per * (kt y * w 1) < pw_off w (kt x) (kt y) * h
def sn_l : List (Nat × Nat) := [(806, 999), (807, 999)]
def sn_V (σ ρ : am_H) (kc s : Nat) (w kt : Nat → Int) (per h : Int) (D : Nat → Nat → Prop) : Prop := qf sn_l σ ρ ∧ ∃ L : Int, (0 ≤ L ∧ L ≤ 1000000) ∧ ρ.1 807 0 s = Int32.ofInt L ∧ (∀ s', s' ≠ s → ρ.1 807 0 s' = σ.1 807 0 s') ∧ (∀ j, (j < 100 * s ∨ 100 * s + 100 ≤ j) → ρ.1 806 0 j = σ.1 806 0 j) ∧ ∀ x y, x < kc → y < kc → D x y → (ρ.1 806 0 (100 * s + 10 * x + y) = Int32.ofInt 1 ∧ sc_f w kt per h x y ∧ L ≤ kt x + kt y) ∨ (ρ.1 806 0 (100 * s + 10 * x + y) = Int32.ofInt 0 ∧ ¬ sc_f w kt per h x y)
theorem sn_Vm {σ ρ : am_H} {kc s : Nat} {w kt : Nat → Int} {per h : Int} {D D' : Nat → Nat → Prop} (V : sn_V σ ρ kc s w kt per h D) (hD : ∀ x y, x < kc → y < kc → D' x y → D x y) : sn_V σ ρ kc s w kt per h D' := by
  obtain ⟨q, L, h1, h2, h3, h4, h5⟩ := V
  exact ⟨q, L, h1, h2, h3, h4, fun x y hx hy d => h5 x y hx hy (hD x y hx hy d)⟩
theorem sn_end {ρ : am_H} {a kc r s x y : Nat} {per h : Int} (rr : am_rr 3 (ρ.2.2 7 0 0) = some a) (B2 : ρ.1 3 a 4 = Int32.ofInt kc) (hy : y ≤ kc) (k10 : kc ≤ 10) (ce : ¬ y < kc) : f_X7_noteFitting_35 r (Int32.ofInt per) (Int32.ofInt h) (Int32.ofInt (s : Int)) (Int32.ofInt (x : Int)) (Int32.ofInt (y : Int)) ρ = some (.inr ρ) := by
  unfold f_X7_noteFitting_35
  rw [rr, Option.bind_some, B2, if_neg (by rw [qI_lt (by omega) (by omega) (by omega) (by omega)]; omega)]
theorem sn_step {ρ : am_H} {a kc r s x y : Nat} {per h kx ky o1 o2 L : Int} (rr : am_rr 3 (ρ.2.2 7 0 0) = some a) (B2 : ρ.1 3 a 4 = Int32.ofInt kc) (k10 : kc ≤ 10) (hs : s < 3) (hx : x < kc) (ce : y < kc) (kxb : 5 ≤ kx ∧ kx ≤ 200) (kyb : 5 ≤ ky ∧ ky ≤ 200) (pb : 0 ≤ per ∧ per ≤ 99) (Lb : 0 ≤ L ∧ L ≤ 1000000) (Bx : ρ.1 403 a x = Int32.ofInt kx) (By : ρ.1 403 a y = Int32.ofInt ky) (l7 : ρ.1 807 0 s = Int32.ofInt L) (f1 : f_X10_offTop r (Int64.ofInt kx) (Int64.ofInt ky) (Int32.ofInt h) ρ = some (Int64.ofInt o1)) (f2 : f_X10_offBottom r (Int64.ofInt ky) ρ = some (Int64.ofInt o2)) (g2 : 0 ≤ per * o2 ∧ per * o2 ≤ 197980200) (g3 : 0 ≤ o1 ∧ o1 ≤ 23997360024000000) : f_X7_noteFitting_35 r (Int32.ofInt per) (Int32.ofInt h) (Int32.ofInt (s : Int)) (Int32.ofInt (x : Int)) (Int32.ofInt (y : Int)) ρ = some (.inl (Int32.ofInt ((y : Int) + 1), if per * o2 < o1 then am_wI ρ 806 0 (100 * s + 10 * x + y) (Int32.ofInt 0) else am_wI (am_wI ρ 806 0 (100 * s + 10 * x + y) (Int32.ofInt 1)) 807 0 s (Int32.ofInt (min L (kx + ky))))) := by
  have i6 : (((s : Int) * 100 + (x : Int) * 10) + (y : Int)).toNat = 100 * s + 10 * x + y := by omega
  have m7 : (am_wI ρ 806 0 (100 * s + 10 * x + y) (Int32.ofInt 1)).1 807 0 s = Int32.ofInt L := l7
  have r7 : am_rr 3 ((am_wI ρ 806 0 (100 * s + 10 * x + y) (Int32.ofInt 1)).2.2 7 0 0) = some a := rr
  have x7 : (am_wI ρ 806 0 (100 * s + 10 * x + y) (Int32.ofInt 1)).1 403 a x = Int32.ofInt kx := Bx
  have jx : am_ix 10 (Int32.ofInt (x : Int)) = some x := by rw [qI_ix (by omega) (by omega) (by omega), q_nat]
  have jy : am_ix 10 (Int32.ofInt (y : Int)) = some y := by rw [qI_ix (by omega) (by omega) (by omega), q_nat]
  have js : am_ix 4 (Int32.ofInt (s : Int)) = some s := by rw [qI_ix (by omega) (by omega) (by omega), q_nat]
  have tx : (Int32.ofInt kx).toInt64 = Int64.ofInt kx := qI_L (by omega) (by omega)
  have ty : (Int32.ofInt ky).toInt64 = Int64.ofInt ky := qI_L (by omega) (by omega)
  have tp : (Int32.ofInt per).toInt64 = Int64.ofInt per := qI_L (by omega) (by omega)
  have cl : Int32.ofInt (y : Int) < Int32.ofInt (kc : Int) := by rw [qI_lt (by omega) (by omega) (by omega) (by omega)]; omega
  have y1 : Int32.ofInt (y : Int) + 1 = Int32.ofInt ((y : Int) + 1) := by rw [show (1 : Int32) = Int32.ofInt 1 from qi 1, ← Int32.ofInt_add]
  have j6 : am_ix 300 (Int32.ofInt (s : Int) * 100 + Int32.ofInt (x : Int) * 10 + Int32.ofInt (y : Int)) = some (100 * s + 10 * x + y) := by
    rw [show (100 : Int32) = Int32.ofInt 100 from qi 100, show (10 : Int32) = Int32.ofInt 10 from qi 10, ← Int32.ofInt_mul, ← Int32.ofInt_mul, ← Int32.ofInt_add, ← Int32.ofInt_add, qI_ix (by omega) (by omega) (by omega)]
    exact congrArg some i6
  have cf : (Int64.ofInt (per * o2) < Int64.ofInt o1) = (per * o2 < o1) := qL_lt (by omega) (by omega) (by omega) (by omega)
  unfold f_X7_noteFitting_35
  rw [rr, Option.bind_some, B2, if_pos cl]
  rw [Option.bind_some, jy, Option.bind_some, Option.bind_some, jx, Option.bind_some, Bx, By, tx, ty, f1, Option.bind_some, f2, Option.bind_some, tp, ← Int64.ofInt_mul]
  by_cases c : per * o2 < o1
  · rw [if_pos (cf.mpr c), if_pos c]
    unfold f_X7_noteFitting_97
    rw [j6, Option.bind_some, Option.bind_some, if_neg (by decide), q_b0, y1]
  · rw [if_neg (fun z => c (cf.mp z)), if_neg c]
    unfold f_X7_noteFitting_97
    rw [j6, Option.bind_some, Option.bind_some, if_pos rfl, js, Option.bind_some, q_b1, r7, Option.bind_some, jx, Option.bind_some, Option.bind_some, m7, x7, ← Int32.ofInt_add, q_mn (by omega) (by omega) (by omega) (by omega), Option.bind_some, y1]
theorem sc_row {σ : am_H} {a kc r s : Nat} {w kw kt : Nat → Int} {per h : Int} (ha : a < 3) (hs : s < 3) (ok : pw_ok w) (C : pw_C σ r w) (K : tn_K kc kw kt) (b1 : σ.2.2 7 0 0 = some a) (b2 : σ.1 3 a 4 = Int32.ofInt kc) (b3 : ∀ x, x < kc → σ.1 403 a x = Int32.ofInt (kt x)) (e2 : σ.1 7 0 2 = Int32.ofInt (2 * (s : Int))) (p0 : 0 ≤ per) (p1 : per ≤ 99) (h0 : 0 ≤ h) (h1 : h ≤ 99999) : ∀ (x : Nat) (ρ0 : am_H), x < kc → sn_V σ ρ0 kc s w kt per h (fun x' y' => x' < x) → ∃ τ : am_H, am_loop (fun z : Int32 × am_H => f_X7_noteFitting_35 r (Int32.ofInt per) (Int32.ofInt h) (Int32.ofInt (s : Int)) (Int32.ofInt (x : Int)) z.1 z.2) (Int32.ofInt 0, ρ0) = some τ ∧ sn_V σ τ kc s w kt per h (fun x' y' => x' < x + 1) := by
  obtain ⟨k10, kk⟩ := K
  intro x ρ0 hx V0
  obtain ⟨τ, k1, k2⟩ := am_loop_1 (B := fun z : Int32 × am_H => f_X7_noteFitting_35 r (Int32.ofInt per) (Int32.ofInt h) (Int32.ofInt (s : Int)) (Int32.ofInt (x : Int)) z.1 z.2) (fun N z => ∃ (y : Nat) (ρ : am_H), z = (Int32.ofInt (y : Int), ρ) ∧ y ≤ kc ∧ sn_V σ ρ kc s w kt per h (fun x' y' => x' < x ∨ (x' = x ∧ y' < y)) ∧ N = kc - y) (fun τ => sn_V σ τ kc s w kt per h (fun x' y' => x' < x + 1)) (by
    rintro N z ⟨y, ρ, rfl, hy, V, rfl⟩
    obtain ⟨q, L, Lb, l7, l7', l6', ent⟩ := V
    have B1 : ρ.2.2 7 0 0 = some a := by rw [(q 7 0 0 rfl).2.2]; exact b1
    have B2 : ρ.1 3 a 4 = Int32.ofInt kc := by rw [(q 3 a 4 rfl).1]; exact b2
    have rr : am_rr 3 (ρ.2.2 7 0 0) = some a := by rw [B1]; exact q_rr ha
    by_cases ce : y < kc
    · right
      have kx := kk x hx
      have ky := kk y ce
      have Bx : ρ.1 403 a x = Int32.ofInt (kt x) := by rw [(q 403 a x rfl).1]; exact b3 x hx
      have By : ρ.1 403 a y = Int32.ofInt (kt y) := by rw [(q 403 a y rfl).1]; exact b3 y ce
      have C' : pw_C ρ r w := pw_Cq (q.a (by decide +kernel)) C
      have f1 := pw_offTop ok C' (a := kt x) (b := kt y) (h := h) (by omega) (by omega) (by omega) (by omega) h0 h1
      have f2 := pw_offBottom ok C' (b := kt y)
      have ob := pw_off_r ok (a := kt x) (b := kt y) (by omega) (by omega) (by omega) (by omega)
      have w1 := ok.2.1
      have g1 : 0 ≤ kt y * w 1 ∧ kt y * w 1 ≤ 200 * 9999 := ⟨Int.mul_nonneg (by omega) (by omega), Int.mul_le_mul (by omega) w1.2 (by omega) (by omega)⟩
      have g2 : 0 ≤ per * (kt y * w 1) ∧ per * (kt y * w 1) ≤ 99 * (200 * 9999) := ⟨Int.mul_nonneg p0 g1.1, Int.mul_le_mul p1 g1.2 g1.1 (by omega)⟩
      have g3 : 0 ≤ pw_off w (kt x) (kt y) * h ∧ pw_off w (kt x) (kt y) * h ≤ 239976000000 * 99999 := ⟨Int.mul_nonneg ob.1 h0, Int.mul_le_mul ob.2 h1 h0 (by omega)⟩
      have st := sn_step (s := s) (h := h) rr B2 k10 hs hx ce kx.2 ky.2 ⟨p0, p1⟩ Lb Bx By l7 f1 f2 (by omega) (by omega)
      by_cases c : per * (kt y * w 1) < pw_off w (kt x) (kt y) * h
      · refine ⟨(Int32.ofInt ((y : Int) + 1), am_wI ρ 806 0 (100 * s + 10 * x + y) (Int32.ofInt 0)), kc - (y + 1), ?_, by omega, y + 1, _, rfl, by omega, ⟨q.wI rfl, L, Lb, l7, l7', fun j hj => ?_, fun x' y' hx' hy' hD => ?_⟩, rfl⟩
        · rw [if_pos c] at st
          exact st
        · rw [am_wI_r, if_neg (by omega)]
          exact l6' j hj
        · rw [am_wI_r]
          by_cases e : x' = x ∧ y' = y
          · rw [if_pos ⟨rfl, rfl, by omega⟩, e.1, e.2]
            exact Or.inr ⟨rfl, fun z => z c⟩
          · rw [if_neg (by omega)]
            exact ent x' y' hx' hy' (by omega)
      · have mb : 0 ≤ min L (kt x + kt y) ∧ min L (kt x + kt y) ≤ 1000000 := by omega
        refine ⟨(Int32.ofInt ((y : Int) + 1), am_wI (am_wI ρ 806 0 (100 * s + 10 * x + y) (Int32.ofInt 1)) 807 0 s (Int32.ofInt (min L (kt x + kt y)))), kc - (y + 1), ?_, by omega, y + 1, _, rfl, by omega, ⟨(q.wI rfl).wI rfl, min L (kt x + kt y), mb, ?_, fun s' hs' => ?_, fun j hj => ?_, fun x' y' hx' hy' hD => ?_⟩, rfl⟩
        · rw [if_neg c] at st
          exact st
        · rw [am_wI_r, if_pos ⟨rfl, rfl, rfl⟩]
        · rw [am_wI_r, if_neg (by omega)]
          exact l7' s' hs'
        · show (am_wI ρ 806 0 (100 * s + 10 * x + y) (Int32.ofInt 1)).1 806 0 j = _
          rw [am_wI_r, if_neg (by omega)]
          exact l6' j hj
        · rw [am_wI_r, if_neg (by omega), am_wI_r]
          by_cases e : x' = x ∧ y' = y
          · rw [if_pos ⟨rfl, rfl, by omega⟩, e.1, e.2]
            exact Or.inl ⟨rfl, c, by omega⟩
          · rw [if_neg (by omega)]
            rcases ent x' y' hx' hy' (by omega) with ⟨t1, t2, t3⟩ | t
            · exact Or.inl ⟨t1, t2, by omega⟩
            · exact Or.inr t
    · left
      refine ⟨ρ, ?_, sn_Vm ⟨q, L, Lb, l7, l7', l6', ent⟩ (fun x' y' hx' hy' hD => by omega)⟩
      exact sn_end rr B2 hy k10 ce) kc (Int32.ofInt 0, ρ0) ⟨0, ρ0, rfl, by omega, sn_Vm V0 (fun x' y' _ _ hD => by omega), rfl⟩
  exact ⟨τ, k1, k2⟩
theorem sc_note {σ : am_H} {a kc r s : Nat} {w kw kt : Nat → Int} {per h : Int} (ha : a < 3) (hs : s < 3) (ok : pw_ok w) (C : pw_C σ r w) (K : tn_K kc kw kt) (b1 : σ.2.2 7 0 0 = some a) (b2 : σ.1 3 a 4 = Int32.ofInt kc) (b3 : ∀ x, x < kc → σ.1 403 a x = Int32.ofInt (kt x)) (e2 : σ.1 7 0 2 = Int32.ofInt (2 * (s : Int))) (p0 : 0 ≤ per) (p1 : per ≤ 99) (h0 : 0 ≤ h) (h1 : h ≤ 99999) : ∃ τ : am_H, f_X7_noteFitting r (Int32.ofInt per) (Int32.ofInt h) σ = some τ ∧ sn_V σ τ kc s w kt per h (fun _ _ => True) := by
  obtain ⟨k10, kk⟩ := K
  have dv : Int32.ofInt (2 * (s : Int)) / Int32.ofInt 2 = Int32.ofInt (s : Int) := by
    rw [qI_div (by omega) (by omega) (by omega) (by omega), Int.mul_tdiv_cancel_left _ (by omega)]
  have row := sc_row (h := h) (per := per) ha hs ok C ⟨k10, kk⟩ b1 b2 b3 e2 p0 p1 h0 h1
  have V1 : sn_V σ (am_wI σ 807 0 s (Int32.ofInt 1000000)) kc s w kt per h (fun x' y' => x' < 0) := by
    refine ⟨qf.rf.wI rfl, 1000000, by omega, ?_, fun s' hs' => ?_, fun j hj => rfl, fun x y _ _ hD => by omega⟩
    · rw [am_wI_r, if_pos ⟨rfl, rfl, rfl⟩]
    · rw [am_wI_r, if_neg (by omega)]
  obtain ⟨τ, k1, k2⟩ := am_loop_1 (B := fun z : Int32 × am_H => f_X7_noteFitting_20 r (Int32.ofInt per) (Int32.ofInt h) (Int32.ofInt (s : Int)) z.1 z.2) (fun N z => ∃ (x : Nat) (ρ : am_H), z = (Int32.ofInt (x : Int), ρ) ∧ x ≤ kc ∧ sn_V σ ρ kc s w kt per h (fun x' y' => x' < x) ∧ N = kc - x) (fun τ => sn_V σ τ kc s w kt per h (fun _ _ => True)) (by
    rintro N z ⟨x, ρ, rfl, hx, V, rfl⟩
    have q := V.1
    have B1 : ρ.2.2 7 0 0 = some a := by rw [(q 7 0 0 rfl).2.2]; exact b1
    have B2 : ρ.1 3 a 4 = Int32.ofInt kc := by rw [(q 3 a 4 rfl).1]; exact b2
    have rr : am_rr 3 (ρ.2.2 7 0 0) = some a := by rw [B1]; exact q_rr ha
    by_cases ce : x < kc
    · right
      obtain ⟨τ, f, V'⟩ := row x ρ ce V
      refine ⟨(Int32.ofInt ((x : Int) + 1), τ), kc - (x + 1), ?_, by omega, x + 1, τ, rfl, by omega, V', rfl⟩
      simp (disch := omega) only [f_X7_noteFitting_20, rr, B2, f, Option.bind_some, qi, ql, qI_lt, qI_le, qI_eq, qI_L, qI_ix, qL_lt, qL_eq, q_nat, q_cs, ← Int32.ofInt_add, ← Int32.ofInt_sub, ← Int32.ofInt_mul, ← Int32.ofInt_neg, ← Int64.ofInt_add, ← Int64.ofInt_sub, ← Int64.ofInt_mul, ← Int64.ofInt_neg, pL_I, q_mx, q_mn, q_ab, q_abL, q_mnL, q_nn0, q_nn1, q_rr, q_b1, q_b0, q_T, q_F, q_iT, q_iF, q_d, q_in, q_wi, q_hC, q_hM, pT_i, pU_i, pS_i, pS_j, pS_0, Sum.elim_inl, Sum.elim_inr, if_pos, if_neg]
    · left
      refine ⟨ρ, ?_, sn_Vm V (fun x' y' hx' hy' _ => by omega)⟩
      simp (disch := omega) only [f_X7_noteFitting_20, rr, B2, Option.bind_some, qi, ql, qI_lt, qI_le, qI_eq, qI_L, qI_ix, qL_lt, qL_eq, q_nat, q_cs, ← Int32.ofInt_add, ← Int32.ofInt_sub, ← Int32.ofInt_mul, ← Int32.ofInt_neg, ← Int64.ofInt_add, ← Int64.ofInt_sub, ← Int64.ofInt_mul, ← Int64.ofInt_neg, pL_I, q_mx, q_mn, q_ab, q_abL, q_mnL, q_nn0, q_nn1, q_rr, q_b1, q_b0, q_T, q_F, q_iT, q_iF, q_d, q_in, q_wi, q_hC, q_hM, pT_i, pU_i, pS_i, pS_j, pS_0, Sum.elim_inl, Sum.elim_inr, if_pos, if_neg]) kc (Int32.ofInt 0, am_wI σ 807 0 s (Int32.ofInt 1000000)) ⟨0, _, rfl, by omega, V1, rfl⟩
  refine ⟨τ, ?_, k2⟩
  simp (disch := omega) only [f_X7_noteFitting, e2, dv, k1, Option.bind_some, qi, ql, qI_lt, qI_le, qI_eq, qI_L, qI_ix, qL_lt, qL_eq, q_nat, q_cs, ← Int32.ofInt_add, ← Int32.ofInt_sub, ← Int32.ofInt_mul, ← Int32.ofInt_neg, ← Int64.ofInt_add, ← Int64.ofInt_sub, ← Int64.ofInt_mul, ← Int64.ofInt_neg, pL_I, q_mx, q_mn, q_ab, q_abL, q_mnL, q_nn0, q_nn1, q_rr, q_b1, q_b0, q_T, q_F, q_iT, q_iF, q_d, q_in, q_wi, q_hC, q_hM, pT_i, pU_i, pS_i, pS_j, pS_0, Sum.elim_inl, Sum.elim_inr, if_pos, if_neg]
/-- the least from a WAVE on -/
def sl (L : Nat → Int) (cnt : Nat) : Nat → Int
  | 0 => 0
  | n + 1 => min 1000000 (L (cnt - (n + 1)) + sl L cnt n)
theorem sl_b {L : Nat → Int} {cnt : Nat} (hL : ∀ s, s < cnt → 0 ≤ L s) : ∀ n, n ≤ cnt → 0 ≤ sl L cnt n ∧ sl L cnt n ≤ 1000000 := by
  intro n
  induction n with
  | zero =>
    intro _
    show (0 : Int) ≤ 0 ∧ (0 : Int) ≤ 1000000
    omega
  | succ n ih =>
    intro hn
    have h1 := ih (by omega)
    have h2 := hL (cnt - (n + 1)) (by omega)
    show 0 ≤ min 1000000 (L (cnt - (n + 1)) + sl L cnt n) ∧ min 1000000 (L (cnt - (n + 1)) + sl L cnt n) ≤ 1000000
    omega
theorem sc_sum {σ : am_H} {cnt : Nat} {L : Nat → Int} (hc : cnt ≤ 3) (e2 : σ.1 7 0 2 = Int32.ofInt (2 * (cnt : Int))) (hL : ∀ s, s < cnt → σ.1 807 0 s = Int32.ofInt (L s) ∧ 0 ≤ L s ∧ L s ≤ 1000000) : ∃ τ : am_H, f_X7_sumLeast σ = some τ ∧ qf [(807, 999)] σ τ ∧ ∀ s, s ≤ cnt → τ.1 807 0 s = Int32.ofInt (sl L cnt (cnt - s)) := by
  have dv : Int32.ofInt (2 * (cnt : Int)) / Int32.ofInt 2 = Int32.ofInt (cnt : Int) := by
    rw [qI_div (by omega) (by omega) (by omega) (by omega), Int.mul_tdiv_cancel_left _ (by omega)]
  have sb := sl_b (L := L) (cnt := cnt) (fun s hs => (hL s hs).2.1)
  obtain ⟨τ, k1, k2⟩ := am_loop_1 (B := fun z : Int32 × am_H => f_X7_sumLeast_18 z.1 z.2) (fun N z => ∃ (n : Nat) (ρ : am_H), z = (Int32.ofInt ((n : Int) - 1), ρ) ∧ n ≤ cnt ∧ qf [(807, 999)] σ ρ ∧ (∀ s, s < n → ρ.1 807 0 s = Int32.ofInt (L s)) ∧ (∀ s, n ≤ s → s ≤ cnt → ρ.1 807 0 s = Int32.ofInt (sl L cnt (cnt - s))) ∧ N = n) (fun τ => qf [(807, 999)] σ τ ∧ ∀ s, s ≤ cnt → τ.1 807 0 s = Int32.ofInt (sl L cnt (cnt - s))) (by
    rintro N z ⟨n, ρ, rfl, hn, q, u1, u2, hN⟩
    by_cases c : n = 0
    · left
      refine ⟨ρ, ?_, q, fun s hs => u2 s (by omega) hs⟩
      simp (disch := omega) only [f_X7_sumLeast_18, Option.bind_some, qi, ql, qI_lt, qI_le, qI_eq, qI_L, qI_ix, qL_lt, qL_eq, q_nat, q_cs, ← Int32.ofInt_add, ← Int32.ofInt_sub, ← Int32.ofInt_mul, ← Int32.ofInt_neg, ← Int64.ofInt_add, ← Int64.ofInt_sub, ← Int64.ofInt_mul, ← Int64.ofInt_neg, pL_I, q_mx, q_mn, q_ab, q_abL, q_mnL, q_nn0, q_nn1, q_rr, q_b1, q_b0, q_T, q_F, q_iT, q_iF, q_d, q_in, q_wi, q_hC, q_hM, pT_i, pU_i, pS_i, pS_j, pS_0, Sum.elim_inl, Sum.elim_inr, if_pos, if_neg]
    · right
      obtain ⟨n', hn'⟩ : ∃ n', n = n' + 1 := ⟨n - 1, by omega⟩
      have hl := hL n' (by omega)
      have t1 : ρ.1 807 0 n' = Int32.ofInt (L n') := u1 n' (by omega)
      have t2 : ρ.1 807 0 (n' + 1) = Int32.ofInt (sl L cnt (cnt - (n' + 1))) := u2 (n' + 1) (by omega) (by omega)
      have sb' := sb (cnt - (n' + 1)) (by omega)
      have j1 : ((n : Int) - 1).toNat = n' := by omega
      have j2 : ((n : Int) - 1 + 1).toNat = n' + 1 := by omega
      have es : sl L cnt (cnt - n') = min 1000000 (L n' + sl L cnt (cnt - (n' + 1))) := by
        rw [show cnt - n' = (cnt - (n' + 1)) + 1 by omega]
        show min 1000000 (L (cnt - ((cnt - (n' + 1)) + 1)) + sl L cnt (cnt - (n' + 1))) = _
        rw [show cnt - ((cnt - (n' + 1)) + 1) = n' by omega]
      refine ⟨(Int32.ofInt ((n : Int) - 1 + -1), am_wI ρ 807 0 n' (Int32.ofInt (min 1000000 (L n' + sl L cnt (cnt - (n' + 1)))))), n', ?_, by omega, n', _, by rw [show (n : Int) - 1 + -1 = (n' : Int) - 1 by omega], by omega, q.wI rfl, fun s hs => ?_, fun s hs hs' => ?_, rfl⟩
      · simp (disch := omega) only [f_X7_sumLeast_18, j1, j2, t1, t2, Option.bind_some, qi, ql, qI_lt, qI_le, qI_eq, qI_L, qI_ix, qL_lt, qL_eq, q_nat, q_cs, ← Int32.ofInt_add, ← Int32.ofInt_sub, ← Int32.ofInt_mul, ← Int32.ofInt_neg, ← Int64.ofInt_add, ← Int64.ofInt_sub, ← Int64.ofInt_mul, ← Int64.ofInt_neg, pL_I, q_mx, q_mn, q_ab, q_abL, q_mnL, q_nn0, q_nn1, q_rr, q_b1, q_b0, q_T, q_F, q_iT, q_iF, q_d, q_in, q_wi, q_hC, q_hM, pT_i, pU_i, pS_i, pS_j, pS_0, Sum.elim_inl, Sum.elim_inr, if_pos, if_neg]
      · rw [am_wI_r, if_neg (by omega)]
        exact u1 s (by omega)
      · rw [am_wI_r]
        by_cases e : s = n'
        · rw [if_pos ⟨rfl, rfl, e⟩, e, es]
        · rw [if_neg (by omega)]
          exact u2 s (by omega) hs') cnt (Int32.ofInt ((cnt : Int) - 1), am_wI σ 807 0 cnt (Int32.ofInt 0)) ⟨cnt, _, rfl, by omega, qf.rf.wI rfl, fun s hs => by rw [am_wI_r, if_neg (by omega)]; exact (hL s hs).1, fun s hs hs' => by
    have e : s = cnt := by omega
    rw [am_wI_r, if_pos ⟨rfl, rfl, e⟩, e, Nat.sub_self]
    rfl, rfl⟩
  refine ⟨τ, ?_, k2.1, k2.2⟩
  simp (disch := omega) only [f_X7_sumLeast, e2, dv, k1, Option.bind_some, qi, ql, qI_lt, qI_le, qI_eq, qI_L, qI_ix, qL_lt, qL_eq, q_nat, q_cs, ← Int32.ofInt_add, ← Int32.ofInt_sub, ← Int32.ofInt_mul, ← Int32.ofInt_neg, ← Int64.ofInt_add, ← Int64.ofInt_sub, ← Int64.ofInt_mul, ← Int64.ofInt_neg, pL_I, q_mx, q_mn, q_ab, q_abL, q_mnL, q_nn0, q_nn1, q_rr, q_b1, q_b0, q_T, q_F, q_iT, q_iF, q_d, q_in, q_wi, q_hC, q_hM, pT_i, pU_i, pS_i, pS_j, pS_0, Sum.elim_inl, Sum.elim_inr, if_pos, if_neg]
