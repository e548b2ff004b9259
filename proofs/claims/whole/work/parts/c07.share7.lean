/-! ===== SHARED: the reference searches ===== -/
def sm_l : List (Nat × Nat) := [(12, 78), (12, 30), (1345, 999), (1377, 999)]
def sm_S (σ ρ : am_H) (cnt : Nat) (S : Int × (Nat → Int)) : Prop := (0 ≤ S.1 ∧ S.1 ≤ 1000000) ∧ (S.1 = 1000000 → ρ.1 12 0 78 = Int32.ofInt (-1) ∧ ρ.1 12 0 30 = σ.1 12 0 30 ∧ ∀ j, ρ.1 1345 0 j = σ.1 1345 0 j) ∧ (S.1 ≠ 1000000 → ρ.1 12 0 78 = Int32.ofInt S.1 ∧ ρ.1 12 0 30 = Int32.ofInt (2 * (cnt : Int)) ∧ ∀ j, j < 2 * cnt → ρ.1 1345 0 j = Int32.ofInt (S.2 j))
theorem sm_keep {ρ : am_H} {m kc M : Nat} {kw kt : Nat → Int} {p : Nat → Nat} {T : Int} {rc : Int32 → Int32 → Int32 → Int32 → Int32 → am_H → Option am_H} (hm : m < 2) (k10 : kc ≤ 10) (K : tm_K ρ m kc kw kt) (hM : M ≤ 6) (P : tm_P ρ kc M p) : ∃ τ : am_H, f_X12_shareFrom_29 rc (Int32.ofInt (m : Int)) (Int32.ofInt (M : Int)) (Int32.ofInt T) ρ = some τ ∧ qf [(12, 78), (12, 30), (1345, 999)] ρ τ ∧ τ.1 12 0 78 = Int32.ofInt T ∧ τ.1 12 0 30 = Int32.ofInt (M : Int) ∧ ∀ j, j < M → τ.1 1345 0 j = Int32.ofInt (kt (p j)) := by
  have key : ∃ τ : am_H, am_loop (fun z : Int32 × am_H => f_X12_shareFrom_43 rc (Int32.ofInt (m : Int)) (Int32.ofInt (M : Int)) z.1 z.2) (Int32.ofInt 0, am_wI (am_wI ρ 12 0 78 (Int32.ofInt T)) 12 0 30 (Int32.ofInt (M : Int))) = some τ ∧ qf [(1345, 999)] (am_wI (am_wI ρ 12 0 78 (Int32.ofInt T)) 12 0 30 (Int32.ofInt (M : Int))) τ ∧ ∀ j, j < M → τ.1 1345 0 j = Int32.ofInt (kt (p j)) := by
    refine am_loop_1 (B := fun z : Int32 × am_H => f_X12_shareFrom_43 rc (Int32.ofInt (m : Int)) (Int32.ofInt (M : Int)) z.1 z.2) (fun N z => ∃ (j : Nat) (π : am_H), z = (Int32.ofInt (j : Int), π) ∧ j ≤ M ∧ N = M - j ∧ qf [(1345, 999)] (am_wI (am_wI ρ 12 0 78 (Int32.ofInt T)) 12 0 30 (Int32.ofInt (M : Int))) π ∧ ∀ i, i < j → π.1 1345 0 i = Int32.ofInt (kt (p i))) _ ?_ M (Int32.ofInt 0, am_wI (am_wI ρ 12 0 78 (Int32.ofInt T)) 12 0 30 (Int32.ofInt (M : Int))) ⟨0, _, rfl, by omega, by omega, qf.rf, fun i hi => absurd hi (Nat.not_lt_zero i)⟩
    rintro N z ⟨j, π, rfl, hj, hN, q, h⟩
    by_cases cj : j < M
    · right
      have Q : qf [(12, 78), (12, 30), (1345, 999)] ρ π := ((qf.rf.wI rfl).wI rfl).tr (q.mo (by decide +kernel))
      have t := (tm_teeth hm k10 (tm_Kq (Q.a (by decide +kernel)) K) (P j cj).2).1
      have e1 : π.1 1377 0 j = Int32.ofInt (p j) := by rw [(Q 1377 0 j rfl).1]; exact (P j cj).1
      refine ⟨(Int32.ofInt ((j : Int) + 1), am_wI π 1345 0 j (Int32.ofInt (kt (p j)))), M - (j + 1), ?_, by omega, j + 1, _, rfl, by omega, rfl, q.wI rfl, fun i hi => ?_⟩
      · simp (disch := omega) only [f_X12_shareFrom_43, e1, t, Option.bind_some, qi, ql, qI_lt, qI_le, qI_eq, qI_L, qI_ix, qL_lt, qL_eq, q_nat, q_cs, ← Int32.ofInt_add, ← Int32.ofInt_sub, ← Int32.ofInt_mul, ← Int32.ofInt_neg, ← Int64.ofInt_add, ← Int64.ofInt_sub, ← Int64.ofInt_mul, ← Int64.ofInt_neg, pL_I, q_mx, q_mn, q_ab, q_abL, q_mnL, q_nn0, q_nn1, q_rr, q_b1, q_b0, q_T, q_F, q_iT, q_iF, q_d, q_in, q_wi, q_hC, q_hM, pT_i, pU_i, pS_i, pS_j, pS_0, Sum.elim_inl, Sum.elim_inr, if_pos, if_neg]
      · rw [am_wI_r]
        by_cases ci : i = j
        · rw [if_pos ⟨rfl, rfl, ci⟩, ci]
        · rw [if_neg (by omega)]
          exact h i (by omega)
    · left
      refine ⟨π, ?_, q, fun i hi => h i (by omega)⟩
      simp (disch := omega) only [f_X12_shareFrom_43, Option.bind_some, qi, ql, qI_lt, qI_le, qI_eq, qI_L, qI_ix, qL_lt, qL_eq, q_nat, q_cs, ← Int32.ofInt_add, ← Int32.ofInt_sub, ← Int32.ofInt_mul, ← Int32.ofInt_neg, ← Int64.ofInt_add, ← Int64.ofInt_sub, ← Int64.ofInt_mul, ← Int64.ofInt_neg, pL_I, q_mx, q_mn, q_ab, q_abL, q_mnL, q_nn0, q_nn1, q_rr, q_b1, q_b0, q_T, q_F, q_iT, q_iF, q_d, q_in, q_wi, q_hC, q_hM, pT_i, pU_i, pS_i, pS_j, pS_0, Sum.elim_inl, Sum.elim_inr, if_pos, if_neg]
  obtain ⟨τ, f, q, h⟩ := key
  refine ⟨τ, ?_, ((qf.rf.wI rfl).wI rfl).tr (q.mo (by decide +kernel)), ?_, ?_, h⟩
  · simp (disch := omega) only [f_X12_shareFrom_29, f, Option.bind_some, qi, ql, qI_lt, qI_le, qI_eq, qI_L, qI_ix, qL_lt, qL_eq, q_nat, q_cs, ← Int32.ofInt_add, ← Int32.ofInt_sub, ← Int32.ofInt_mul, ← Int32.ofInt_neg, ← Int64.ofInt_add, ← Int64.ofInt_sub, ← Int64.ofInt_mul, ← Int64.ofInt_neg, pL_I, q_mx, q_mn, q_ab, q_abL, q_mnL, q_nn0, q_nn1, q_rr, q_b1, q_b0, q_T, q_F, q_iT, q_iF, q_d, q_in, q_wi, q_hC, q_hM, pT_i, pU_i, pS_i, pS_j, pS_0, Sum.elim_inl, Sum.elim_inr, if_pos, if_neg]
  · rw [(q 12 0 78 rfl).1]
    rfl
  · rw [(q 12 0 30 rfl).1]
    rfl
def sm_I (σ : am_H) (m kc wc cnt x : Nat) (ws : Nat → Nat → Int) (kw kt : Nat → Int) (z per h : Int) (l s d : Nat) : Prop := ∀ (ρ : am_H) (p : Nat → Nat) (S : Int × (Nat → Int)), tm_K ρ m kc kw kt → ph_M ρ m wc ws z → tm_P ρ kc (2 * s) p → (∀ u, u < kc → (en_n p (2 * s) u : Int) ≤ kw u) → sm_S σ ρ cnt S → ∃ τ : am_H, f_X12_shareFrom d (Int32.ofInt (m : Int)) (Int32.ofInt (sb_r x s : Int)) (Int32.ofInt (2 * (s : Int))) (Int32.ofInt per) (Int32.ofInt h) ρ = some τ ∧ qf sm_l ρ τ ∧ (∀ j, j < 2 * s → τ.1 1377 0 j = ρ.1 1377 0 j) ∧ sm_S σ τ cnt (sh_F (sf_fit ws kt x per h) kw kt kc l s p S)
theorem sm_leaf {σ : am_H} {m kc wc cnt x d : Nat} {ws : Nat → Nat → Int} {kw kt : Nat → Int} {z per h : Int} (hm : m < 2) (KK : tn_K kc kw kt) (hx : x < 64) (ec : cnt = sb_n x 6) (hc : cnt ≤ 3) : sm_I σ m kc wc cnt x ws kw kt z per h 0 cnt (d + 1) := by
  intro ρ p S K M P hn Z
  have k10 := KK.1
  have r0 : sb_r x cnt = 0 := by rw [ec]; exact (sb_4 ⟨x, hx⟩).1
  have tb := sc_Tb (k := 2 * cnt) KK (fun j hj => (P j hj).2)
  have te : f_X12_teethOf (Int32.ofInt (m : Int)) (Int32.ofInt (2 * (cnt : Int))) ρ = some (Int32.ofInt (ps_sum (fun j => kt (p j)) (2 * cnt))) := tm_teethOf hm k10 K (by omega : 2 * cnt ≤ 6) P
  obtain ⟨τ, f, q, t1, t2, t3⟩ := sm_keep (T := ps_sum (fun j => kt (p j)) (2 * cnt)) (rc := f_X12_shareFrom d) hm k10 K (by omega : 2 * cnt ≤ 6) P
  have f' : f_X12_shareFrom_29 (f_X12_shareFrom d) (Int32.ofInt (m : Int)) (Int32.ofInt (2 * (cnt : Int))) (Int32.ofInt (ps_sum (fun j => kt (p j)) (2 * cnt))) ρ = some τ := f
  obtain ⟨zb, z1, z2⟩ := Z
  have z0 : Int32.ofInt (sb_r x cnt : Int) = Int32.ofInt 0 := by rw [r0]; rfl
  by_cases c : ps_sum (fun j => kt (p j)) (2 * cnt) < S.1
  · have eF : sh_F (sf_fit ws kt x per h) kw kt kc 0 cnt p S = (ps_sum (fun j => kt (p j)) (2 * cnt), fun j => kt (p j)) := if_pos c
    rw [eF]
    refine ⟨τ, ?_, q.mo (by decide +kernel), fun j hj => (q 1377 0 j rfl).1, ?_, fun e => ?_, fun _ => ⟨t1, t2, t3⟩⟩
    · show f_X12_shareFrom_0 (f_X12_shareFrom d) (Int32.ofInt (m : Int)) (Int32.ofInt (sb_r x cnt : Int)) (Int32.ofInt (2 * (cnt : Int))) (Int32.ofInt per) (Int32.ofInt h) ρ = some τ
      by_cases cs : S.1 = 1000000
      · have e78 := (z1 cs).1
        simp (disch := omega) only [f_X12_shareFrom_0, z0, te, e78, f', Option.bind_some, qi, ql, qI_lt, qI_le, qI_eq, qI_L, qI_ix, qL_lt, qL_eq, q_nat, q_cs, ← Int32.ofInt_add, ← Int32.ofInt_sub, ← Int32.ofInt_mul, ← Int32.ofInt_neg, ← Int64.ofInt_add, ← Int64.ofInt_sub, ← Int64.ofInt_mul, ← Int64.ofInt_neg, pL_I, q_mx, q_mn, q_ab, q_abL, q_mnL, q_nn0, q_nn1, q_rr, q_b1, q_b0, q_T, q_F, q_iT, q_iF, q_d, q_in, q_wi, q_hC, q_hM, pT_i, pU_i, pS_i, pS_j, pS_0, Sum.elim_inl, Sum.elim_inr, if_pos, if_neg]
      · have e78 := (z2 cs).1
        simp (disch := omega) only [f_X12_shareFrom_0, z0, te, e78, f', Option.bind_some, qi, ql, qI_lt, qI_le, qI_eq, qI_L, qI_ix, qL_lt, qL_eq, q_nat, q_cs, ← Int32.ofInt_add, ← Int32.ofInt_sub, ← Int32.ofInt_mul, ← Int32.ofInt_neg, ← Int64.ofInt_add, ← Int64.ofInt_sub, ← Int64.ofInt_mul, ← Int64.ofInt_neg, pL_I, q_mx, q_mn, q_ab, q_abL, q_mnL, q_nn0, q_nn1, q_rr, q_b1, q_b0, q_T, q_F, q_iT, q_iF, q_d, q_in, q_wi, q_hC, q_hM, pT_i, pU_i, pS_i, pS_j, pS_0, Sum.elim_inl, Sum.elim_inr, if_pos, if_neg]
    · show 0 ≤ ps_sum (fun j => kt (p j)) (2 * cnt) ∧ ps_sum (fun j => kt (p j)) (2 * cnt) ≤ 1000000
      omega
    · have e' : ps_sum (fun j => kt (p j)) (2 * cnt) = 1000000 := e
      omega
  · have eF : sh_F (sf_fit ws kt x per h) kw kt kc 0 cnt p S = S := if_neg c
    rw [eF]
    refine ⟨ρ, ?_, qf.rf, fun j hj => rfl, zb, z1, z2⟩
    show f_X12_shareFrom_0 (f_X12_shareFrom d) (Int32.ofInt (m : Int)) (Int32.ofInt (sb_r x cnt : Int)) (Int32.ofInt (2 * (cnt : Int))) (Int32.ofInt per) (Int32.ofInt h) ρ = some ρ
    have cs : S.1 ≠ 1000000 := by omega
    have e78 := (z2 cs).1
    simp (disch := omega) only [f_X12_shareFrom_0, z0, te, e78, Option.bind_some, qi, ql, qI_lt, qI_le, qI_eq, qI_L, qI_ix, qL_lt, qL_eq, q_nat, q_cs, ← Int32.ofInt_add, ← Int32.ofInt_sub, ← Int32.ofInt_mul, ← Int32.ofInt_neg, ← Int64.ofInt_add, ← Int64.ofInt_sub, ← Int64.ofInt_mul, ← Int64.ofInt_neg, pL_I, q_mx, q_mn, q_ab, q_abL, q_mnL, q_nn0, q_nn1, q_rr, q_b1, q_b0, q_T, q_F, q_iT, q_iF, q_d, q_in, q_wi, q_hC, q_hM, pT_i, pU_i, pS_i, pS_j, pS_0, Sum.elim_inl, Sum.elim_inr, if_pos, if_neg]
/-- what the reference asks of a couple -/
theorem sm_lt {w kt : Nat → Int} {per h : Int} {u v : Nat} : (per * w 1 * kt v < pw_off w (kt u) (kt v) * h) ↔ ¬ sc_f w kt per h u v := by
  unfold sc_f
  rw [Int.mul_assoc, Int.mul_comm (w 1) (kt v), Classical.not_not]
theorem sm_qM {σ τ : am_H} {m kc wc : Nat} {ws : Nat → Nat → Int} {kw kt : Nat → Int} {z : Int} (q : qf sm_l σ τ) (K : tm_K σ m kc kw kt) (M : ph_M σ m wc ws z) : tm_K τ m kc kw kt ∧ ph_M τ m wc ws z := ⟨tm_Kq (q.a (by decide +kernel)) K, ph_Mq (q.a (by decide +kernel)) M⟩
