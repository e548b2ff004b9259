/-! ===== ORDERS: one STEP as far as its SIGN ===== -/
noncomputable def gTail (rc : Int32 → am_H → Option am_H) (v1 : Int32) (blk : Bool) (s : Int32) (σ : am_H) : Option am_H := (am_loop (fun t : am_H => f_X12_readStep_203 rc v1 blk s t) σ).bind fun w2 => if blk = true then ((f_X12_isEnd w2).bind fun p4 => (f_X12_must p4 w2).bind fun p5 => if (p5.1 12 0 14) = 3 then f_X12_readStep_257 rc s true p5 else f_X12_readStep_257 rc s false p5) else f_X12_readStep_260 rc s w2
theorem isEnd_t (σ : am_H) : ∃ x : Bool, f_X12_isEnd σ = some x := by
  unfold f_X12_isEnd
  rw [sp_10, Option.bind_some]
  unfold f_X12_isWord
  split
  · split <;> exact ⟨_, rfl⟩
  · exact ⟨_, rfl⟩
theorem g_260 {rc : Int32 → am_H → Option am_H} {σ : am_H} {s : Nat} (hs : s < 40) : f_X12_readStep_260 rc (Int32.ofInt (s : Int)) σ = some (am_wI σ 1375 0 s (σ.1 12 0 55)) := by
  simp (disch := omega) only [f_X12_readStep_260, Option.bind_some, qi, ql, qI_lt, qI_le, qI_eq, qI_L, qI_ix, qL_lt, qL_eq, q_nat, q_cs, ← Int32.ofInt_add, ← Int32.ofInt_sub, ← Int32.ofInt_mul, ← Int32.ofInt_neg, ← Int64.ofInt_add, ← Int64.ofInt_sub, ← Int64.ofInt_mul, ← Int64.ofInt_neg, pL_I, q_mx, q_mn, q_ab, q_abL, q_mnL, q_nn0, q_nn1, q_rr, q_b1, q_b0, q_T, q_F, q_iT, q_iF, q_d, q_in, q_wi, q_hC, q_hM, pT_i, pU_i, pS_i, pS_j, pS_0, Sum.elim_inl, Sum.elim_inr, if_pos, if_neg]
theorem bd_tail {rc : Int32 → am_H → Option am_H} {v1 : Int32} {blk : Bool} {s : Nat} {σ : am_H} {k : Int} {q : Nat} (h : bd σ k q) (hs : s < 40) : gTail rc v1 blk (Int32.ofInt (s : Int)) σ = some (am_wI σ 1375 0 s (σ.1 12 0 55)) := by
  have h2 := h.2.1
  have h1 := h.1
  have lp : am_loop (fun t : am_H => f_X12_readStep_203 rc v1 blk (Int32.ofInt (s : Int)) t) σ = some σ := am_loop_out (by
    cases blk with
    | true => simp (disch := omega) only [f_X12_readStep_203, h2, Option.bind_some, qi, ql, qI_lt, qI_le, qI_eq, qI_L, qI_ix, qL_lt, qL_eq, q_nat, q_cs, ← Int32.ofInt_add, ← Int32.ofInt_sub, ← Int32.ofInt_mul, ← Int32.ofInt_neg, ← Int64.ofInt_add, ← Int64.ofInt_sub, ← Int64.ofInt_mul, ← Int64.ofInt_neg, pL_I, q_mx, q_mn, q_ab, q_abL, q_mnL, q_nn0, q_nn1, q_rr, q_b1, q_b0, q_T, q_F, q_iT, q_iF, q_d, q_in, q_wi, q_hC, q_hM, pT_i, pU_i, pS_i, pS_j, pS_0, Sum.elim_inl, Sum.elim_inr, if_pos, if_neg]
    | false => simp (disch := omega) only [f_X12_readStep_203, Option.bind_some, qi, ql, qI_lt, qI_le, qI_eq, qI_L, qI_ix, qL_lt, qL_eq, q_nat, q_cs, ← Int32.ofInt_add, ← Int32.ofInt_sub, ← Int32.ofInt_mul, ← Int32.ofInt_neg, ← Int64.ofInt_add, ← Int64.ofInt_sub, ← Int64.ofInt_mul, ← Int64.ofInt_neg, pL_I, q_mx, q_mn, q_ab, q_abL, q_mnL, q_nn0, q_nn1, q_rr, q_b1, q_b0, q_T, q_F, q_iT, q_iF, q_d, q_in, q_wi, q_hC, q_hM, pT_i, pU_i, pS_i, pS_j, pS_0, Sum.elim_inl, Sum.elim_inr, if_pos, if_neg])
  obtain ⟨x, hx⟩ := isEnd_t σ
  have m := fun v => bd_must h v
  have e257 : ∀ v, f_X12_readStep_257 rc (Int32.ofInt (s : Int)) v σ = some (am_wI σ 1375 0 s (σ.1 12 0 55)) := fun v => by
    unfold f_X12_readStep_257
    rw [m v, Option.bind_some, g_260 hs]
  unfold gTail
  rw [lp, Option.bind_some]
  cases blk with
  | true =>
    rw [if_pos rfl, hx, Option.bind_some, m x, Option.bind_some, e257, e257]
    split <;> rfl
  | false =>
    rw [if_neg Bool.false_ne_true, g_260 hs]
theorem bd_186 {rc : Int32 → am_H → Option am_H} {v1 : Int32} {blk : Bool} {s : Nat} {σ : am_H} {k : Int} {q : Nat} (h : bd σ k q) (hs : s < 40) : f_X12_readStep_186 rc v1 blk (Int32.ofInt (s : Int)) σ = some (am_wI σ 1375 0 s (σ.1 12 0 55)) := by
  have e : ∀ v, f_X12_readStep_200 rc v1 blk (Int32.ofInt (s : Int)) v σ = some (am_wI σ 1375 0 s (σ.1 12 0 55)) := fun v => by
    show (f_X12_must v σ).bind (fun p1 => gTail rc v1 blk (Int32.ofInt (s : Int)) p1) = _
    rw [bd_must h v, Option.bind_some, bd_tail h hs]
  unfold f_X12_readStep_186
  rw [e, e]
  split <;> rfl
/-- the class's cells behind a STEP -/
def gFin (r R s d : Nat) (blk : Bool) (τ : am_H) : am_H := if blk = true then am_wI (am_wI (am_wI (am_wI τ 506 r d (Int32.ofInt (R : Int))) 4 r 7 (Int32.ofInt ((d : Int) + 1))) 4 r 4 (Int32.ofInt ((R : Int) + 1))) 4 r 5 (Int32.ofInt ((s : Int) + 1)) else am_wI (am_wI τ 4 r 4 (Int32.ofInt ((R : Int) + 1))) 4 r 5 (Int32.ofInt ((s : Int) + 1))
theorem gs_head {σ1 σ2 : am_H} {n : Nat} {b : Nat → Int} {sT p e r R d s kd : Nat} {rc : Int32 → am_H → Option am_H} {v1 : Int32} {blk : Bool} (hk : kd < 6) (h : tk σ1 σ2 n b sT p e) (s1 : sT = 1) (g : gd σ2) (c4 : σ1.1 4 r 4 = Int32.ofInt (R : Int)) (c5 : σ1.1 4 r 5 = Int32.ofInt (s : Int)) (c7 : σ1.1 4 r 7 = Int32.ofInt (d : Int)) (n55 : σ2.1 12 0 55 = Int32.ofInt (s : Int)) (hR : R < 80) (hs : s < 40) (hd : blk = true → d < 3) : (∃ (τ1 τ2 : am_H) (sT' p' e' : Nat), f_X4_readsStep_50 r (Int32.ofInt (kd : Int)) blk σ1 = some (true, gFin r R s d blk τ1) ∧ f_X12_readStep_80 rc v1 (Int32.ofInt (kd : Int)) blk σ2 = gTail rc v1 blk (Int32.ofInt (s : Int)) τ2 ∧ tk τ1 τ2 n b sT' p' e' ∧ gd τ2 ∧ p < p' ∧ gq τ1 τ2 r R s kd ∧ τ1.1 500 r R = Int32.ofInt (kd : Int) ∧ τ2.1 1372 0 s = Int32.ofInt (kd : Int) ∧ τ2.1 12 0 55 = Int32.ofInt ((s : Int) + 1) ∧ τ1.1 4 r 4 = Int32.ofInt (R : Int) ∧ τ1.1 4 r 5 = Int32.ofInt (s : Int) ∧ τ1.1 4 r 7 = Int32.ofInt (d : Int) ∧ qz (zR r R d) σ1 τ1 ∧ qz (zS s) σ2 τ2) ∨ (∃ τ1 τ2 : am_H, f_X4_readsStep_50 r (Int32.ofInt (kd : Int)) blk σ1 = some (false, τ1) ∧ f_X12_readStep_80 rc v1 (Int32.ofInt (kd : Int)) blk σ2 = some τ2 ∧ oN (zR r R d) (zS s) σ1 σ2 τ1 τ2) := by
  have g' : σ2.1 12 0 12 = Int32.ofInt 0 := g
  obtain ⟨γ, hγ⟩ : ∃ γ : am_H, γ = am_wI (am_wI σ2 12 0 55 (Int32.ofInt ((s : Int) + 1))) 1372 0 s (Int32.ofInt (kd : Int)) := ⟨_, rfl⟩
  have Qγ : qf [(12, 55), (1372, 999)] σ2 γ := by rw [hγ]; exact (qf.rf.wI rfl).wI rfl
  have Zγ : qz (zS s) σ2 γ := by rw [hγ]; exact (qz.rf.wI zS_c).wI (zS_r (Nat.le_refl s)).1
  obtain ⟨ρ1, ρ2, s2, p1, e1, a1, a2, a3, a4, a5, a6⟩ := tk_next (h.q (qf.rf (l := [])) (by decide +kernel) Qγ (by decide +kernel)) (Or.inl s1)
  have pe := (h.2.2.2.2.2.2.1 (Or.inl s1)).1
  have gρ : gd ρ2 := ((a6 12 0 12 rfl).1).trans (((Qγ 12 0 12 rfl).1).trans g)
  obtain ⟨β, hβ⟩ : ∃ β : am_H, β = am_wI (am_wI (am_wI ρ1 500 r R (Int32.ofInt (kd : Int))) 501 r R (Int32.ofInt 0)) 502 r R (Int32.ofInt 0) := ⟨_, rfl⟩
  have Qβ : qf [(500, 999), (501, 999), (502, 999)] ρ1 β := by rw [hβ]; exact ((qf.rf.wI rfl).wI rfl).wI rfl
  have Zρ1 : qz (zR r R d) σ1 ρ1 := (a5.mo (by decide)).z (l := tlC) (fun _ _ _ => zR_t)
  have Zβ : qz (zR r R d) σ1 β := by
    rw [hβ]
    exact ((Zρ1.wI (zR_r (Nat.le_refl R)).1).wI (zR_r (Nat.le_refl R)).2.1).wI (zR_r (Nat.le_refl R)).2.2.1
  have Zρ : qz (zS s) σ2 ρ2 := Zγ.tr ((a6.mo (by decide)).z (l := tlM) (fun _ _ _ => zS_t))
  have hb' := a3.q Qβ (by decide +kernel) (qf.rf (l := [])) (by decide +kernel)
  have p4 : ρ1.1 4 r 4 = Int32.ofInt (R : Int) := ((a5 4 r 4 rfl).1).trans c4
  have b4 : β.1 4 r 4 = Int32.ofInt (R : Int) := ((Qβ 4 r 4 rfl).1).trans p4
  have b500 : β.1 500 r R = Int32.ofInt (kd : Int) := by
    rw [hβ]
    simp [am_wI, am_u3]
  have b502 : β.1 502 r R = Int32.ofInt 0 := by
    rw [hβ]
    simp [am_wI, am_u3]
  have ρ55 : ρ2.1 12 0 55 = Int32.ofInt ((s : Int) + 1) := by
    rw [(a6 12 0 55 rfl).1, hγ]
    rfl
  have ρ72 : ρ2.1 1372 0 s = Int32.ofInt (kd : Int) := by
    rw [(a6 1372 0 s rfl).1, hγ, am_wI_r, if_pos ⟨rfl, rfl, rfl⟩]
  have eC : f_X4_readsStep_50 r (Int32.ofInt (kd : Int)) blk σ1 = (f_X4_readsRest r (Int32.ofInt (kd : Int)) β).bind fun p10 => if p10.1 = true then ((f_X5_takesSign p10.2).bind fun p12 => if p12.1 = true then (if blk = true then ((am_ix 3 (p12.2.1 4 r 7)).bind fun j15 => (some (am_wI p12.2 506 r j15 (p12.2.1 4 r 4))).bind fun s16 => (some (am_wI s16 4 r 7 ((s16.1 4 r 7) + 1))).bind fun s17 => f_X4_readsStep_154 r s17) else f_X4_readsStep_154 r p12.2) else some (false, p12.2)) else some (false, p10.2) := by
    have i80 : am_ix 80 (Int32.ofInt (R : Int)) = some R := by rw [qI_ix (by omega) (by omega) (by omega), q_nat]
    have q4 : ∀ v : Int32, (am_wI ρ1 500 r R v).1 4 r 4 = Int32.ofInt (R : Int) := fun v => p4
    have q5 : ∀ v w : Int32, (am_wI (am_wI ρ1 500 r R v) 501 r R w).1 4 r 4 = Int32.ofInt (R : Int) := fun v w => p4
    have x1 : σ1.1 4 r 5 < 40 := by
      rw [c5, qi, qI_lt (by omega) (by omega) (by omega) (by omega)]
      omega
    have x2 : σ1.1 4 r 4 < 80 := by
      rw [c4, qi, qI_lt (by omega) (by omega) (by omega) (by omega)]
      omega
    unfold f_X4_readsStep_50
    rw [if_pos x1, if_pos x2, a1, Option.bind_some, p4, i80, Option.bind_some, Option.bind_some, q4, i80, Option.bind_some, Option.bind_some, q5, i80, Option.bind_some, Option.bind_some, hβ]
    rfl
  have eM : f_X12_readStep_80 rc v1 (Int32.ofInt (kd : Int)) blk σ2 = (gRest kd s ρ2).bind fun τ => f_X12_readStep_186 rc v1 blk (Int32.ofInt (s : Int)) τ := by
    have i40 : am_ix 40 (Int32.ofInt (s : Int)) = some s := by rw [qI_ix (by omega) (by omega) (by omega), q_nat]
    have x1 : ¬ 0 < σ2.1 12 0 12 := by
      rw [g', qi, qI_lt (by omega) (by omega) (by omega) (by omega)]
      omega
    have a2' : f_X12_next (am_wI (am_wI σ2 12 0 55 (Int32.ofInt (s : Int) + 1)) 1372 0 s (Int32.ofInt (kd : Int))) = some ρ2 := by
      rw [show Int32.ofInt (s : Int) + 1 = Int32.ofInt ((s : Int) + 1) from (by rw [qi, ← Int32.ofInt_add]), ← hγ]
      exact a2
    unfold f_X12_readStep_80
    rw [if_neg x1, n55, Option.bind_some, i40, Option.bind_some, Option.bind_some, a2', Option.bind_some]
    unfold gRest
    rcases (by omega : kd = 0 ∨ kd = 4 ∨ kd = 2 ∨ kd = 3 ∨ kd = 1 ∨ kd = 5) with z | z | z | z | z | z <;> subst z
    · show (f_X12_count 0 9999 ρ2).bind _ = ((f_X12_count (Int32.ofInt 0) (Int32.ofInt 9999) ρ2).bind _).bind _
      rw [Option.bind_assoc]
      simp only [i40, Option.bind_some]
      rfl
    · show (f_X12_count 1 9 ρ2).bind _ = ((f_X12_count (Int32.ofInt 1) (Int32.ofInt 9) ρ2).bind _).bind _
      rw [Option.bind_assoc]
      simp only [i40, Option.bind_some]
      rfl
    · rfl
    · rfl
    · rfl
    · rfl
  rw [eC, eM]
  have x500 : ∀ τ1 : am_H, qf glC β τ1 → τ1.1 500 r R = Int32.ofInt (kd : Int) ∧ τ1.1 4 r 4 = Int32.ofInt (R : Int) ∧ τ1.1 4 r 5 = Int32.ofInt (s : Int) ∧ τ1.1 4 r 7 = Int32.ofInt (d : Int) := fun τ1 Q => ⟨((Q 500 r R rfl).1).trans b500, ((Q 4 r 4 rfl).1).trans b4, ((Q 4 r 5 rfl).1).trans (((Qβ 4 r 5 rfl).1).trans (((a5 4 r 5 rfl).1).trans c5)), ((Q 4 r 7 rfl).1).trans (((Qβ 4 r 7 rfl).1).trans (((a5 4 r 7 rfl).1).trans c7))⟩
  rcases gr_rest (dp := d) (s := s) hk hb' gρ b4 hR hs b502 with ⟨φ1, φ2, s3, p3, e3, m1, m2, m3, m4, m5, m6, m7, m8, m9, m10⟩ | ⟨φ1, φ2, m1, m2, ⟨k, q, m3, m4⟩, m8, m10⟩
  rotate_left
  · right
    have t186 := bd_186 (rc := rc) (v1 := v1) (blk := blk) m4 hs
    refine ⟨φ1, am_wI φ2 1375 0 s (φ2.1 12 0 55), ?_, ?_, ⟨k, q, m3, m4⟩, Zβ.tr m8, (Zρ.tr m10).wI (zS_r (Nat.le_refl s)).2.2.2⟩
    · rw [m1]
      rfl
    · rw [m2]
      exact t186
  rw [m1, m2, Option.bind_some, Option.bind_some, if_pos rfl]
  have m14 := m3.2.2.2.1.1
  have s3b := m3.2.2.2.2.2.1
  rcases tk_sign m3 m4 with ⟨c3, τ1, τ2, s9, p9, e9, d1, d2, d3, d4, d5, d6, d7⟩ | ⟨c3, q, qb, d1, d2⟩
  rotate_left
  · right
    have B : bd (FM φ2 q p3) q p3 := FM_b qb
    refine ⟨FC φ1 q p3, am_wI (FM φ2 q p3) 1375 0 s ((FM φ2 q p3).1 12 0 55), ?_, ?_, ⟨q, p3, FC_f, B⟩, (Zβ.tr m8).tr (FC_q.z (fun _ _ _ => zR_t)), ((Zρ.tr m10).tr (FM_q.z (fun _ _ _ => zS_t))).wI (zS_r (Nat.le_refl s)).2.2.2⟩
    · rw [d1]
      rfl
    · have x3 : ¬ φ2.1 12 0 14 = 3 := by
        rw [m14, qi, qI_eq (by omega) (by omega) (by omega) (by omega)]
        omega
      unfold f_X12_readStep_186
      rw [if_neg x3]
      show (f_X12_must false φ2).bind (fun p1 => gTail rc v1 blk (Int32.ofInt (s : Int)) p1) = _
      rw [d2, Option.bind_some, bd_tail B hs]
  left
  obtain ⟨y1, y2, y3, y4⟩ := x500 φ1 m7
  have y1' : τ1.1 500 r R = Int32.ofInt (kd : Int) := ((d6 500 r R rfl).1).trans y1
  have y2' : τ1.1 4 r 4 = Int32.ofInt (R : Int) := ((d6 4 r 4 rfl).1).trans y2
  have y3' : τ1.1 4 r 5 = Int32.ofInt (s : Int) := ((d6 4 r 5 rfl).1).trans y3
  have y4' : τ1.1 4 r 7 = Int32.ofInt (d : Int) := ((d6 4 r 7 rfl).1).trans y4
  refine ⟨τ1, τ2, s9, p9, e9, ?_, ?_, d3, d4, by omega, ?_, y1', ?_, ?_, y2', y3', y4', (Zβ.tr m8).tr (d6.z (fun _ _ _ => zR_t)), (Zρ.tr m10).tr (d7.z (fun _ _ _ => zS_t))⟩
  · rw [d1, Option.bind_some, if_pos rfl]
    unfold gFin
    cases blk with
    | true =>
      have dlt := hd rfl
      have w1 : ∀ v : Int32, (am_wI τ1 506 r d v).1 4 r 7 = Int32.ofInt (d : Int) := fun v => y4'
      have w2 : ∀ v u : Int32, (am_wI (am_wI τ1 506 r d v) 4 r 7 u).1 4 r 4 = Int32.ofInt (R : Int) := fun v u => by
        rw [am_wI_r, if_neg (by omega)]
        exact y2'
      have w3 : ∀ v u w : Int32, (am_wI (am_wI (am_wI τ1 506 r d v) 4 r 7 u) 4 r 4 w).1 4 r 5 = Int32.ofInt (s : Int) := fun v u w => by
        rw [am_wI_r, if_neg (by omega), am_wI_r, if_neg (by omega)]
        exact y3'
      simp (disch := omega) only [f_X4_readsStep_154, y2', y4', w1, w2, w3, Option.bind_some, qi, ql, qI_lt, qI_le, qI_eq, qI_L, qI_ix, qL_lt, qL_eq, q_nat, q_cs, ← Int32.ofInt_add, ← Int32.ofInt_sub, ← Int32.ofInt_mul, ← Int32.ofInt_neg, ← Int64.ofInt_add, ← Int64.ofInt_sub, ← Int64.ofInt_mul, ← Int64.ofInt_neg, pL_I, q_mx, q_mn, q_ab, q_abL, q_mnL, q_nn0, q_nn1, q_rr, q_b1, q_b0, q_T, q_F, q_iT, q_iF, q_d, q_in, q_wi, q_hC, q_hM, pT_i, pU_i, pS_i, pS_j, pS_0, Sum.elim_inl, Sum.elim_inr, if_pos, if_neg]
    | false =>
      have w3 : ∀ w : Int32, (am_wI τ1 4 r 4 w).1 4 r 5 = Int32.ofInt (s : Int) := fun w => by
        rw [am_wI_r, if_neg (by omega)]
        exact y3'
      simp (disch := omega) only [f_X4_readsStep_154, y2', w3, Option.bind_some, qi, ql, qI_lt, qI_le, qI_eq, qI_L, qI_ix, qL_lt, qL_eq, q_nat, q_cs, ← Int32.ofInt_add, ← Int32.ofInt_sub, ← Int32.ofInt_mul, ← Int32.ofInt_neg, ← Int64.ofInt_add, ← Int64.ofInt_sub, ← Int64.ofInt_mul, ← Int64.ofInt_neg, pL_I, q_mx, q_mn, q_ab, q_abL, q_mnL, q_nn0, q_nn1, q_rr, q_b1, q_b0, q_T, q_F, q_iT, q_iF, q_d, q_in, q_wi, q_hC, q_hM, pT_i, pU_i, pS_i, pS_j, pS_0, Sum.elim_inl, Sum.elim_inr, if_pos, if_neg]
  · have x3 : φ2.1 12 0 14 = 3 := by
      rw [m14, c3]
      rfl
    unfold f_X12_readStep_186
    rw [if_pos x3]
    show (f_X12_must true φ2).bind (fun p1 => gTail rc v1 blk (Int32.ofInt (s : Int)) p1) = _
    rw [d2, Option.bind_some]
  · unfold gq at m6 ⊢
    rw [(d6 501 r R rfl).1, (d6 502 r R rfl).1, (d7 1373 0 s rfl).1, (d7 1374 0 s rfl).1]
    exact m6
  · rw [(d7 1372 0 s rfl).1, (m9 1372 0 s rfl).1]
    exact ρ72
  · rw [(d7 12 0 55 rfl).1, (m9 12 0 55 rfl).1]
    exact ρ55
theorem tk_deed {σ1 σ2 : am_H} {n : Nat} {b : Nat → Int} {s p e : Nat} (h : tk σ1 σ2 n b s p e) : ∃ t : Int, f_X4_deedOf σ1 = some (Int32.ofInt t) ∧ f_X12_stepWord σ2 = some (Int32.ofInt t) ∧ (-1 ≤ t ∧ t ≤ 5) ∧ (0 ≤ t → s = 1 ∧ wq b s p e 10 = false) := by
  have A := tk_word h (by omega : 11 < 22)
  have B := tk_word h (by omega : 12 < 22)
  have C := tk_word h (by omega : 13 < 22)
  have D := tk_word h (by omega : 14 < 22)
  have E := tk_word h (by omega : 15 < 22)
  have F := tk_word h (by omega : 16 < 22)
  have x : ∀ q : Nat, wl q ≠ wl 10 → wq b s p e q = true → s = 1 ∧ wq b s p e 10 = false := fun q hq z => ⟨wq_1 z, wq_x z hq⟩
  unfold f_X4_deedOf f_X12_stepWord
  rw [A.1, Option.bind_some, sp_11, Option.bind_some, A.2, Option.bind_some]
  cases w1 : wq b s p e 11 with
  | true => exact ⟨0, rfl, rfl, by omega, fun _ => x 11 (by decide) w1⟩
  | false =>
  rw [if_neg Bool.false_ne_true, if_neg Bool.false_ne_true, B.1, Option.bind_some, sp_12, Option.bind_some, B.2, Option.bind_some]
  cases w2 : wq b s p e 12 with
  | true => exact ⟨1, rfl, rfl, by omega, fun _ => x 12 (by decide) w2⟩
  | false =>
  rw [if_neg Bool.false_ne_true, if_neg Bool.false_ne_true, C.1, Option.bind_some, sp_13, Option.bind_some, C.2, Option.bind_some]
  cases w3 : wq b s p e 13 with
  | true => exact ⟨2, rfl, rfl, by omega, fun _ => x 13 (by decide) w3⟩
  | false =>
  rw [if_neg Bool.false_ne_true, if_neg Bool.false_ne_true, D.1, Option.bind_some, sp_14, Option.bind_some, D.2, Option.bind_some]
  cases w4 : wq b s p e 14 with
  | true => exact ⟨3, rfl, rfl, by omega, fun _ => x 14 (by decide) w4⟩
  | false =>
  rw [if_neg Bool.false_ne_true, if_neg Bool.false_ne_true, E.1, Option.bind_some, sp_15, Option.bind_some, E.2, Option.bind_some]
  cases w5 : wq b s p e 15 with
  | true => exact ⟨4, rfl, rfl, by omega, fun _ => x 15 (by decide) w5⟩
  | false =>
  rw [if_neg Bool.false_ne_true, if_neg Bool.false_ne_true, F.1, Option.bind_some, sp_16, Option.bind_some, F.2, Option.bind_some]
  cases w6 : wq b s p e 16 with
  | true => exact ⟨5, rfl, rfl, by omega, fun _ => x 16 (by decide) w6⟩
  | false => exact ⟨-1, rfl, rfl, by omega, fun z => by omega⟩
