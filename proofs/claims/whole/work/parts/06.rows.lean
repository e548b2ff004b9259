/-! ===== rows, and calls ===== -/
section
variable {X : am_X} {Γ : am_M} {Q : Option Value → am_H → Prop} {pc : Nat} {lv : List (Nat × Value)} {st : List Value} {σ : am_H}
theorem am_arr {k i q : Nat} (hk : ¬ k < 13) (h0 : (am_at k).1 = 0 ∨ (am_at k).1 = 2 ∨ (am_at k).1 = 3) (hq : (am_ks X)[q]? = some (k, i)) : (am_wl X σ)[q]? = some (am_ad X k i, .inl (am_cA X k, (am_at k).2.1, .inl (σ.1 k i))) := by
  rw [am_wl_at hq, am_ev_at hk, am_ct_I h0]
theorem am_arrL {k i q : Nat} (hk : ¬ k < 13) (h0 : (am_at k).1 = 1) (hq : (am_ks X)[q]? = some (k, i)) : (am_wl X σ)[q]? = some (am_ad X k i, .inl (am_cA X k, (am_at k).2.1, .inr (.inl (σ.2.1 k i)))) := by
  rw [am_wl_at hq, am_ev_at hk, am_ct_L h0]
theorem am_evA_I {k i j : Nat} {v : Int32} (hk : ¬ k < 13) (h0 : (am_at k).1 = 0 ∨ (am_at k).1 = 2 ∨ (am_at k).1 = 3) : am_ev X (am_wI σ k i j v) k i = .inl (am_cA X k, (am_at k).2.1, .inl (upd (σ.1 k i) j v)) := by
  rw [am_ev_at hk, am_ct_I h0, am_updI]
theorem am_evA_L {k i j : Nat} {v : Int64} (hk : ¬ k < 13) (h0 : (am_at k).1 = 1) : am_ev X (am_wL σ k i j v) k i = .inl (am_cA X k, (am_at k).2.1, .inr (.inl (vp_updL (σ.2.1 k i) j v))) := by
  rw [am_ev_at hk, am_ct_L h0, am_updL]
theorem g_iald {k i j : Nat} {x : Int32} (hi : (k, i) ∈ am_ks X) (ha : k ∈ am_aks) (hk : ¬ k < 13) (h0 : (am_at k).1 = 0) (hx0 : am_ix (am_at k).2.1 x = some j) (d : decode Γ.2.1 pc = .ok (.iaload, 1)) (kk : am_G X Γ Q (pc + 1) lv (.int (σ.1 k i j) :: st) σ) : am_G X Γ Q pc lv (.int x :: .ref (am_ad X k i) :: st) σ := by
  intro p e R s m args below meth c S H locs ls hP hS hl
  obtain ⟨hx, hb, -, -, -, -, -, -, hK, -⟩ := id S
  obtain ⟨q, hq⟩ := am_key hi
  obtain ⟨t0, ht0⟩ := am_tyat (X := X) ha
  obtain ⟨hin, rfl⟩ := am_ix_in hx0
  have hty : am_ety k = .int := by unfold am_ety; rw [h0]; rfl
  rw [hty] at ht0
  exact va_iald hx hb hK hP q t0 (am_arr hk (Or.inl h0) hq) ht0 hin d (kk p e R s m args below meth c S H locs ls hP hS hl)
theorem g_bald {k i j : Nat} {x : Int32} (hi : (k, i) ∈ am_ks X) (ha : k ∈ am_aks) (hk : ¬ k < 13) (h0 : (am_at k).1 = 2) (hx0 : am_ix (am_at k).2.1 x = some j) (d : decode Γ.2.1 pc = .ok (.baload, 1)) (kk : am_G X Γ Q (pc + 1) lv (.int (σ.1 k i j) :: st) σ) : am_G X Γ Q pc lv (.int x :: .ref (am_ad X k i) :: st) σ := by
  intro p e R s m args below meth c S H locs ls hP hS hl
  obtain ⟨hx, hb, -, -, -, -, -, -, hK, -⟩ := id S
  obtain ⟨q, hq⟩ := am_key hi
  obtain ⟨t0, ht0⟩ := am_tyat (X := X) ha
  obtain ⟨hin, rfl⟩ := am_ix_in hx0
  have hty : am_ety k = .byte := by unfold am_ety; rw [h0]; rfl
  rw [hty] at ht0
  exact va_bald hx hb hK hP q t0 (am_arr hk (Or.inr (Or.inl h0)) hq) ht0 hin d (kk p e R s m args below meth c S H locs ls hP hS hl)
theorem g_zald {k i j : Nat} {x : Int32} (hi : (k, i) ∈ am_ks X) (ha : k ∈ am_aks) (hk : ¬ k < 13) (h0 : (am_at k).1 = 3) (hx0 : am_ix (am_at k).2.1 x = some j) (d : decode Γ.2.1 pc = .ok (.baload, 1)) (kk : am_G X Γ Q (pc + 1) lv (.int (σ.1 k i j) :: st) σ) : am_G X Γ Q pc lv (.int x :: .ref (am_ad X k i) :: st) σ := by
  intro p e R s m args below meth c S H locs ls hP hS hl
  obtain ⟨hx, hb, -, -, -, -, -, -, hK, -⟩ := id S
  obtain ⟨q, hq⟩ := am_key hi
  obtain ⟨t0, ht0⟩ := am_tyat (X := X) ha
  obtain ⟨hin, rfl⟩ := am_ix_in hx0
  have hty : am_ety k = .boolean := by unfold am_ety; rw [h0]; rfl
  rw [hty] at ht0
  exact va_zald hx hb hK hP q t0 (am_arr hk (Or.inr (Or.inr h0)) hq) ht0 hin d (kk p e R s m args below meth c S H locs ls hP hS hl)
theorem g_lald {k i j : Nat} {x : Int32} (hi : (k, i) ∈ am_ks X) (ha : k ∈ am_aks) (hk : ¬ k < 13) (h0 : (am_at k).1 = 1) (hx0 : am_ix (am_at k).2.1 x = some j) (d : decode Γ.2.1 pc = .ok (.laload, 1)) (kk : am_G X Γ Q (pc + 1) lv (.long (σ.2.1 k i j) :: st) σ) : am_G X Γ Q pc lv (.int x :: .ref (am_ad X k i) :: st) σ := by
  intro p e R s m args below meth c S H locs ls hP hS hl
  obtain ⟨hx, hb, -, -, -, -, -, -, hK, -⟩ := id S
  obtain ⟨q, hq⟩ := am_key hi
  obtain ⟨t0, ht0⟩ := am_tyat (X := X) ha
  obtain ⟨hin, rfl⟩ := am_ix_in hx0
  have hty : am_ety k = .long := by unfold am_ety; rw [h0]; rfl
  rw [hty] at ht0
  exact va_lald hx hb hK hP q t0 (am_arrL hk h0 hq) ht0 hin d (kk p e R s m args below meth c S H locs ls hP hS hl)
theorem g_iast {k i j : Nat} {x v : Int32} (hi : (k, i) ∈ am_ks X) (ha : k ∈ am_aks) (hk : ¬ k < 13) (h0 : (am_at k).1 = 0) (hx0 : am_ix (am_at k).2.1 x = some j) (d : decode Γ.2.1 pc = .ok (.iastore, 1)) (kk : am_G X Γ Q (pc + 1) lv st (am_wI σ k i j v)) : am_G X Γ Q pc lv (.int v :: .int x :: .ref (am_ad X k i) :: st) σ := by
  intro p e R s m args below meth c S H locs ls hP hS hl
  obtain ⟨hx, hb, -, -, -, -, -, -, hK, -, hJ⟩ := id S
  obtain ⟨q, hq⟩ := am_key hi
  obtain ⟨t0, ht0⟩ := am_tyat (X := X) ha
  obtain ⟨hin, rfl⟩ := am_ix_in hx0
  have hty : am_ety k = .int := by unfold am_ety; rw [h0]; rfl
  rw [hty] at ht0
  have hset := am_set (σ := σ) hJ hq (am_evA_I (j := x.toNatClampNeg) (v := v) hk (Or.inl h0)) (fun a b h => am_ev_neI h)
  exact va_iast hx hb hK hP (am_Dl hJ) hS q t0 (am_arr hk (Or.inl h0) hq) ht0 hin d (fun H1 locs1 hP1 hD1 hS1 => kk p e R s m args below meth c S H1 locs1 ls (by rw [← hset]; exact hP1) hS1 hl)
theorem g_bast {k i j : Nat} {x v : Int32} (hi : (k, i) ∈ am_ks X) (ha : k ∈ am_aks) (hk : ¬ k < 13) (h0 : (am_at k).1 = 2) (hx0 : am_ix (am_at k).2.1 x = some j) (d : decode Γ.2.1 pc = .ok (.bastore, 1)) (kk : am_G X Γ Q (pc + 1) lv st (am_wI σ k i j v.toInt8.toInt32)) : am_G X Γ Q pc lv (.int v :: .int x :: .ref (am_ad X k i) :: st) σ := by
  intro p e R s m args below meth c S H locs ls hP hS hl
  obtain ⟨hx, hb, -, -, -, -, -, -, hK, -, hJ⟩ := id S
  obtain ⟨q, hq⟩ := am_key hi
  obtain ⟨t0, ht0⟩ := am_tyat (X := X) ha
  obtain ⟨hin, rfl⟩ := am_ix_in hx0
  have hty : am_ety k = .byte := by unfold am_ety; rw [h0]; rfl
  rw [hty] at ht0
  have hset := am_set (σ := σ) hJ hq (am_evA_I (j := x.toNatClampNeg) (v := v.toInt8.toInt32) hk (Or.inr (Or.inl h0))) (fun a b h => am_ev_neI h)
  exact va_bast hx hb hK hP (am_Dl hJ) hS q t0 (am_arr hk (Or.inr (Or.inl h0)) hq) ht0 hin d (fun H1 locs1 hP1 hD1 hS1 => kk p e R s m args below meth c S H1 locs1 ls (by rw [← hset]; rw [vp_nar_byte] at hP1; exact hP1) hS1 hl)
theorem g_zast {k i j : Nat} {x : Int32} {v : Bool} (hi : (k, i) ∈ am_ks X) (ha : k ∈ am_aks) (hk : ¬ k < 13) (h0 : (am_at k).1 = 3) (hx0 : am_ix (am_at k).2.1 x = some j) (d : decode Γ.2.1 pc = .ok (.bastore, 1)) (kk : am_G X Γ Q (pc + 1) lv st (am_wI σ k i j (am_b v))) : am_G X Γ Q pc lv (.int (am_b v) :: .int x :: .ref (am_ad X k i) :: st) σ := by
  intro p e R s m args below meth c S H locs ls hP hS hl
  obtain ⟨hx, hb, -, -, -, -, -, -, hK, -, hJ⟩ := id S
  obtain ⟨q, hq⟩ := am_key hi
  obtain ⟨t0, ht0⟩ := am_tyat (X := X) ha
  obtain ⟨hin, rfl⟩ := am_ix_in hx0
  have hty : am_ety k = .boolean := by unfold am_ety; rw [h0]; rfl
  rw [hty] at ht0
  have hset := am_set (σ := σ) hJ hq (am_evA_I (j := x.toNatClampNeg) (v := am_b v) hk (Or.inr (Or.inr h0))) (fun a b h => am_ev_neI h)
  have hnar : vp_nar .boolean (am_b v) = am_b v := by cases v <;> rfl
  exact va_zast hx hb hK hP (am_Dl hJ) hS q t0 (am_arr hk (Or.inr (Or.inr h0)) hq) ht0 hin d (fun H1 locs1 hP1 hD1 hS1 => kk p e R s m args below meth c S H1 locs1 ls (by rw [← hset]; rw [hnar] at hP1; exact hP1) hS1 hl)
theorem g_last {k i j : Nat} {x : Int32} {v : Int64} (hi : (k, i) ∈ am_ks X) (ha : k ∈ am_aks) (hk : ¬ k < 13) (h0 : (am_at k).1 = 1) (hx0 : am_ix (am_at k).2.1 x = some j) (d : decode Γ.2.1 pc = .ok (.lastore, 1)) (kk : am_G X Γ Q (pc + 1) lv st (am_wL σ k i j v)) : am_G X Γ Q pc lv (.long v :: .int x :: .ref (am_ad X k i) :: st) σ := by
  intro p e R s m args below meth c S H locs ls hP hS hl
  obtain ⟨hx, hb, -, -, -, -, -, -, hK, -, hJ⟩ := id S
  obtain ⟨q, hq⟩ := am_key hi
  obtain ⟨t0, ht0⟩ := am_tyat (X := X) ha
  obtain ⟨hin, rfl⟩ := am_ix_in hx0
  have hty : am_ety k = .long := by unfold am_ety; rw [h0]; rfl
  rw [hty] at ht0
  have hset := am_set (σ := σ) hJ hq (am_evA_L (j := x.toNatClampNeg) (v := v) hk h0) (fun a b h => am_ev_neL h)
  exact va_last hx hb hK hP (am_Dl hJ) hS q t0 (am_arrL hk h0 hq) ht0 hin d (fun H1 locs1 hP1 hD1 hS1 => kk p e R s m args below meth c S H1 locs1 ls (by rw [← hset]; exact hP1) hS1 hl)
/-- a row of constant references -/
theorem g_aaldC {k i j : Nat} {x : Int32} (hi : (k, i) ∈ am_ks X) (ha : k ∈ am_aks) (hk : ¬ k < 13) (h0 : (am_at k).1 = 4) (hx0 : am_ix (am_at k).2.1 x = some j) (d : decode Γ.2.1 pc = .ok (.aaload, 1)) (kk : am_G X Γ Q (pc + 1) lv (.ref (am_ad X (am_at k).2.2 (am_el k i j)) :: st) σ) : am_G X Γ Q pc lv (.int x :: .ref (am_ad X k i) :: st) σ := by
  intro p e R s m args below meth c S H locs ls hP hS hl
  obtain ⟨hx, hb, -, -, -, -, -, -, hK, -⟩ := id S
  obtain ⟨q, hq⟩ := am_key hi
  obtain ⟨t0, ht0⟩ := am_tyat (X := X) ha
  obtain ⟨hin, rfl⟩ := am_ix_in hx0
  have hty : am_ety k = .object (vwCl.getD (am_at k).2.2 (RX0, TX0, 0)).1 := by unfold am_ety; rw [h0]; rfl
  rw [hty] at ht0
  have hw : (am_wl X σ)[q]? = some (am_ad X k i, .inl (am_cA X k, (am_at k).2.1, .inr (.inr (.inr (.inr (fun j => some (am_ad X (am_at k).2.2 (am_el k i j)))))))) := by
    rw [am_wl_at hq, am_ev_at hk]
    unfold am_ct
    rw [h0]
    rfl
  exact va_aldq hx hb hK hP q t0 hw ht0 hin d (kk p e R s m args below meth c S H locs ls hP hS hl)
/-- a row of references that may change -/
theorem g_aaldD {k i j a : Nat} {x : Int32} (hi : (k, i) ∈ am_ks X) (ha : k ∈ am_aks) (hk : ¬ k < 13) (h0 : (am_at k).1 = 5) (hx0 : am_ix (am_at k).2.1 x = some j) (hr : σ.2.2 k i j = some a) (d : decode Γ.2.1 pc = .ok (.aaload, 1)) (kk : am_G X Γ Q (pc + 1) lv (.ref (am_ad X (am_at k).2.2 a) :: st) σ) : am_G X Γ Q pc lv (.int x :: .ref (am_ad X k i) :: st) σ := by
  intro p e R s m args below meth c S H locs ls hP hS hl
  obtain ⟨hx, hb, -, -, -, -, -, -, hK, -⟩ := id S
  obtain ⟨q, hq⟩ := am_key hi
  obtain ⟨t0, ht0⟩ := am_tyat (X := X) ha
  obtain ⟨hin, rfl⟩ := am_ix_in hx0
  have hty : am_ety k = .object (vwCl.getD (am_at k).2.2 (RX0, TX0, 0)).1 := by unfold am_ety; rw [h0]; rfl
  rw [hty] at ht0
  have hw : (am_wl X σ)[q]? = some (am_ad X k i, .inl (am_cA X k, (am_at k).2.1, .inr (.inr (.inr (.inr (fun j => (σ.2.2 k i j).map (am_ad X (am_at k).2.2))))))) := by
    rw [am_wl_at hq, am_ev_at hk]
    unfold am_ct
    rw [h0]
    rfl
  refine va_aldq hx hb hK hP q t0 hw ht0 hin d ?_
  show W _ _ _ _ _ _ _ _ _ _ _ _ _ _ _ (F0 m (pc + 1) ls (va_rf ((σ.2.2 k i x.toNatClampNeg).map (am_ad X (am_at k).2.2)) :: st))
  rw [hr]
  exact kk p e R s m args below meth c S H locs ls hP hS hl
theorem g_aastD {k i j a t : Nat} {x : Int32} {C : String} {T : u_T} {N : Nat} {ty : Nat → FieldType} (hi : (k, i) ∈ am_ks X) (ha : k ∈ am_aks) (hk : ¬ k < 13) (h0 : am_at k = (5, (am_at k).2.1, t)) (hd : am_kd t C T N ty) (hai : (t, a) ∈ am_ks X) (hx0 : am_ix (am_at k).2.1 x = some j) (d : decode Γ.2.1 pc = .ok (.aastore, 1)) (kk : am_G X Γ Q (pc + 1) lv st (am_wR σ k i j (some a))) : am_G X Γ Q pc lv (.ref (am_ad X t a) :: .int x :: .ref (am_ad X k i) :: st) σ := by
  intro p e R s m args below meth c S H locs ls hP hS hl
  obtain ⟨hx, hb, -, -, -, -, -, -, hK, -, hJ⟩ := id S
  obtain ⟨q, hq⟩ := am_key hi
  obtain ⟨q2, hq2⟩ := am_key hai
  obtain ⟨t0, ht0⟩ := am_tyat (X := X) ha
  obtain ⟨hin, rfl⟩ := am_ix_in hx0
  have h1 : (am_at k).1 = 5 := by rw [h0]
  have h2 : (am_at k).2.2 = t := by rw [h0]
  have hty : am_ety k = .object C := by
    unfold am_ety
    rw [h1, h2]
    show FieldType.object (vwCl.getD t (RX0, TX0, 0)).1 = _
    rw [List.getD_eq_getElem?_getD, hd.2.1]
    rfl
  rw [hty] at ht0
  have hw : ∀ σ : am_H, (am_wl X σ)[q]? = some (am_ad X k i, .inl (am_cA X k, (am_at k).2.1, .inr (.inr (.inr (.inr (fun j => (σ.2.2 k i j).map (am_ad X t))))))) := by
    intro σ
    rw [am_wl_at hq, am_ev_at hk]
    unfold am_ct
    rw [h1, h2]
    rfl
  have he : am_ev X (am_wR σ k i x.toNatClampNeg (some a)) k i = .inl (am_cA X k, (am_at k).2.1, .inr (.inr (.inr (.inr (va_up (fun j => (σ.2.2 k i j).map (am_ad X t)) x.toNatClampNeg (some (am_ad X t a))))))) := by
    rw [am_ev_at hk]
    unfold am_ct
    rw [h1, h2]
    show Sum.inl (am_cA X k, (am_at k).2.1, Sum.inr (Sum.inr (Sum.inr (Sum.inr (fun j => (am_u3 σ.2.2 k i x.toNatClampNeg (some a) k i j).map (am_ad X t)))))) = _
    congr 7
    funext c
    rw [am_u3_eq]
    unfold va_up
    split <;> rfl
  have hset := am_set (σ := σ) hJ hq he (fun a b h => am_ev_neR h)
  have h3 := am_wl_at (σ := σ) hq2
  rw [am_ob hd] at h3
  exact va_astq hx hb hK hP (am_Dl hJ) hS q t0 q2 t (hw σ) ht0 h3 hd.2.1 hin d (fun H1 locs1 hP1 hD1 hS1 => kk p e R s m args below meth c S H1 locs1 ls (by rw [← hset]; exact hP1) hS1 hl)
end
