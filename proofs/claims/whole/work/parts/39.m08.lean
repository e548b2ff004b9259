theorem dX12_isWorn_0 : decode cX12_isWorn 0 = .ok (.iconst 0, 1) := by decide +kernel
theorem dX12_isWorn_1 : decode cX12_isWorn 1 = .ok (.istore 4, 2) := by decide +kernel
theorem dX12_isWorn_3 : decode cX12_isWorn 3 = .ok (.iload 4, 2) := by decide +kernel
theorem dX12_isWorn_5 : decode cX12_isWorn 5 = .ok (.aload_n 0, 1) := by decide +kernel
theorem dX12_isWorn_6 : decode cX12_isWorn 6 = .ok (.getfield 35, 3) := by decide +kernel
theorem dX12_isWorn_9 : decode cX12_isWorn 9 = .ok (.iload_n 1, 1) := by decide +kernel
theorem dX12_isWorn_10 : decode cX12_isWorn 10 = .ok (.iaload, 1) := by decide +kernel
theorem dX12_isWorn_11 : decode cX12_isWorn 11 = .ok (.if_icmp .ge 48, 3) := by decide +kernel
theorem dX12_isWorn_14 : decode cX12_isWorn 14 = .ok (.iconst 0, 1) := by decide +kernel
theorem dX12_isWorn_15 : decode cX12_isWorn 15 = .ok (.istore 5, 2) := by decide +kernel
theorem dX12_isWorn_17 : decode cX12_isWorn 17 = .ok (.iload 5, 2) := by decide +kernel
theorem dX12_isWorn_19 : decode cX12_isWorn 19 = .ok (.aload_n 0, 1) := by decide +kernel
theorem dX12_isWorn_20 : decode cX12_isWorn 20 = .ok (.iload_n 1, 1) := by decide +kernel
theorem dX12_isWorn_21 : decode cX12_isWorn 21 = .ok (.iload 4, 2) := by decide +kernel
theorem dX12_isWorn_23 : decode cX12_isWorn 23 = .ok (.invokevirtual 542, 3) := by decide +kernel
theorem dX12_isWorn_26 : decode cX12_isWorn 26 = .ok (.if_icmp .ge 27, 3) := by decide +kernel
theorem dX12_isWorn_29 : decode cX12_isWorn 29 = .ok (.aload_n 0, 1) := by decide +kernel
theorem dX12_isWorn_30 : decode cX12_isWorn 30 = .ok (.iload_n 1, 1) := by decide +kernel
theorem dX12_isWorn_31 : decode cX12_isWorn 31 = .ok (.iload 4, 2) := by decide +kernel
theorem dX12_isWorn_33 : decode cX12_isWorn 33 = .ok (.iload 5, 2) := by decide +kernel
theorem dX12_isWorn_35 : decode cX12_isWorn 35 = .ok (.iload_n 2, 1) := by decide +kernel
theorem dX12_isWorn_36 : decode cX12_isWorn 36 = .ok (.invokevirtual 545, 3) := by decide +kernel
theorem dX12_isWorn_39 : decode cX12_isWorn 39 = .ok (.iload_n 3, 1) := by decide +kernel
theorem dX12_isWorn_40 : decode cX12_isWorn 40 = .ok (.i2l, 1) := by decide +kernel
theorem dX12_isWorn_41 : decode cX12_isWorn 41 = .ok (.lcmp, 1) := by decide +kernel
theorem dX12_isWorn_42 : decode cX12_isWorn 42 = .ok (.ifCond .lt 5, 3) := by decide +kernel
theorem dX12_isWorn_45 : decode cX12_isWorn 45 = .ok (.iconst 1, 1) := by decide +kernel
theorem dX12_isWorn_46 : decode cX12_isWorn 46 = .ok (.ireturn, 1) := by decide +kernel
theorem dX12_isWorn_47 : decode cX12_isWorn 47 = .ok (.iinc 5 2, 3) := by decide +kernel
theorem dX12_isWorn_50 : decode cX12_isWorn 50 = .ok (.goto (-33), 3) := by decide +kernel
theorem dX12_isWorn_53 : decode cX12_isWorn 53 = .ok (.iinc 4 1, 3) := by decide +kernel
theorem dX12_isWorn_56 : decode cX12_isWorn 56 = .ok (.goto (-53), 3) := by decide +kernel
theorem dX12_isWorn_59 : decode cX12_isWorn 59 = .ok (.iconst 0, 1) := by decide +kernel
theorem dX12_isWorn_60 : decode cX12_isWorn 60 = .ok (.ireturn, 1) := by decide +kernel
noncomputable def f_X12_isWorn_17 (v1 : Int32) (v2 : Int32) (v3 : Int32) (v4 : Int32) (v5 : Int32) (σ : am_H) : Option ((Int32) ⊕ ((Unit) ⊕ (Unit))) :=
  (f_X12_wheels v1 v4 σ).bind fun p1 =>
  if v5 < p1 then
   ((f_X12_wear v1 v4 v5 v2 σ).bind fun p3 =>
   if p3 < (Int32.toInt64 v3) then
    (some (.inl (v5 + 2)))
   else
   some (.inr (.inl ())))
  else
  some (.inr (.inr ()))
set_option maxRecDepth 100000 in
set_option maxHeartbeats 4000000 in
theorem q_X12_isWorn_17 {X : am_X} (hX : am_ks X = am_ksM) {Q : Option Value → am_H → Prop} (v1 : Int32) (v2 : Int32) (v3 : Int32) (v4 : Int32) (v5 : Int32) (σ : am_H) {o : (Int32) ⊕ ((Unit) ⊕ (Unit))} (hf : f_X12_isWorn_17 v1 v2 v3 v4 v5 σ = some o) (hk0 : ∀ s, o = .inl s → am_G X gm_X12_isWorn Q 17 [(0, .ref (am_ad X 12 0)), (1, .int v1), (2, .int v2), (3, .int v3), (4, .int v4), (5, .int s)] [] σ) (hk1 : ∀ t, o = .inr (.inl t) → am_G X gm_X12_isWorn Q 45 [] [] σ) (hk2 : ∀ t, o = .inr (.inr t) → am_G X gm_X12_isWorn Q 53 [(0, .ref (am_ad X 12 0)), (1, .int v1), (2, .int v2), (3, .int v3), (4, .int v4)] [] σ) : am_G X gm_X12_isWorn Q 17 [(0, .ref (am_ad X 12 0)), (1, .int v1), (2, .int v2), (3, .int v3), (4, .int v4), (5, .int v5)] [] σ := by
  unfold f_X12_isWorn_17 at hf
  refine g_iload (pc := 17) 5 rfl dX12_isWorn_17 ?_
  refine g_aload_n (pc := 19) 0 rfl dX12_isWorn_19 rfl ?_
  refine g_iload_n (pc := 20) 1 rfl dX12_isWorn_20 rfl ?_
  refine g_iload (pc := 21) 4 rfl dX12_isWorn_21 ?_
  obtain ⟨p1, hp1, hf⟩ := am_bd hf
  refine g_cV (pc := 23) (As := [.int v1, .int v4]) (st := [.int v5]) (st1 := [.int p1, .int v5]) (in_12 hX (by omega)) kk_12 mV_X12_wheels ln_X12_542 rfl (Nat.le_of_ble_eq_true rfl) (Nat.le_of_ble_eq_true rfl) (k_X12_wheels hX v1 v4 σ hp1) dX12_isWorn_23 rfl rfl ?_
  refine bi_ge (pc := 26) 53 dX12_isWorn_26 rfl (fun c2 => ?_) (fun c2 => ?_)
  · replace hf := am_ifT c2 hf
    refine g_aload_n (pc := 29) 0 rfl dX12_isWorn_29 rfl ?_
    refine g_iload_n (pc := 30) 1 rfl dX12_isWorn_30 rfl ?_
    refine g_iload (pc := 31) 4 rfl dX12_isWorn_31 ?_
    refine g_iload (pc := 33) 5 rfl dX12_isWorn_33 ?_
    refine g_iload_n (pc := 35) 2 rfl dX12_isWorn_35 rfl ?_
    obtain ⟨p3, hp3, hf⟩ := am_bd hf
    refine g_cV (pc := 36) (As := [.int v1, .int v4, .int v5, .int v2]) (st := []) (st1 := [.long p3]) (in_12 hX (by omega)) kk_12 mV_X12_wear ln_X12_545 rfl (Nat.le_of_ble_eq_true rfl) (Nat.le_of_ble_eq_true rfl) (k_X12_wear hX v1 v4 v5 v2 σ hp3) dX12_isWorn_36 rfl rfl ?_
    refine g_iload_n (pc := 39) 3 rfl dX12_isWorn_39 rfl ?_
    refine g_i2l (pc := 40) dX12_isWorn_40 ?_
    refine g_lcm (pc := 41) dX12_isWorn_41 ?_
    refine bl_lt (pc := 42) 47 dX12_isWorn_42 rfl (fun c4 => ?_) (fun c4 => ?_)
    · replace hf := am_ifT c4 hf
      refine g_iinc (pc := 47) (v := (v5 + 2)) 5 [(5, .int (v5 + 2)), (0, .ref (am_ad X 12 0)), (1, .int v1), (2, .int v2), (3, .int v3), (4, .int v4)] dX12_isWorn_47 rfl rfl (Nat.le_of_ble_eq_true rfl) rfl ?_
      refine g_goto (pc := 50) 17 dX12_isWorn_50 rfl ?_
      have hz := hk0 _ (Option.some.inj hf).symm
      exact am_sub [1, 2, 3, 4, 5, 0] rfl hz
    replace hf := am_ifF c4 hf
    have hz := hk1 _ (Option.some.inj hf).symm
    exact am_sub [] rfl hz
  replace hf := am_ifF c2 hf
  have hz := hk2 _ (Option.some.inj hf).symm
  exact am_sub [0, 1, 2, 3, 4] rfl hz
set_option maxRecDepth 100000 in
set_option maxHeartbeats 4000000 in
theorem l_X12_isWorn_17 {X : am_X} (hX : am_ks X = am_ksM) {Q : Option Value → am_H → Prop} (v1 : Int32) (v2 : Int32) (v3 : Int32) (v4 : Int32) (σ : am_H) (s : Int32) {o : (Unit) ⊕ (Unit)} (hf : am_loop (fun s => f_X12_isWorn_17 v1 v2 v3 v4 s σ) s = some o) (hk1 : ∀ t, o = (.inl t) → am_G X gm_X12_isWorn Q 45 [] [] σ) (hk2 : ∀ t, o = (.inr t) → am_G X gm_X12_isWorn Q 53 [(0, .ref (am_ad X 12 0)), (1, .int v1), (2, .int v2), (3, .int v3), (4, .int v4)] [] σ) : am_G X gm_X12_isWorn Q 17 [(0, .ref (am_ad X 12 0)), (1, .int v1), (2, .int v2), (3, .int v3), (4, .int v4), (5, .int s)] [] σ := by
  refine am_loop_ind (P := fun s => am_G X gm_X12_isWorn Q 17 [(0, .ref (am_ad X 12 0)), (1, .int v1), (2, .int v2), (3, .int v3), (4, .int v4), (5, .int s)] [] σ) (K := fun r => r = o) ?_ hf rfl
  intro s o1 hb hi hr
  exact q_X12_isWorn_17 hX v1 v2 v3 v4 s  σ hb hi (fun t e => hk1 t (hr _ e).symm) (fun t e => hk2 t (hr _ e).symm)
noncomputable def f_X12_isWorn_3 (v1 : Int32) (v2 : Int32) (v3 : Int32) (v4 : Int32) (σ : am_H) : Option ((Int32) ⊕ ((Unit) ⊕ (Unit))) :=
  (am_ix 3 v1).bind fun j1 =>
  if v4 < (σ.1 1320 0 j1) then
   ((am_loop (fun s => f_X12_isWorn_17 v1 v2 v3 v4 s σ) 0).bind fun w3 =>
   Sum.elim (fun t3_0 =>
    some (.inr (.inl ()))) (fun u3_0 =>
    some (.inl (v4 + 1))) w3)
  else
  some (.inr (.inr ()))
set_option maxRecDepth 100000 in
set_option maxHeartbeats 4000000 in
theorem q_X12_isWorn_3 {X : am_X} (hX : am_ks X = am_ksM) {Q : Option Value → am_H → Prop} (v1 : Int32) (v2 : Int32) (v3 : Int32) (v4 : Int32) (σ : am_H) {o : (Int32) ⊕ ((Unit) ⊕ (Unit))} (hf : f_X12_isWorn_3 v1 v2 v3 v4 σ = some o) (hk0 : ∀ s, o = .inl s → am_G X gm_X12_isWorn Q 3 [(0, .ref (am_ad X 12 0)), (1, .int v1), (2, .int v2), (3, .int v3), (4, .int s)] [] σ) (hk1 : ∀ t, o = .inr (.inl t) → am_G X gm_X12_isWorn Q 45 [] [] σ) (hk2 : ∀ t, o = .inr (.inr t) → am_G X gm_X12_isWorn Q 59 [] [] σ) : am_G X gm_X12_isWorn Q 3 [(0, .ref (am_ad X 12 0)), (1, .int v1), (2, .int v2), (3, .int v3), (4, .int v4)] [] σ := by
  unfold f_X12_isWorn_3 at hf
  refine g_iload (pc := 3) 4 rfl dX12_isWorn_3 ?_
  refine g_aload_n (pc := 5) 0 rfl dX12_isWorn_5 rfl ?_
  refine g_getC (pc := 6) (e := 0) (in_12 hX (by omega)) fr_X12_35 dX12_isWorn_6 rfl ?_
  refine g_iload_n (pc := 9) 1 rfl dX12_isWorn_9 rfl ?_
  obtain ⟨j1, hj1, hf⟩ := am_bd hf
  have gj1 := am_ix_lt hj1
  refine g_aI (pc := 10) (in_1320 hX (by omega)) ak_1320 hj1 dX12_isWorn_10 ?_
  refine bi_ge (pc := 11) 59 dX12_isWorn_11 rfl (fun c2 => ?_) (fun c2 => ?_)
  · replace hf := am_ifT c2 hf
    refine g_iconst (pc := 14) (v := 0) dX12_isWorn_14 (by decide) ?_
    refine g_istore (pc := 15) [(5, .int 0), (0, .ref (am_ad X 12 0)), (1, .int v1), (2, .int v2), (3, .int v3), (4, .int v4)] dX12_isWorn_15 (Nat.le_of_ble_eq_true rfl) rfl ?_
    obtain ⟨w3, hw3, hf⟩ := am_bd hf
    refine am_sub [1, 2, 3, 4, 5, 0] rfl (l_X12_isWorn_17 hX v1 v2 v3 v4  σ 0 hw3 ?_ ?_)
    · intro t3_0 e
      subst e
      replace hf := am_elL hf
      have hz := hk1 _ (Option.some.inj hf).symm
      exact hz
    · intro u3_0 e
      subst e
      replace hf := am_elR hf
      refine g_iinc (pc := 53) (v := (v4 + 1)) 4 [(4, .int (v4 + 1)), (0, .ref (am_ad X 12 0)), (1, .int v1), (2, .int v2), (3, .int v3)] dX12_isWorn_53 rfl rfl (Nat.le_of_ble_eq_true rfl) rfl ?_
      refine g_goto (pc := 56) 3 dX12_isWorn_56 rfl ?_
      have hz := hk0 _ (Option.some.inj hf).symm
      exact am_sub [1, 2, 3, 4, 0] rfl hz
  replace hf := am_ifF c2 hf
  have hz := hk2 _ (Option.some.inj hf).symm
  exact am_sub [] rfl hz
set_option maxRecDepth 100000 in
set_option maxHeartbeats 4000000 in
theorem l_X12_isWorn_3 {X : am_X} (hX : am_ks X = am_ksM) {Q : Option Value → am_H → Prop} (v1 : Int32) (v2 : Int32) (v3 : Int32) (σ : am_H) (s : Int32) {o : (Unit) ⊕ (Unit)} (hf : am_loop (fun s => f_X12_isWorn_3 v1 v2 v3 s σ) s = some o) (hk1 : ∀ t, o = (.inl t) → am_G X gm_X12_isWorn Q 45 [] [] σ) (hk2 : ∀ t, o = (.inr t) → am_G X gm_X12_isWorn Q 59 [] [] σ) : am_G X gm_X12_isWorn Q 3 [(0, .ref (am_ad X 12 0)), (1, .int v1), (2, .int v2), (3, .int v3), (4, .int s)] [] σ := by
  refine am_loop_ind (P := fun s => am_G X gm_X12_isWorn Q 3 [(0, .ref (am_ad X 12 0)), (1, .int v1), (2, .int v2), (3, .int v3), (4, .int s)] [] σ) (K := fun r => r = o) ?_ hf rfl
  intro s o1 hb hi hr
  exact q_X12_isWorn_3 hX v1 v2 v3 s  σ hb hi (fun t e => hk1 t (hr _ e).symm) (fun t e => hk2 t (hr _ e).symm)
noncomputable def f_X12_isWorn (v1 : Int32) (v2 : Int32) (v3 : Int32) (σ : am_H) : Option (Bool) :=
  (am_loop (fun s => f_X12_isWorn_3 v1 v2 v3 s σ) 0).bind fun w1 =>
  Sum.elim (fun t1_0 =>
   some true) (fun u1_0 =>
   some false) w1
set_option maxRecDepth 100000 in
set_option maxHeartbeats 4000000 in
theorem q_X12_isWorn {X : am_X} (hX : am_ks X = am_ksM) {Q : Option Value → am_H → Prop} (v1 : Int32) (v2 : Int32) (v3 : Int32) (σ : am_H) {o : Bool} (hf : f_X12_isWorn v1 v2 v3 σ = some o) (hk : Q (some (.int (am_b o))) σ) : am_G X gm_X12_isWorn Q 0 [(0, .ref (am_ad X 12 0)), (1, .int v1), (2, .int v2), (3, .int v3)] [] σ := by
  unfold f_X12_isWorn at hf
  refine g_iconst (pc := 0) (v := 0) dX12_isWorn_0 (by decide) ?_
  refine g_istore (pc := 1) [(4, .int 0), (0, .ref (am_ad X 12 0)), (1, .int v1), (2, .int v2), (3, .int v3)] dX12_isWorn_1 (Nat.le_of_ble_eq_true rfl) rfl ?_
  obtain ⟨w1, hw1, hf⟩ := am_bd hf
  refine am_sub [1, 2, 3, 4, 0] rfl (l_X12_isWorn_3 hX v1 v2 v3  σ 0 hw1 ?_ ?_)
  · intro t1_0 e
    subst e
    replace hf := am_elL hf
    refine g_iconst (pc := 45) (v := 1) dX12_isWorn_45 (by decide) ?_
    have ho := Option.some.inj hf
    subst ho
    exact g_zreturn (pc := 46) (st := []) (x := true) rfl dX12_isWorn_46 hk
  · intro u1_0 e
    subst e
    replace hf := am_elR hf
    refine g_iconst (pc := 59) (v := 0) dX12_isWorn_59 (by decide) ?_
    have ho := Option.some.inj hf
    subst ho
    exact g_zreturn (pc := 60) (st := []) (x := false) rfl dX12_isWorn_60 hk
theorem k_X12_isWorn {X : am_X} (hX : am_ks X = am_ksM) (v1 : Int32) (v2 : Int32) (v3 : Int32) (σ : am_H) {o : Bool} (hf : f_X12_isWorn v1 v2 v3 σ = some o) : am_C X gm_X12_isWorn [.ref (am_ad X 12 0), .int v1, .int v2, .int v3] σ (am_is (some (.int (am_b o))) σ) :=
  am_ofG rfl (Nat.le_of_ble_eq_true rfl) rfl (q_X12_isWorn hX v1 v2 v3 σ hf ⟨rfl, rfl⟩)
theorem dX12_lasts_0 : decode cX12_lasts 0 = .ok (.aload_n 0, 1) := by decide +kernel
theorem dX12_lasts_1 : decode cX12_lasts 1 = .ok (.iconst 0, 1) := by decide +kernel
theorem dX12_lasts_2 : decode cX12_lasts 2 = .ok (.putfield 122, 3) := by decide +kernel
theorem dX12_lasts_5 : decode cX12_lasts 5 = .ok (.aload_n 0, 1) := by decide +kernel
theorem dX12_lasts_6 : decode cX12_lasts 6 = .ok (.iconst 0, 1) := by decide +kernel
theorem dX12_lasts_7 : decode cX12_lasts 7 = .ok (.putfield 125, 3) := by decide +kernel
theorem dX12_lasts_10 : decode cX12_lasts 10 = .ok (.iload_n 1, 1) := by decide +kernel
theorem dX12_lasts_11 : decode cX12_lasts 11 = .ok (.invokestatic 280, 3) := by decide +kernel
theorem dX12_lasts_14 : decode cX12_lasts 14 = .ok (.ifCond .ne 9, 3) := by decide +kernel
theorem dX12_lasts_17 : decode cX12_lasts 17 = .ok (.aload_n 0, 1) := by decide +kernel
theorem dX12_lasts_18 : decode cX12_lasts 18 = .ok (.iconst 2, 1) := by decide +kernel
theorem dX12_lasts_19 : decode cX12_lasts 19 = .ok (.invokevirtual 283, 3) := by decide +kernel
theorem dX12_lasts_22 : decode cX12_lasts 22 = .ok (.ireturn, 1) := by decide +kernel
theorem dX12_lasts_23 : decode cX12_lasts 23 = .ok (.iload_n 2, 1) := by decide +kernel
theorem dX12_lasts_24 : decode cX12_lasts 24 = .ok (.i2l, 1) := by decide +kernel
theorem dX12_lasts_25 : decode cX12_lasts 25 = .ok (.lconst 1, 1) := by decide +kernel
theorem dX12_lasts_26 : decode cX12_lasts 26 = .ok (.ldc2_w 548, 3) := by decide +kernel
theorem dX12_lasts_29 : decode cX12_lasts 29 = .ok (.invokestatic 239, 3) := by decide +kernel
theorem dX12_lasts_32 : decode cX12_lasts 32 = .ok (.ifCond .ne 9, 3) := by decide +kernel
theorem dX12_lasts_35 : decode cX12_lasts 35 = .ok (.aload_n 0, 1) := by decide +kernel
theorem dX12_lasts_36 : decode cX12_lasts 36 = .ok (.iconst 5, 1) := by decide +kernel
theorem dX12_lasts_37 : decode cX12_lasts 37 = .ok (.invokevirtual 283, 3) := by decide +kernel
theorem dX12_lasts_40 : decode cX12_lasts 40 = .ok (.ireturn, 1) := by decide +kernel
theorem dX12_lasts_41 : decode cX12_lasts 41 = .ok (.aload_n 0, 1) := by decide +kernel
theorem dX12_lasts_42 : decode cX12_lasts 42 = .ok (.iload_n 1, 1) := by decide +kernel
theorem dX12_lasts_43 : decode cX12_lasts 43 = .ok (.ldc_w 526, 3) := by decide +kernel
theorem dX12_lasts_46 : decode cX12_lasts 46 = .ok (.iload_n 2, 1) := by decide +kernel
theorem dX12_lasts_47 : decode cX12_lasts 47 = .ok (.invokevirtual 550, 3) := by decide +kernel
theorem dX12_lasts_50 : decode cX12_lasts 50 = .ok (.ifCond .ne 10, 3) := by decide +kernel
theorem dX12_lasts_53 : decode cX12_lasts 53 = .ok (.aload_n 0, 1) := by decide +kernel
theorem dX12_lasts_54 : decode cX12_lasts 54 = .ok (.bipush 8, 2) := by decide +kernel
theorem dX12_lasts_56 : decode cX12_lasts 56 = .ok (.invokevirtual 283, 3) := by decide +kernel
theorem dX12_lasts_59 : decode cX12_lasts 59 = .ok (.ireturn, 1) := by decide +kernel
theorem dX12_lasts_60 : decode cX12_lasts 60 = .ok (.iconst 0, 1) := by decide +kernel
theorem dX12_lasts_61 : decode cX12_lasts 61 = .ok (.istore_n 3, 1) := by decide +kernel
theorem dX12_lasts_62 : decode cX12_lasts 62 = .ok (.ldc_w 526, 3) := by decide +kernel
theorem dX12_lasts_65 : decode cX12_lasts 65 = .ok (.istore 4, 2) := by decide +kernel
theorem dX12_lasts_67 : decode cX12_lasts 67 = .ok (.iload_n 3, 1) := by decide +kernel
theorem dX12_lasts_68 : decode cX12_lasts 68 = .ok (.iload 4, 2) := by decide +kernel
theorem dX12_lasts_70 : decode cX12_lasts 70 = .ok (.if_icmp .ge 37, 3) := by decide +kernel
theorem dX12_lasts_73 : decode cX12_lasts 73 = .ok (.iload_n 3, 1) := by decide +kernel
theorem dX12_lasts_74 : decode cX12_lasts 74 = .ok (.iload 4, 2) := by decide +kernel
theorem dX12_lasts_76 : decode cX12_lasts 76 = .ok (.iadd, 1) := by decide +kernel
theorem dX12_lasts_77 : decode cX12_lasts 77 = .ok (.iconst 2, 1) := by decide +kernel
theorem dX12_lasts_78 : decode cX12_lasts 78 = .ok (.idiv, 1) := by decide +kernel
theorem dX12_lasts_79 : decode cX12_lasts 79 = .ok (.istore 5, 2) := by decide +kernel
theorem dX12_lasts_81 : decode cX12_lasts 81 = .ok (.aload_n 0, 1) := by decide +kernel
theorem dX12_lasts_82 : decode cX12_lasts 82 = .ok (.iload_n 1, 1) := by decide +kernel
theorem dX12_lasts_83 : decode cX12_lasts 83 = .ok (.iload 5, 2) := by decide +kernel
theorem dX12_lasts_85 : decode cX12_lasts 85 = .ok (.iload_n 2, 1) := by decide +kernel
theorem dX12_lasts_86 : decode cX12_lasts 86 = .ok (.invokevirtual 550, 3) := by decide +kernel
theorem dX12_lasts_89 : decode cX12_lasts 89 = .ok (.ifCond .eq 10, 3) := by decide +kernel
theorem dX12_lasts_92 : decode cX12_lasts 92 = .ok (.iload 5, 2) := by decide +kernel
theorem dX12_lasts_94 : decode cX12_lasts 94 = .ok (.istore 4, 2) := by decide +kernel
theorem dX12_lasts_96 : decode cX12_lasts 96 = .ok (.goto 8, 3) := by decide +kernel
theorem dX12_lasts_99 : decode cX12_lasts 99 = .ok (.iload 5, 2) := by decide +kernel
theorem dX12_lasts_101 : decode cX12_lasts 101 = .ok (.iconst 1, 1) := by decide +kernel
theorem dX12_lasts_102 : decode cX12_lasts 102 = .ok (.iadd, 1) := by decide +kernel
theorem dX12_lasts_103 : decode cX12_lasts 103 = .ok (.istore_n 3, 1) := by decide +kernel
theorem dX12_lasts_104 : decode cX12_lasts 104 = .ok (.goto (-37), 3) := by decide +kernel
theorem dX12_lasts_107 : decode cX12_lasts 107 = .ok (.iload_n 3, 1) := by decide +kernel
theorem dX12_lasts_108 : decode cX12_lasts 108 = .ok (.ireturn, 1) := by decide +kernel
noncomputable def f_X12_lasts_67 (v1 : Int32) (v2 : Int32) (v3 : Int32) (v4 : Int32) (σ : am_H) : Option ((Int32 × Int32) ⊕ (Int32)) :=
  if v3 < v4 then
   ((f_X12_isWorn v1 ((v3 + v4) / 2) v2 σ).bind fun p2 =>
   if p2 = true then
    (some (.inl (v3, ((v3 + v4) / 2))))
   else
   some (.inl ((((v3 + v4) / 2) + 1), v4)))
  else
  some (.inr v3)
set_option maxRecDepth 100000 in
set_option maxHeartbeats 4000000 in
theorem q_X12_lasts_67 {X : am_X} (hX : am_ks X = am_ksM) {Q : Option Value → am_H → Prop} (v1 : Int32) (v2 : Int32) (v3 : Int32) (v4 : Int32) (σ : am_H) {o : (Int32 × Int32) ⊕ (Int32)} (hf : f_X12_lasts_67 v1 v2 v3 v4 σ = some o) (hk0 : ∀ s, o = .inl s → am_G X gm_X12_lasts Q 67 [(0, .ref (am_ad X 12 0)), (1, .int v1), (2, .int v2), (3, .int s.1), (4, .int s.2)] [] σ) (hk1 : ∀ t, o = .inr t → am_G X gm_X12_lasts Q 107 [(3, .int t)] [] σ) : am_G X gm_X12_lasts Q 67 [(0, .ref (am_ad X 12 0)), (1, .int v1), (2, .int v2), (3, .int v3), (4, .int v4)] [] σ := by
  unfold f_X12_lasts_67 at hf
  refine g_iload_n (pc := 67) 3 rfl dX12_lasts_67 rfl ?_
  refine g_iload (pc := 68) 4 rfl dX12_lasts_68 ?_
  refine bi_ge (pc := 70) 107 dX12_lasts_70 rfl (fun c1 => ?_) (fun c1 => ?_)
  · replace hf := am_ifT c1 hf
    refine g_iload_n (pc := 73) 3 rfl dX12_lasts_73 rfl ?_
    refine g_iload (pc := 74) 4 rfl dX12_lasts_74 ?_
    refine g_iadd (pc := 76) dX12_lasts_76 ?_
    refine g_iconst (pc := 77) (v := 2) dX12_lasts_77 (by decide) ?_
    refine g_idiv (pc := 78) dX12_lasts_78 (by decide) ?_
    refine g_istore (pc := 79) [(5, .int ((v3 + v4) / 2)), (0, .ref (am_ad X 12 0)), (1, .int v1), (2, .int v2), (3, .int v3), (4, .int v4)] dX12_lasts_79 (Nat.le_of_ble_eq_true rfl) rfl ?_
    refine g_aload_n (pc := 81) 1 rfl dX12_lasts_81 rfl ?_
    refine g_iload_n (pc := 82) 2 rfl dX12_lasts_82 rfl ?_
    refine g_iload (pc := 83) 0 rfl dX12_lasts_83 ?_
    refine g_iload_n (pc := 85) 3 rfl dX12_lasts_85 rfl ?_
    obtain ⟨p2, hp2, hf⟩ := am_bd hf
    refine g_cV (pc := 86) (As := [.int v1, .int ((v3 + v4) / 2), .int v2]) (st := []) (st1 := [.int (am_b p2)]) (in_12 hX (by omega)) kk_12 mV_X12_isWorn ln_X12_550 rfl (Nat.le_of_ble_eq_true rfl) (Nat.le_of_ble_eq_true rfl) (k_X12_isWorn hX v1 ((v3 + v4) / 2) v2 σ hp2) dX12_lasts_86 rfl rfl ?_
    refine bt_eq (pc := 89) 99 dX12_lasts_89 rfl (fun c3 => ?_) (fun c3 => ?_)
    · replace hf := am_ifT c3 hf
      refine g_iload (pc := 92) 0 rfl dX12_lasts_92 ?_
      refine g_istore (pc := 94) [(4, .int ((v3 + v4) / 2)), (5, .int ((v3 + v4) / 2)), (0, .ref (am_ad X 12 0)), (1, .int v1), (2, .int v2), (3, .int v3)] dX12_lasts_94 (Nat.le_of_ble_eq_true rfl) rfl ?_
      refine g_goto (pc := 96) 104 dX12_lasts_96 rfl ?_
      refine g_goto (pc := 104) 67 dX12_lasts_104 rfl ?_
      have hz := hk0 _ (Option.some.inj hf).symm
      exact am_sub [2, 3, 4, 5, 0] rfl hz
    replace hf := am_ifF c3 hf
    refine g_iload (pc := 99) 0 rfl dX12_lasts_99 ?_
    refine g_iconst (pc := 101) (v := 1) dX12_lasts_101 (by decide) ?_
    refine g_iadd (pc := 102) dX12_lasts_102 ?_
    refine g_istore_n (pc := 103) [(3, .int (((v3 + v4) / 2) + 1)), (5, .int ((v3 + v4) / 2)), (0, .ref (am_ad X 12 0)), (1, .int v1), (2, .int v2), (4, .int v4)] dX12_lasts_103 rfl (Nat.le_of_ble_eq_true rfl) rfl ?_
    refine g_goto (pc := 104) 67 dX12_lasts_104 rfl ?_
    have hz := hk0 _ (Option.some.inj hf).symm
    exact am_sub [2, 3, 4, 0, 5] rfl hz
  replace hf := am_ifF c1 hf
  have hz := hk1 _ (Option.some.inj hf).symm
  exact am_sub [3] rfl hz
set_option maxRecDepth 100000 in
set_option maxHeartbeats 4000000 in
theorem l_X12_lasts_67 {X : am_X} (hX : am_ks X = am_ksM) {Q : Option Value → am_H → Prop} (v1 : Int32) (v2 : Int32) (σ : am_H) (s : Int32 × Int32) {o : Int32} (hf : am_loop (fun s => f_X12_lasts_67 v1 v2 s.1 s.2 σ) s = some o) (hk1 : ∀ t, o = t → am_G X gm_X12_lasts Q 107 [(3, .int t)] [] σ) : am_G X gm_X12_lasts Q 67 [(0, .ref (am_ad X 12 0)), (1, .int v1), (2, .int v2), (3, .int s.1), (4, .int s.2)] [] σ := by
  refine am_loop_ind (P := fun s => am_G X gm_X12_lasts Q 67 [(0, .ref (am_ad X 12 0)), (1, .int v1), (2, .int v2), (3, .int s.1), (4, .int s.2)] [] σ) (K := fun r => r = o) ?_ hf rfl
  intro s o1 hb hi hr
  exact q_X12_lasts_67 hX v1 v2 s.1 s.2  σ hb hi (fun t e => hk1 t (hr _ e).symm)
noncomputable def f_X12_lasts (v1 : Int32) (v2 : Int32) (σ : am_H) : Option (Int32 × am_H) :=
  (some (am_wI σ 12 0 1 0)).bind fun s1 =>
  (some (am_wI s1 12 0 0 0)).bind fun s2 =>
  (f_X12_isMachine v1 s2).bind fun p3 =>
  if p3 = true then
   ((f_X12_isIn (Int32.toInt64 v2) 1 9999999 s2).bind fun p5 =>
   if p5 = true then
    ((f_X12_isWorn v1 99999 v2 s2).bind fun p7 =>
    if p7 = true then
     ((am_loop (fun s => f_X12_lasts_67 v1 v2 s.1 s.2 s2) (0, 99999)).bind fun w9 =>
     some (w9, s2))
    else
    (f_X12_refuse 8 s2).bind fun p10 =>
    some (p10.1, p10.2))
   else
   (f_X12_refuse 5 s2).bind fun p11 =>
   some (p11.1, p11.2))
  else
  (f_X12_refuse 2 s2).bind fun p12 =>
  some (p12.1, p12.2)
set_option maxRecDepth 100000 in
set_option maxHeartbeats 4000000 in
theorem q_X12_lasts {X : am_X} (hX : am_ks X = am_ksM) {Q : Option Value → am_H → Prop} (v1 : Int32) (v2 : Int32) (σ : am_H) {o : Int32 × am_H} (hf : f_X12_lasts v1 v2 σ = some o) (hk : Q (some (.int o.1)) o.2) : am_G X gm_X12_lasts Q 0 [(0, .ref (am_ad X 12 0)), (1, .int v1), (2, .int v2)] [] σ := by
  unfold f_X12_lasts at hf
  refine g_aload_n (pc := 0) 0 rfl dX12_lasts_0 rfl ?_
  refine g_iconst (pc := 1) (v := 0) dX12_lasts_1 (by decide) ?_
  obtain ⟨s1, hs1, hf⟩ := am_bd hf
  refine g_setI (pc := 2) (in_12 hX (by omega)) fr_X12_122 dX12_lasts_2 (Option.some.inj hs1) ?_
  refine g_aload_n (pc := 5) 0 rfl dX12_lasts_5 rfl ?_
  refine g_iconst (pc := 6) (v := 0) dX12_lasts_6 (by decide) ?_
  obtain ⟨s2, hs2, hf⟩ := am_bd hf
  refine g_setI (pc := 7) (in_12 hX (by omega)) fr_X12_125 dX12_lasts_7 (Option.some.inj hs2) ?_
  refine g_iload_n (pc := 10) 1 rfl dX12_lasts_10 rfl ?_
  obtain ⟨p3, hp3, hf⟩ := am_bd hf
  refine g_cS (pc := 11) (As := [.int v1]) (st := []) (st1 := [.int (am_b p3)]) mS_X12_isMachine ln_X12_280 rfl (Nat.le_of_ble_eq_true rfl) (Nat.le_of_ble_eq_true rfl) (k_X12_isMachine hX v1 s2 hp3) dX12_lasts_11 rfl rfl ?_
  refine bt_ne (pc := 14) 23 dX12_lasts_14 rfl (fun c4 => ?_) (fun c4 => ?_)
  · replace hf := am_ifT c4 hf
    refine g_iload_n (pc := 23) 2 rfl dX12_lasts_23 rfl ?_
    refine g_i2l (pc := 24) dX12_lasts_24 ?_
    refine g_lconst (pc := 25) (v := 1) dX12_lasts_25 (by decide) ?_
    refine g_ldc2 (pc := 26) (v := 9999999) (tb_10 (List.mem_of_getElem? (i := 69) (by decide +kernel))) dX12_lasts_26 ?_
    obtain ⟨p5, hp5, hf⟩ := am_bd hf
    refine g_cS (pc := 29) (As := [.long (Int32.toInt64 v2), .long 1, .long 9999999]) (st := []) (st1 := [.int (am_b p5)]) mS_X12_isIn ln_X12_239 rfl (Nat.le_of_ble_eq_true rfl) (Nat.le_of_ble_eq_true rfl) (k_X12_isIn hX (Int32.toInt64 v2) 1 9999999 s2 hp5) dX12_lasts_29 rfl rfl ?_
    refine bt_ne (pc := 32) 41 dX12_lasts_32 rfl (fun c6 => ?_) (fun c6 => ?_)
    · replace hf := am_ifT c6 hf
      refine g_aload_n (pc := 41) 0 rfl dX12_lasts_41 rfl ?_
      refine g_iload_n (pc := 42) 1 rfl dX12_lasts_42 rfl ?_
      refine g_ldcw (pc := 43) (v := 99999) (tb_10 (List.mem_of_getElem? (i := 31) (by decide +kernel))) dX12_lasts_43 ?_
      refine g_iload_n (pc := 46) 2 rfl dX12_lasts_46 rfl ?_
      obtain ⟨p7, hp7, hf⟩ := am_bd hf
      refine g_cV (pc := 47) (As := [.int v1, .int 99999, .int v2]) (st := []) (st1 := [.int (am_b p7)]) (in_12 hX (by omega)) kk_12 mV_X12_isWorn ln_X12_550 rfl (Nat.le_of_ble_eq_true rfl) (Nat.le_of_ble_eq_true rfl) (k_X12_isWorn hX v1 99999 v2 s2 hp7) dX12_lasts_47 rfl rfl ?_
      refine bt_ne (pc := 50) 60 dX12_lasts_50 rfl (fun c8 => ?_) (fun c8 => ?_)
      · replace hf := am_ifT c8 hf
        refine g_iconst (pc := 60) (v := 0) dX12_lasts_60 (by decide) ?_
        refine g_istore_n (pc := 61) [(3, .int 0), (0, .ref (am_ad X 12 0)), (1, .int v1), (2, .int v2)] dX12_lasts_61 rfl (Nat.le_of_ble_eq_true rfl) rfl ?_
        refine g_ldcw (pc := 62) (v := 99999) (tb_10 (List.mem_of_getElem? (i := 31) (by decide +kernel))) dX12_lasts_62 ?_
        refine g_istore (pc := 65) [(4, .int 99999), (3, .int 0), (0, .ref (am_ad X 12 0)), (1, .int v1), (2, .int v2)] dX12_lasts_65 (Nat.le_of_ble_eq_true rfl) rfl ?_
        obtain ⟨w9, hw9, hf⟩ := am_bd hf
        refine am_sub [2, 3, 4, 1, 0] rfl (l_X12_lasts_67 hX v1 v2  s2 (0, 99999) hw9 ?_)
        intro t e
        subst e
        refine g_iload_n (pc := 107) 0 rfl dX12_lasts_107 rfl ?_
        have ho := Option.some.inj hf
        subst ho
        exact g_ireturn (pc := 108) (st := []) rfl dX12_lasts_108 hk
      replace hf := am_ifF c8 hf
      refine g_aload_n (pc := 53) 0 rfl dX12_lasts_53 rfl ?_
      refine g_bipush (pc := 54) (v := 8) dX12_lasts_54 (by decide) ?_
      obtain ⟨p10, hp10, hf⟩ := am_bd hf
      refine g_cV (pc := 56) (As := [.int 8]) (st := []) (st1 := [.int p10.1]) (in_12 hX (by omega)) kk_12 mV_X12_refuse ln_X12_283 rfl (Nat.le_of_ble_eq_true rfl) (Nat.le_of_ble_eq_true rfl) (k_X12_refuse hX 8 s2 hp10) dX12_lasts_56 rfl rfl ?_
      have ho := Option.some.inj hf
      subst ho
      exact g_ireturn (pc := 59) (st := []) rfl dX12_lasts_59 hk
    replace hf := am_ifF c6 hf
    refine g_aload_n (pc := 35) 0 rfl dX12_lasts_35 rfl ?_
    refine g_iconst (pc := 36) (v := 5) dX12_lasts_36 (by decide) ?_
    obtain ⟨p11, hp11, hf⟩ := am_bd hf
    refine g_cV (pc := 37) (As := [.int 5]) (st := []) (st1 := [.int p11.1]) (in_12 hX (by omega)) kk_12 mV_X12_refuse ln_X12_283 rfl (Nat.le_of_ble_eq_true rfl) (Nat.le_of_ble_eq_true rfl) (k_X12_refuse hX 5 s2 hp11) dX12_lasts_37 rfl rfl ?_
    have ho := Option.some.inj hf
    subst ho
    exact g_ireturn (pc := 40) (st := []) rfl dX12_lasts_40 hk
  replace hf := am_ifF c4 hf
  refine g_aload_n (pc := 17) 0 rfl dX12_lasts_17 rfl ?_
  refine g_iconst (pc := 18) (v := 2) dX12_lasts_18 (by decide) ?_
  obtain ⟨p12, hp12, hf⟩ := am_bd hf
  refine g_cV (pc := 19) (As := [.int 2]) (st := []) (st1 := [.int p12.1]) (in_12 hX (by omega)) kk_12 mV_X12_refuse ln_X12_283 rfl (Nat.le_of_ble_eq_true rfl) (Nat.le_of_ble_eq_true rfl) (k_X12_refuse hX 2 s2 hp12) dX12_lasts_19 rfl rfl ?_
  have ho := Option.some.inj hf
  subst ho
  exact g_ireturn (pc := 22) (st := []) rfl dX12_lasts_22 hk
theorem k_X12_lasts {X : am_X} (hX : am_ks X = am_ksM) (v1 : Int32) (v2 : Int32) (σ : am_H) {o : Int32 × am_H} (hf : f_X12_lasts v1 v2 σ = some o) : am_C X gm_X12_lasts [.ref (am_ad X 12 0), .int v1, .int v2] σ (am_is (some (.int o.1)) o.2) :=
  am_ofG rfl (Nat.le_of_ble_eq_true rfl) rfl (q_X12_lasts hX v1 v2 σ hf ⟨rfl, rfl⟩)
theorem dX12_allOff_0 : decode cX12_allOff 0 = .ok (.lconst 0, 1) := by decide +kernel
theorem dX12_allOff_1 : decode cX12_allOff 1 = .ok (.lstore_n 2, 1) := by decide +kernel
theorem dX12_allOff_2 : decode cX12_allOff 2 = .ok (.iconst 0, 1) := by decide +kernel
theorem dX12_allOff_3 : decode cX12_allOff 3 = .ok (.istore 4, 2) := by decide +kernel
theorem dX12_allOff_5 : decode cX12_allOff 5 = .ok (.iload 4, 2) := by decide +kernel
theorem dX12_allOff_7 : decode cX12_allOff 7 = .ok (.iconst 2, 1) := by decide +kernel
theorem dX12_allOff_8 : decode cX12_allOff 8 = .ok (.if_icmp .ge 125, 3) := by decide +kernel
theorem dX12_allOff_11 : decode cX12_allOff 11 = .ok (.iconst 0, 1) := by decide +kernel
theorem dX12_allOff_12 : decode cX12_allOff 12 = .ok (.istore 5, 2) := by decide +kernel
theorem dX12_allOff_14 : decode cX12_allOff 14 = .ok (.iload 5, 2) := by decide +kernel
theorem dX12_allOff_16 : decode cX12_allOff 16 = .ok (.aload_n 0, 1) := by decide +kernel
theorem dX12_allOff_17 : decode cX12_allOff 17 = .ok (.getfield 35, 3) := by decide +kernel
theorem dX12_allOff_20 : decode cX12_allOff 20 = .ok (.iload 4, 2) := by decide +kernel
theorem dX12_allOff_22 : decode cX12_allOff 22 = .ok (.iaload, 1) := by decide +kernel
theorem dX12_allOff_23 : decode cX12_allOff 23 = .ok (.if_icmp .ge 104, 3) := by decide +kernel
theorem dX12_allOff_26 : decode cX12_allOff 26 = .ok (.aload_n 0, 1) := by decide +kernel
theorem dX12_allOff_27 : decode cX12_allOff 27 = .ok (.iload 4, 2) := by decide +kernel
theorem dX12_allOff_29 : decode cX12_allOff 29 = .ok (.iload 5, 2) := by decide +kernel
theorem dX12_allOff_31 : decode cX12_allOff 31 = .ok (.invokevirtual 306, 3) := by decide +kernel
theorem dX12_allOff_34 : decode cX12_allOff 34 = .ok (.ifCond .ne 6, 3) := by decide +kernel
theorem dX12_allOff_37 : decode cX12_allOff 37 = .ok (.goto 84, 3) := by decide +kernel
theorem dX12_allOff_40 : decode cX12_allOff 40 = .ok (.aload_n 0, 1) := by decide +kernel
theorem dX12_allOff_41 : decode cX12_allOff 41 = .ok (.iload 4, 2) := by decide +kernel
theorem dX12_allOff_43 : decode cX12_allOff 43 = .ok (.iload 5, 2) := by decide +kernel
theorem dX12_allOff_45 : decode cX12_allOff 45 = .ok (.bipush 6, 2) := by decide +kernel
theorem dX12_allOff_47 : decode cX12_allOff 47 = .ok (.invokevirtual 297, 3) := by decide +kernel
theorem dX12_allOff_50 : decode cX12_allOff 50 = .ok (.i2l, 1) := by decide +kernel
theorem dX12_allOff_51 : decode cX12_allOff 51 = .ok (.aload_n 0, 1) := by decide +kernel
theorem dX12_allOff_52 : decode cX12_allOff 52 = .ok (.iload 4, 2) := by decide +kernel
theorem dX12_allOff_54 : decode cX12_allOff 54 = .ok (.iload 5, 2) := by decide +kernel
theorem dX12_allOff_56 : decode cX12_allOff 56 = .ok (.bipush 8, 2) := by decide +kernel
theorem dX12_allOff_58 : decode cX12_allOff 58 = .ok (.invokevirtual 297, 3) := by decide +kernel
theorem dX12_allOff_61 : decode cX12_allOff 61 = .ok (.i2l, 1) := by decide +kernel
theorem dX12_allOff_62 : decode cX12_allOff 62 = .ok (.lmul, 1) := by decide +kernel
theorem dX12_allOff_63 : decode cX12_allOff 63 = .ok (.lstore 6, 2) := by decide +kernel
theorem dX12_allOff_65 : decode cX12_allOff 65 = .ok (.lload_n 2, 1) := by decide +kernel
theorem dX12_allOff_66 : decode cX12_allOff 66 = .ok (.aload_n 0, 1) := by decide +kernel
theorem dX12_allOff_67 : decode cX12_allOff 67 = .ok (.iload 4, 2) := by decide +kernel
theorem dX12_allOff_69 : decode cX12_allOff 69 = .ok (.iload 5, 2) := by decide +kernel
theorem dX12_allOff_71 : decode cX12_allOff 71 = .ok (.aload_n 0, 1) := by decide +kernel
theorem dX12_allOff_72 : decode cX12_allOff 72 = .ok (.iload 4, 2) := by decide +kernel
theorem dX12_allOff_74 : decode cX12_allOff 74 = .ok (.iload 5, 2) := by decide +kernel
theorem dX12_allOff_76 : decode cX12_allOff 76 = .ok (.iconst 5, 1) := by decide +kernel
theorem dX12_allOff_77 : decode cX12_allOff 77 = .ok (.invokevirtual 297, 3) := by decide +kernel
theorem dX12_allOff_80 : decode cX12_allOff 80 = .ok (.i2l, 1) := by decide +kernel
theorem dX12_allOff_81 : decode cX12_allOff 81 = .ok (.aload_n 0, 1) := by decide +kernel
theorem dX12_allOff_82 : decode cX12_allOff 82 = .ok (.iload 4, 2) := by decide +kernel
theorem dX12_allOff_84 : decode cX12_allOff 84 = .ok (.iload 5, 2) := by decide +kernel
theorem dX12_allOff_86 : decode cX12_allOff 86 = .ok (.bipush 7, 2) := by decide +kernel
theorem dX12_allOff_88 : decode cX12_allOff 88 = .ok (.invokevirtual 297, 3) := by decide +kernel
theorem dX12_allOff_91 : decode cX12_allOff 91 = .ok (.i2l, 1) := by decide +kernel
theorem dX12_allOff_92 : decode cX12_allOff 92 = .ok (.lmul, 1) := by decide +kernel
theorem dX12_allOff_93 : decode cX12_allOff 93 = .ok (.lload 6, 2) := by decide +kernel
theorem dX12_allOff_95 : decode cX12_allOff 95 = .ok (.invokevirtual 340, 3) := by decide +kernel
theorem dX12_allOff_98 : decode cX12_allOff 98 = .ok (.iload_n 1, 1) := by decide +kernel
theorem dX12_allOff_99 : decode cX12_allOff 99 = .ok (.i2l, 1) := by decide +kernel
theorem dX12_allOff_100 : decode cX12_allOff 100 = .ok (.lmul, 1) := by decide +kernel
theorem dX12_allOff_101 : decode cX12_allOff 101 = .ok (.ldc2_w 400, 3) := by decide +kernel
theorem dX12_allOff_104 : decode cX12_allOff 104 = .ok (.lmul, 1) := by decide +kernel
theorem dX12_allOff_105 : decode cX12_allOff 105 = .ok (.lload 6, 2) := by decide +kernel
theorem dX12_allOff_107 : decode cX12_allOff 107 = .ok (.aload_n 0, 1) := by decide +kernel
theorem dX12_allOff_108 : decode cX12_allOff 108 = .ok (.iload 4, 2) := by decide +kernel
theorem dX12_allOff_110 : decode cX12_allOff 110 = .ok (.iload 5, 2) := by decide +kernel
theorem dX12_allOff_112 : decode cX12_allOff 112 = .ok (.iconst 1, 1) := by decide +kernel
theorem dX12_allOff_113 : decode cX12_allOff 113 = .ok (.invokevirtual 297, 3) := by decide +kernel
theorem dX12_allOff_116 : decode cX12_allOff 116 = .ok (.i2l, 1) := by decide +kernel
theorem dX12_allOff_117 : decode cX12_allOff 117 = .ok (.lmul, 1) := by decide +kernel
theorem dX12_allOff_118 : decode cX12_allOff 118 = .ok (.ldiv, 1) := by decide +kernel
theorem dX12_allOff_119 : decode cX12_allOff 119 = .ok (.ladd, 1) := by decide +kernel
theorem dX12_allOff_120 : decode cX12_allOff 120 = .ok (.lstore_n 2, 1) := by decide +kernel
theorem dX12_allOff_121 : decode cX12_allOff 121 = .ok (.iinc 5 1, 3) := by decide +kernel
theorem dX12_allOff_124 : decode cX12_allOff 124 = .ok (.goto (-110), 3) := by decide +kernel
theorem dX12_allOff_127 : decode cX12_allOff 127 = .ok (.iinc 4 1, 3) := by decide +kernel
theorem dX12_allOff_130 : decode cX12_allOff 130 = .ok (.goto (-125), 3) := by decide +kernel
theorem dX12_allOff_133 : decode cX12_allOff 133 = .ok (.lload_n 2, 1) := by decide +kernel
theorem dX12_allOff_134 : decode cX12_allOff 134 = .ok (.lreturn, 1) := by decide +kernel
noncomputable def f_X12_allOff_14 (v1 : Int32) (v2 : Int64) (v4 : Int32) (v5 : Int32) (σ : am_H) : Option ((Int64 × Int32) ⊕ (Int64)) :=
  (am_ix 3 v4).bind fun j1 =>
  if v5 < (σ.1 1320 0 j1) then
   ((f_X12_hasTrain v4 v5 σ).bind fun p3 =>
   if p3 = true then
    ((f_X12_of v4 v5 6 σ).bind fun p5 =>
    (f_X12_of v4 v5 8 σ).bind fun p6 =>
    (f_X12_of v4 v5 5 σ).bind fun p7 =>
    (f_X12_of v4 v5 7 σ).bind fun p8 =>
    (f_X12_offOf v4 v5 ((Int32.toInt64 p7) * (Int32.toInt64 p8)) ((Int32.toInt64 p5) * (Int32.toInt64 p6)) σ).bind fun p9 =>
    (f_X12_of v4 v5 1 σ).bind fun p10 =>
    if (((Int32.toInt64 p5) * (Int32.toInt64 p6)) * (Int32.toInt64 p10)) = 0 then none else
    some (.inl ((v2 + (((p9 * (Int32.toInt64 v1)) * 1000) / (((Int32.toInt64 p5) * (Int32.toInt64 p6)) * (Int32.toInt64 p10)))), (v5 + 1))))
   else
   some (.inl (v2, (v5 + 1))))
  else
  some (.inr v2)
set_option maxRecDepth 100000 in
set_option maxHeartbeats 4000000 in
theorem q_X12_allOff_14 {X : am_X} (hX : am_ks X = am_ksM) {Q : Option Value → am_H → Prop} (v1 : Int32) (v2 : Int64) (v4 : Int32) (v5 : Int32) (σ : am_H) {o : (Int64 × Int32) ⊕ (Int64)} (hf : f_X12_allOff_14 v1 v2 v4 v5 σ = some o) (hk0 : ∀ s, o = .inl s → am_G X gm_X12_allOff Q 14 [(0, .ref (am_ad X 12 0)), (1, .int v1), (2, .long s.1), (4, .int v4), (5, .int s.2)] [] σ) (hk1 : ∀ t, o = .inr t → am_G X gm_X12_allOff Q 127 [(0, .ref (am_ad X 12 0)), (1, .int v1), (2, .long t), (4, .int v4)] [] σ) : am_G X gm_X12_allOff Q 14 [(0, .ref (am_ad X 12 0)), (1, .int v1), (2, .long v2), (4, .int v4), (5, .int v5)] [] σ := by
  unfold f_X12_allOff_14 at hf
  refine g_iload (pc := 14) 4 rfl dX12_allOff_14 ?_
  refine g_aload_n (pc := 16) 0 rfl dX12_allOff_16 rfl ?_
  refine g_getC (pc := 17) (e := 0) (in_12 hX (by omega)) fr_X12_35 dX12_allOff_17 rfl ?_
  refine g_iload (pc := 20) 3 rfl dX12_allOff_20 ?_
  obtain ⟨j1, hj1, hf⟩ := am_bd hf
  have gj1 := am_ix_lt hj1
  refine g_aI (pc := 22) (in_1320 hX (by omega)) ak_1320 hj1 dX12_allOff_22 ?_
  refine bi_ge (pc := 23) 127 dX12_allOff_23 rfl (fun c2 => ?_) (fun c2 => ?_)
  · replace hf := am_ifT c2 hf
    refine g_aload_n (pc := 26) 0 rfl dX12_allOff_26 rfl ?_
    refine g_iload (pc := 27) 3 rfl dX12_allOff_27 ?_
    refine g_iload (pc := 29) 4 rfl dX12_allOff_29 ?_
    obtain ⟨p3, hp3, hf⟩ := am_bd hf
    refine g_cV (pc := 31) (As := [.int v4, .int v5]) (st := []) (st1 := [.int (am_b p3)]) (in_12 hX (by omega)) kk_12 mV_X12_hasTrain ln_X12_306 rfl (Nat.le_of_ble_eq_true rfl) (Nat.le_of_ble_eq_true rfl) (k_X12_hasTrain hX v4 v5 σ hp3) dX12_allOff_31 rfl rfl ?_
    refine bt_ne (pc := 34) 40 dX12_allOff_34 rfl (fun c4 => ?_) (fun c4 => ?_)
    · replace hf := am_ifT c4 hf
      refine g_aload_n (pc := 40) 0 rfl dX12_allOff_40 rfl ?_
      refine g_iload (pc := 41) 3 rfl dX12_allOff_41 ?_
      refine g_iload (pc := 43) 4 rfl dX12_allOff_43 ?_
      refine g_bipush (pc := 45) (v := 6) dX12_allOff_45 (by decide) ?_
      obtain ⟨p5, hp5, hf⟩ := am_bd hf
      refine g_cV (pc := 47) (As := [.int v4, .int v5, .int 6]) (st := []) (st1 := [.int p5]) (in_12 hX (by omega)) kk_12 mV_X12_of ln_X12_297 rfl (Nat.le_of_ble_eq_true rfl) (Nat.le_of_ble_eq_true rfl) (k_X12_of hX v4 v5 6 σ hp5) dX12_allOff_47 rfl rfl ?_
      refine g_i2l (pc := 50) dX12_allOff_50 ?_
      refine g_aload_n (pc := 51) 0 rfl dX12_allOff_51 rfl ?_
      refine g_iload (pc := 52) 3 rfl dX12_allOff_52 ?_
      refine g_iload (pc := 54) 4 rfl dX12_allOff_54 ?_
      refine g_bipush (pc := 56) (v := 8) dX12_allOff_56 (by decide) ?_
      obtain ⟨p6, hp6, hf⟩ := am_bd hf
      refine g_cV (pc := 58) (As := [.int v4, .int v5, .int 8]) (st := [.long (Int32.toInt64 p5)]) (st1 := [.int p6, .long (Int32.toInt64 p5)]) (in_12 hX (by omega)) kk_12 mV_X12_of ln_X12_297 rfl (Nat.le_of_ble_eq_true rfl) (Nat.le_of_ble_eq_true rfl) (k_X12_of hX v4 v5 8 σ hp6) dX12_allOff_58 rfl rfl ?_
      refine g_i2l (pc := 61) dX12_allOff_61 ?_
      refine g_lmul (pc := 62) dX12_allOff_62 ?_
      refine g_lstore (pc := 63) [(6, .long ((Int32.toInt64 p5) * (Int32.toInt64 p6))), (0, .ref (am_ad X 12 0)), (1, .int v1), (2, .long v2), (4, .int v4), (5, .int v5)] dX12_allOff_63 (Nat.le_of_ble_eq_true rfl) rfl ?_
      refine g_lload_n (pc := 65) 3 rfl dX12_allOff_65 rfl ?_
      refine g_aload_n (pc := 66) 1 rfl dX12_allOff_66 rfl ?_
      refine g_iload (pc := 67) 4 rfl dX12_allOff_67 ?_
      refine g_iload (pc := 69) 5 rfl dX12_allOff_69 ?_
      refine g_aload_n (pc := 71) 1 rfl dX12_allOff_71 rfl ?_
      refine g_iload (pc := 72) 4 rfl dX12_allOff_72 ?_
      refine g_iload (pc := 74) 5 rfl dX12_allOff_74 ?_
      refine g_iconst (pc := 76) (v := 5) dX12_allOff_76 (by decide) ?_
      obtain ⟨p7, hp7, hf⟩ := am_bd hf
      refine g_cV (pc := 77) (As := [.int v4, .int v5, .int 5]) (st := [.int v5, .int v4, .ref (am_ad X 12 0), .long v2]) (st1 := [.int p7, .int v5, .int v4, .ref (am_ad X 12 0), .long v2]) (in_12 hX (by omega)) kk_12 mV_X12_of ln_X12_297 rfl (Nat.le_of_ble_eq_true rfl) (Nat.le_of_ble_eq_true rfl) (k_X12_of hX v4 v5 5 σ hp7) dX12_allOff_77 rfl rfl ?_
      refine g_i2l (pc := 80) dX12_allOff_80 ?_
      refine g_aload_n (pc := 81) 1 rfl dX12_allOff_81 rfl ?_
      refine g_iload (pc := 82) 4 rfl dX12_allOff_82 ?_
      refine g_iload (pc := 84) 5 rfl dX12_allOff_84 ?_
      refine g_bipush (pc := 86) (v := 7) dX12_allOff_86 (by decide) ?_
      obtain ⟨p8, hp8, hf⟩ := am_bd hf
      refine g_cV (pc := 88) (As := [.int v4, .int v5, .int 7]) (st := [.long (Int32.toInt64 p7), .int v5, .int v4, .ref (am_ad X 12 0), .long v2]) (st1 := [.int p8, .long (Int32.toInt64 p7), .int v5, .int v4, .ref (am_ad X 12 0), .long v2]) (in_12 hX (by omega)) kk_12 mV_X12_of ln_X12_297 rfl (Nat.le_of_ble_eq_true rfl) (Nat.le_of_ble_eq_true rfl) (k_X12_of hX v4 v5 7 σ hp8) dX12_allOff_88 rfl rfl ?_
      refine g_i2l (pc := 91) dX12_allOff_91 ?_
      refine g_lmul (pc := 92) dX12_allOff_92 ?_
      refine g_lload (pc := 93) 0 rfl dX12_allOff_93 ?_
      obtain ⟨p9, hp9, hf⟩ := am_bd hf
      refine g_cV (pc := 95) (As := [.int v4, .int v5, .long ((Int32.toInt64 p7) * (Int32.toInt64 p8)), .long ((Int32.toInt64 p5) * (Int32.toInt64 p6))]) (st := [.long v2]) (st1 := [.long p9, .long v2]) (in_12 hX (by omega)) kk_12 mV_X12_offOf ln_X12_340 rfl (Nat.le_of_ble_eq_true rfl) (Nat.le_of_ble_eq_true rfl) (k_X12_offOf hX v4 v5 ((Int32.toInt64 p7) * (Int32.toInt64 p8)) ((Int32.toInt64 p5) * (Int32.toInt64 p6)) σ hp9) dX12_allOff_95 rfl rfl ?_
      refine g_iload_n (pc := 98) 2 rfl dX12_allOff_98 rfl ?_
      refine g_i2l (pc := 99) dX12_allOff_99 ?_
      refine g_lmul (pc := 100) dX12_allOff_100 ?_
      refine g_ldc2 (pc := 101) (v := 1000) (tb_9 (List.mem_of_getElem? (i := 154) (by decide +kernel))) dX12_allOff_101 ?_
      refine g_lmul (pc := 104) dX12_allOff_104 ?_
      refine g_lload (pc := 105) 0 rfl dX12_allOff_105 ?_
      refine g_aload_n (pc := 107) 1 rfl dX12_allOff_107 rfl ?_
      refine g_iload (pc := 108) 4 rfl dX12_allOff_108 ?_
      refine g_iload (pc := 110) 5 rfl dX12_allOff_110 ?_
      refine g_iconst (pc := 112) (v := 1) dX12_allOff_112 (by decide) ?_
      obtain ⟨p10, hp10, hf⟩ := am_bd hf
      refine g_cV (pc := 113) (As := [.int v4, .int v5, .int 1]) (st := [.long ((Int32.toInt64 p5) * (Int32.toInt64 p6)), .long ((p9 * (Int32.toInt64 v1)) * 1000), .long v2]) (st1 := [.int p10, .long ((Int32.toInt64 p5) * (Int32.toInt64 p6)), .long ((p9 * (Int32.toInt64 v1)) * 1000), .long v2]) (in_12 hX (by omega)) kk_12 mV_X12_of ln_X12_297 rfl (Nat.le_of_ble_eq_true rfl) (Nat.le_of_ble_eq_true rfl) (k_X12_of hX v4 v5 1 σ hp10) dX12_allOff_113 rfl rfl ?_
      refine g_i2l (pc := 116) dX12_allOff_116 ?_
      refine g_lmul (pc := 117) dX12_allOff_117 ?_
      by_cases z11 : (((Int32.toInt64 p5) * (Int32.toInt64 p6)) * (Int32.toInt64 p10)) = 0
      · exact absurd (am_ifT z11 hf) (by simp)
      replace hf := am_ifF z11 hf
      refine g_ldiv (pc := 118) dX12_allOff_118 z11 ?_
      refine g_ladd (pc := 119) dX12_allOff_119 ?_
      refine g_lstore_n (pc := 120) [(2, .long (v2 + (((p9 * (Int32.toInt64 v1)) * 1000) / (((Int32.toInt64 p5) * (Int32.toInt64 p6)) * (Int32.toInt64 p10))))), (6, .long ((Int32.toInt64 p5) * (Int32.toInt64 p6))), (0, .ref (am_ad X 12 0)), (1, .int v1), (4, .int v4), (5, .int v5)] dX12_allOff_120 rfl (Nat.le_of_ble_eq_true rfl) rfl ?_
      refine g_iinc (pc := 121) (v := (v5 + 1)) 5 [(5, .int (v5 + 1)), (2, .long (v2 + (((p9 * (Int32.toInt64 v1)) * 1000) / (((Int32.toInt64 p5) * (Int32.toInt64 p6)) * (Int32.toInt64 p10))))), (6, .long ((Int32.toInt64 p5) * (Int32.toInt64 p6))), (0, .ref (am_ad X 12 0)), (1, .int v1), (4, .int v4)] dX12_allOff_121 rfl rfl (Nat.le_of_ble_eq_true rfl) rfl ?_
      refine g_goto (pc := 124) 14 dX12_allOff_124 rfl ?_
      have hz := hk0 _ (Option.some.inj hf).symm
      exact am_sub [3, 4, 1, 5, 0] rfl hz
    replace hf := am_ifF c4 hf
    refine g_goto (pc := 37) 121 dX12_allOff_37 rfl ?_
    refine g_iinc (pc := 121) (v := (v5 + 1)) 4 [(5, .int (v5 + 1)), (0, .ref (am_ad X 12 0)), (1, .int v1), (2, .long v2), (4, .int v4)] dX12_allOff_121 rfl rfl (Nat.le_of_ble_eq_true rfl) rfl ?_
    refine g_goto (pc := 124) 14 dX12_allOff_124 rfl ?_
    have hz := hk0 _ (Option.some.inj hf).symm
    exact am_sub [1, 2, 3, 4, 0] rfl hz
  replace hf := am_ifF c2 hf
  have hz := hk1 _ (Option.some.inj hf).symm
  exact am_sub [0, 1, 2, 3] rfl hz
set_option maxRecDepth 100000 in
set_option maxHeartbeats 4000000 in
theorem l_X12_allOff_14 {X : am_X} (hX : am_ks X = am_ksM) {Q : Option Value → am_H → Prop} (v1 : Int32) (v4 : Int32) (σ : am_H) (s : Int64 × Int32) {o : Int64} (hf : am_loop (fun s => f_X12_allOff_14 v1 s.1 v4 s.2 σ) s = some o) (hk1 : ∀ t, o = t → am_G X gm_X12_allOff Q 127 [(0, .ref (am_ad X 12 0)), (1, .int v1), (2, .long t), (4, .int v4)] [] σ) : am_G X gm_X12_allOff Q 14 [(0, .ref (am_ad X 12 0)), (1, .int v1), (2, .long s.1), (4, .int v4), (5, .int s.2)] [] σ := by
  refine am_loop_ind (P := fun s => am_G X gm_X12_allOff Q 14 [(0, .ref (am_ad X 12 0)), (1, .int v1), (2, .long s.1), (4, .int v4), (5, .int s.2)] [] σ) (K := fun r => r = o) ?_ hf rfl
  intro s o1 hb hi hr
  exact q_X12_allOff_14 hX v1 s.1 v4 s.2  σ hb hi (fun t e => hk1 t (hr _ e).symm)
noncomputable def f_X12_allOff_5 (v1 : Int32) (v2 : Int64) (v4 : Int32) (σ : am_H) : Option ((Int64 × Int32) ⊕ (Int64)) :=
  if v4 < 2 then
   ((am_loop (fun s => f_X12_allOff_14 v1 s.1 v4 s.2 σ) (v2, 0)).bind fun w2 =>
   some (.inl (w2, (v4 + 1))))
  else
  some (.inr v2)
set_option maxRecDepth 100000 in
set_option maxHeartbeats 4000000 in
theorem q_X12_allOff_5 {X : am_X} (hX : am_ks X = am_ksM) {Q : Option Value → am_H → Prop} (v1 : Int32) (v2 : Int64) (v4 : Int32) (σ : am_H) {o : (Int64 × Int32) ⊕ (Int64)} (hf : f_X12_allOff_5 v1 v2 v4 σ = some o) (hk0 : ∀ s, o = .inl s → am_G X gm_X12_allOff Q 5 [(0, .ref (am_ad X 12 0)), (1, .int v1), (2, .long s.1), (4, .int s.2)] [] σ) (hk1 : ∀ t, o = .inr t → am_G X gm_X12_allOff Q 133 [(2, .long t)] [] σ) : am_G X gm_X12_allOff Q 5 [(0, .ref (am_ad X 12 0)), (1, .int v1), (2, .long v2), (4, .int v4)] [] σ := by
  unfold f_X12_allOff_5 at hf
  refine g_iload (pc := 5) 3 rfl dX12_allOff_5 ?_
  refine g_iconst (pc := 7) (v := 2) dX12_allOff_7 (by decide) ?_
  refine bi_ge (pc := 8) 133 dX12_allOff_8 rfl (fun c1 => ?_) (fun c1 => ?_)
  · replace hf := am_ifT c1 hf
    refine g_iconst (pc := 11) (v := 0) dX12_allOff_11 (by decide) ?_
    refine g_istore (pc := 12) [(5, .int 0), (0, .ref (am_ad X 12 0)), (1, .int v1), (2, .long v2), (4, .int v4)] dX12_allOff_12 (Nat.le_of_ble_eq_true rfl) rfl ?_
    obtain ⟨w2, hw2, hf⟩ := am_bd hf
    refine am_sub [1, 2, 3, 4, 0] rfl (l_X12_allOff_14 hX v1 v4  σ (v2, 0) hw2 ?_)
    intro t e
    subst e
    refine g_iinc (pc := 127) (v := (v4 + 1)) 3 [(4, .int (v4 + 1)), (0, .ref (am_ad X 12 0)), (1, .int v1), (2, .long w2)] dX12_allOff_127 rfl rfl (Nat.le_of_ble_eq_true rfl) rfl ?_
    refine g_goto (pc := 130) 5 dX12_allOff_130 rfl ?_
    have hz := hk0 _ (Option.some.inj hf).symm
    exact am_sub [1, 2, 3, 0] rfl hz
  replace hf := am_ifF c1 hf
  have hz := hk1 _ (Option.some.inj hf).symm
  exact am_sub [2] rfl hz
set_option maxRecDepth 100000 in
set_option maxHeartbeats 4000000 in
theorem l_X12_allOff_5 {X : am_X} (hX : am_ks X = am_ksM) {Q : Option Value → am_H → Prop} (v1 : Int32) (σ : am_H) (s : Int64 × Int32) {o : Int64} (hf : am_loop (fun s => f_X12_allOff_5 v1 s.1 s.2 σ) s = some o) (hk1 : ∀ t, o = t → am_G X gm_X12_allOff Q 133 [(2, .long t)] [] σ) : am_G X gm_X12_allOff Q 5 [(0, .ref (am_ad X 12 0)), (1, .int v1), (2, .long s.1), (4, .int s.2)] [] σ := by
  refine am_loop_ind (P := fun s => am_G X gm_X12_allOff Q 5 [(0, .ref (am_ad X 12 0)), (1, .int v1), (2, .long s.1), (4, .int s.2)] [] σ) (K := fun r => r = o) ?_ hf rfl
  intro s o1 hb hi hr
  exact q_X12_allOff_5 hX v1 s.1 s.2  σ hb hi (fun t e => hk1 t (hr _ e).symm)
noncomputable def f_X12_allOff (v1 : Int32) (σ : am_H) : Option (Int64) :=
  (am_loop (fun s => f_X12_allOff_5 v1 s.1 s.2 σ) (0, 0)).bind fun w1 =>
  some w1
set_option maxRecDepth 100000 in
set_option maxHeartbeats 4000000 in
theorem q_X12_allOff {X : am_X} (hX : am_ks X = am_ksM) {Q : Option Value → am_H → Prop} (v1 : Int32) (σ : am_H) {o : Int64} (hf : f_X12_allOff v1 σ = some o) (hk : Q (some (.long o)) σ) : am_G X gm_X12_allOff Q 0 [(0, .ref (am_ad X 12 0)), (1, .int v1)] [] σ := by
  unfold f_X12_allOff at hf
  refine g_lconst (pc := 0) (v := 0) dX12_allOff_0 (by decide) ?_
  refine g_lstore_n (pc := 1) [(2, .long 0), (0, .ref (am_ad X 12 0)), (1, .int v1)] dX12_allOff_1 rfl (Nat.le_of_ble_eq_true rfl) rfl ?_
  refine g_iconst (pc := 2) (v := 0) dX12_allOff_2 (by decide) ?_
  refine g_istore (pc := 3) [(4, .int 0), (2, .long 0), (0, .ref (am_ad X 12 0)), (1, .int v1)] dX12_allOff_3 (Nat.le_of_ble_eq_true rfl) rfl ?_
  obtain ⟨w1, hw1, hf⟩ := am_bd hf
  refine am_sub [2, 3, 1, 0] rfl (l_X12_allOff_5 hX v1  σ (0, 0) hw1 ?_)
  intro t e
  subst e
  refine g_lload_n (pc := 133) 0 rfl dX12_allOff_133 rfl ?_
  have ho := Option.some.inj hf
  subst ho
  exact g_lreturn (pc := 134) (st := []) rfl dX12_allOff_134 hk
theorem k_X12_allOff {X : am_X} (hX : am_ks X = am_ksM) (v1 : Int32) (σ : am_H) {o : Int64} (hf : f_X12_allOff v1 σ = some o) : am_C X gm_X12_allOff [.ref (am_ad X 12 0), .int v1] σ (am_is (some (.long o)) σ) :=
  am_ofG rfl (Nat.le_of_ble_eq_true rfl) rfl (q_X12_allOff hX v1 σ hf ⟨rfl, rfl⟩)
theorem dX12_exchange_0 : decode cX12_exchange 0 = .ok (.aload_n 0, 1) := by decide +kernel
theorem dX12_exchange_1 : decode cX12_exchange 1 = .ok (.iconst 0, 1) := by decide +kernel
theorem dX12_exchange_2 : decode cX12_exchange 2 = .ok (.iload_n 1, 1) := by decide +kernel
theorem dX12_exchange_3 : decode cX12_exchange 3 = .ok (.iconst 5, 1) := by decide +kernel
theorem dX12_exchange_4 : decode cX12_exchange 4 = .ok (.iload_n 2, 1) := by decide +kernel
theorem dX12_exchange_5 : decode cX12_exchange 5 = .ok (.iadd, 1) := by decide +kernel
theorem dX12_exchange_6 : decode cX12_exchange 6 = .ok (.invokevirtual 297, 3) := by decide +kernel
theorem dX12_exchange_9 : decode cX12_exchange 9 = .ok (.istore 5, 2) := by decide +kernel
theorem dX12_exchange_11 : decode cX12_exchange 11 = .ok (.aload_n 0, 1) := by decide +kernel
theorem dX12_exchange_12 : decode cX12_exchange 12 = .ok (.getfield 47, 3) := by decide +kernel
theorem dX12_exchange_15 : decode cX12_exchange 15 = .ok (.aload_n 0, 1) := by decide +kernel
theorem dX12_exchange_16 : decode cX12_exchange 16 = .ok (.iconst 0, 1) := by decide +kernel
theorem dX12_exchange_17 : decode cX12_exchange 17 = .ok (.iload_n 1, 1) := by decide +kernel
theorem dX12_exchange_18 : decode cX12_exchange 18 = .ok (.iconst 5, 1) := by decide +kernel
theorem dX12_exchange_19 : decode cX12_exchange 19 = .ok (.iload_n 2, 1) := by decide +kernel
theorem dX12_exchange_20 : decode cX12_exchange 20 = .ok (.iadd, 1) := by decide +kernel
theorem dX12_exchange_21 : decode cX12_exchange 21 = .ok (.invokevirtual 252, 3) := by decide +kernel
theorem dX12_exchange_24 : decode cX12_exchange 24 = .ok (.aload_n 0, 1) := by decide +kernel
theorem dX12_exchange_25 : decode cX12_exchange 25 = .ok (.iconst 1, 1) := by decide +kernel
theorem dX12_exchange_26 : decode cX12_exchange 26 = .ok (.iload_n 3, 1) := by decide +kernel
theorem dX12_exchange_27 : decode cX12_exchange 27 = .ok (.iconst 5, 1) := by decide +kernel
theorem dX12_exchange_28 : decode cX12_exchange 28 = .ok (.iload 4, 2) := by decide +kernel
theorem dX12_exchange_30 : decode cX12_exchange 30 = .ok (.iadd, 1) := by decide +kernel
theorem dX12_exchange_31 : decode cX12_exchange 31 = .ok (.invokevirtual 297, 3) := by decide +kernel
theorem dX12_exchange_34 : decode cX12_exchange 34 = .ok (.iastore, 1) := by decide +kernel
theorem dX12_exchange_35 : decode cX12_exchange 35 = .ok (.aload_n 0, 1) := by decide +kernel
theorem dX12_exchange_36 : decode cX12_exchange 36 = .ok (.getfield 47, 3) := by decide +kernel
theorem dX12_exchange_39 : decode cX12_exchange 39 = .ok (.aload_n 0, 1) := by decide +kernel
theorem dX12_exchange_40 : decode cX12_exchange 40 = .ok (.iconst 1, 1) := by decide +kernel
theorem dX12_exchange_41 : decode cX12_exchange 41 = .ok (.iload_n 3, 1) := by decide +kernel
theorem dX12_exchange_42 : decode cX12_exchange 42 = .ok (.iconst 5, 1) := by decide +kernel
theorem dX12_exchange_43 : decode cX12_exchange 43 = .ok (.iload 4, 2) := by decide +kernel
theorem dX12_exchange_45 : decode cX12_exchange 45 = .ok (.iadd, 1) := by decide +kernel
theorem dX12_exchange_46 : decode cX12_exchange 46 = .ok (.invokevirtual 252, 3) := by decide +kernel
theorem dX12_exchange_49 : decode cX12_exchange 49 = .ok (.iload 5, 2) := by decide +kernel
theorem dX12_exchange_51 : decode cX12_exchange 51 = .ok (.iastore, 1) := by decide +kernel
theorem dX12_exchange_52 : decode cX12_exchange 52 = .ok (.return_, 1) := by decide +kernel
noncomputable def f_X12_exchange (v1 : Int32) (v2 : Int32) (v3 : Int32) (v4 : Int32) (σ : am_H) : Option (am_H) :=
  (f_X12_of 0 v1 (5 + v2) σ).bind fun p1 =>
  (f_X12_cell 0 v1 (5 + v2) σ).bind fun p2 =>
  (f_X12_of 1 v3 (5 + v4) σ).bind fun p3 =>
  (am_ix 162 p2).bind fun j4 =>
  (some (am_wI σ 1324 0 j4 p3)).bind fun s5 =>
  (f_X12_cell 1 v3 (5 + v4) s5).bind fun p6 =>
  (am_ix 162 p6).bind fun j7 =>
  (some (am_wI s5 1324 0 j7 p1)).bind fun s8 =>
  some s8
set_option maxRecDepth 100000 in
set_option maxHeartbeats 4000000 in
theorem q_X12_exchange {X : am_X} (hX : am_ks X = am_ksM) {Q : Option Value → am_H → Prop} (v1 : Int32) (v2 : Int32) (v3 : Int32) (v4 : Int32) (σ : am_H) {o : am_H} (hf : f_X12_exchange v1 v2 v3 v4 σ = some o) (hk : Q none o) : am_G X gm_X12_exchange Q 0 [(0, .ref (am_ad X 12 0)), (1, .int v1), (2, .int v2), (3, .int v3), (4, .int v4)] [] σ := by
  unfold f_X12_exchange at hf
  refine g_aload_n (pc := 0) 0 rfl dX12_exchange_0 rfl ?_
  refine g_iconst (pc := 1) (v := 0) dX12_exchange_1 (by decide) ?_
  refine g_iload_n (pc := 2) 1 rfl dX12_exchange_2 rfl ?_
  refine g_iconst (pc := 3) (v := 5) dX12_exchange_3 (by decide) ?_
  refine g_iload_n (pc := 4) 2 rfl dX12_exchange_4 rfl ?_
  refine g_iadd (pc := 5) dX12_exchange_5 ?_
  obtain ⟨p1, hp1, hf⟩ := am_bd hf
  refine g_cV (pc := 6) (As := [.int 0, .int v1, .int (5 + v2)]) (st := []) (st1 := [.int p1]) (in_12 hX (by omega)) kk_12 mV_X12_of ln_X12_297 rfl (Nat.le_of_ble_eq_true rfl) (Nat.le_of_ble_eq_true rfl) (k_X12_of hX 0 v1 (5 + v2) σ hp1) dX12_exchange_6 rfl rfl ?_
  refine g_istore (pc := 9) [(5, .int p1), (0, .ref (am_ad X 12 0)), (1, .int v1), (2, .int v2), (3, .int v3), (4, .int v4)] dX12_exchange_9 (Nat.le_of_ble_eq_true rfl) rfl ?_
  refine g_aload_n (pc := 11) 1 rfl dX12_exchange_11 rfl ?_
  refine g_getC (pc := 12) (e := 0) (in_12 hX (by omega)) fr_X12_47 dX12_exchange_12 rfl ?_
  refine g_aload_n (pc := 15) 1 rfl dX12_exchange_15 rfl ?_
  refine g_iconst (pc := 16) (v := 0) dX12_exchange_16 (by decide) ?_
  refine g_iload_n (pc := 17) 2 rfl dX12_exchange_17 rfl ?_
  refine g_iconst (pc := 18) (v := 5) dX12_exchange_18 (by decide) ?_
  refine g_iload_n (pc := 19) 3 rfl dX12_exchange_19 rfl ?_
  refine g_iadd (pc := 20) dX12_exchange_20 ?_
  obtain ⟨p2, hp2, hf⟩ := am_bd hf
  refine g_cV (pc := 21) (As := [.int 0, .int v1, .int (5 + v2)]) (st := [.ref (am_ad X 1324 0)]) (st1 := [.int p2, .ref (am_ad X 1324 0)]) (in_12 hX (by omega)) kk_12 mV_X12_cell ln_X12_252 rfl (Nat.le_of_ble_eq_true rfl) (Nat.le_of_ble_eq_true rfl) (k_X12_cell hX 0 v1 (5 + v2) σ hp2) dX12_exchange_21 rfl rfl ?_
  refine g_aload_n (pc := 24) 1 rfl dX12_exchange_24 rfl ?_
  refine g_iconst (pc := 25) (v := 1) dX12_exchange_25 (by decide) ?_
  refine g_iload_n (pc := 26) 4 rfl dX12_exchange_26 rfl ?_
  refine g_iconst (pc := 27) (v := 5) dX12_exchange_27 (by decide) ?_
  refine g_iload (pc := 28) 5 rfl dX12_exchange_28 ?_
  refine g_iadd (pc := 30) dX12_exchange_30 ?_
  obtain ⟨p3, hp3, hf⟩ := am_bd hf
  refine g_cV (pc := 31) (As := [.int 1, .int v3, .int (5 + v4)]) (st := [.int p2, .ref (am_ad X 1324 0)]) (st1 := [.int p3, .int p2, .ref (am_ad X 1324 0)]) (in_12 hX (by omega)) kk_12 mV_X12_of ln_X12_297 rfl (Nat.le_of_ble_eq_true rfl) (Nat.le_of_ble_eq_true rfl) (k_X12_of hX 1 v3 (5 + v4) σ hp3) dX12_exchange_31 rfl rfl ?_
  obtain ⟨j4, hj4, hf⟩ := am_bd hf
  have gj4 := am_ix_lt hj4
  obtain ⟨s5, hs5, hf⟩ := am_bd hf
  refine g_sI (pc := 34) (in_1324 hX (by omega)) ak_1324 hj4 dX12_exchange_34 (Option.some.inj hs5) ?_
  refine g_aload_n (pc := 35) 1 rfl dX12_exchange_35 rfl ?_
  refine g_getC (pc := 36) (e := 0) (in_12 hX (by omega)) fr_X12_47 dX12_exchange_36 rfl ?_
  refine g_aload_n (pc := 39) 1 rfl dX12_exchange_39 rfl ?_
  refine g_iconst (pc := 40) (v := 1) dX12_exchange_40 (by decide) ?_
  refine g_iload_n (pc := 41) 4 rfl dX12_exchange_41 rfl ?_
  refine g_iconst (pc := 42) (v := 5) dX12_exchange_42 (by decide) ?_
  refine g_iload (pc := 43) 5 rfl dX12_exchange_43 ?_
  refine g_iadd (pc := 45) dX12_exchange_45 ?_
  obtain ⟨p6, hp6, hf⟩ := am_bd hf
  refine g_cV (pc := 46) (As := [.int 1, .int v3, .int (5 + v4)]) (st := [.ref (am_ad X 1324 0)]) (st1 := [.int p6, .ref (am_ad X 1324 0)]) (in_12 hX (by omega)) kk_12 mV_X12_cell ln_X12_252 rfl (Nat.le_of_ble_eq_true rfl) (Nat.le_of_ble_eq_true rfl) (k_X12_cell hX 1 v3 (5 + v4) s5 hp6) dX12_exchange_46 rfl rfl ?_
  refine g_iload (pc := 49) 0 rfl dX12_exchange_49 ?_
  obtain ⟨j7, hj7, hf⟩ := am_bd hf
  have gj7 := am_ix_lt hj7
  obtain ⟨s8, hs8, hf⟩ := am_bd hf
  refine g_sI (pc := 51) (in_1324 hX (by omega)) ak_1324 hj7 dX12_exchange_51 (Option.some.inj hs8) ?_
  have ho := Option.some.inj hf
  subst ho
  exact g_vreturn (pc := 52) (st := []) rfl dX12_exchange_52 hk
theorem k_X12_exchange {X : am_X} (hX : am_ks X = am_ksM) (v1 : Int32) (v2 : Int32) (v3 : Int32) (v4 : Int32) (σ : am_H) {o : am_H} (hf : f_X12_exchange v1 v2 v3 v4 σ = some o) : am_C X gm_X12_exchange [.ref (am_ad X 12 0), .int v1, .int v2, .int v3, .int v4] σ (am_is none o) :=
  am_ofG rfl (Nat.le_of_ble_eq_true rfl) rfl (q_X12_exchange hX v1 v2 v3 v4 σ hf ⟨rfl, rfl⟩)
theorem dX12_trade_0 : decode cX12_trade 0 = .ok (.aload_n 0, 1) := by decide +kernel
theorem dX12_trade_1 : decode cX12_trade 1 = .ok (.iconst 0, 1) := by decide +kernel
theorem dX12_trade_2 : decode cX12_trade 2 = .ok (.putfield 122, 3) := by decide +kernel
theorem dX12_trade_5 : decode cX12_trade 5 = .ok (.aload_n 0, 1) := by decide +kernel
theorem dX12_trade_6 : decode cX12_trade 6 = .ok (.iconst 0, 1) := by decide +kernel
theorem dX12_trade_7 : decode cX12_trade 7 = .ok (.putfield 125, 3) := by decide +kernel
theorem dX12_trade_10 : decode cX12_trade 10 = .ok (.iload_n 1, 1) := by decide +kernel
theorem dX12_trade_11 : decode cX12_trade 11 = .ok (.invokestatic 331, 3) := by decide +kernel
theorem dX12_trade_14 : decode cX12_trade 14 = .ok (.ifCond .ne 10, 3) := by decide +kernel
theorem dX12_trade_17 : decode cX12_trade 17 = .ok (.aload_n 0, 1) := by decide +kernel
theorem dX12_trade_18 : decode cX12_trade 18 = .ok (.iconst 5, 1) := by decide +kernel
theorem dX12_trade_19 : decode cX12_trade 19 = .ok (.invokevirtual 283, 3) := by decide +kernel
theorem dX12_trade_22 : decode cX12_trade 22 = .ok (.i2l, 1) := by decide +kernel
theorem dX12_trade_23 : decode cX12_trade 23 = .ok (.lreturn, 1) := by decide +kernel
theorem dX12_trade_24 : decode cX12_trade 24 = .ok (.aload_n 0, 1) := by decide +kernel
theorem dX12_trade_25 : decode cX12_trade 25 = .ok (.iload_n 1, 1) := by decide +kernel
theorem dX12_trade_26 : decode cX12_trade 26 = .ok (.invokevirtual 553, 3) := by decide +kernel
theorem dX12_trade_29 : decode cX12_trade 29 = .ok (.lstore_n 2, 1) := by decide +kernel
theorem dX12_trade_30 : decode cX12_trade 30 = .ok (.aload_n 0, 1) := by decide +kernel
theorem dX12_trade_31 : decode cX12_trade 31 = .ok (.iconst (-1), 1) := by decide +kernel
theorem dX12_trade_32 : decode cX12_trade 32 = .ok (.putfield 74, 3) := by decide +kernel
theorem dX12_trade_35 : decode cX12_trade 35 = .ok (.iconst 0, 1) := by decide +kernel
theorem dX12_trade_36 : decode cX12_trade 36 = .ok (.istore 4, 2) := by decide +kernel
theorem dX12_trade_38 : decode cX12_trade 38 = .ok (.iload 4, 2) := by decide +kernel
theorem dX12_trade_40 : decode cX12_trade 40 = .ok (.aload_n 0, 1) := by decide +kernel
theorem dX12_trade_41 : decode cX12_trade 41 = .ok (.getfield 35, 3) := by decide +kernel
theorem dX12_trade_44 : decode cX12_trade 44 = .ok (.iconst 0, 1) := by decide +kernel
theorem dX12_trade_45 : decode cX12_trade 45 = .ok (.iaload, 1) := by decide +kernel
theorem dX12_trade_46 : decode cX12_trade 46 = .ok (.if_icmp .ge 139, 3) := by decide +kernel
theorem dX12_trade_49 : decode cX12_trade 49 = .ok (.iconst 0, 1) := by decide +kernel
theorem dX12_trade_50 : decode cX12_trade 50 = .ok (.istore 5, 2) := by decide +kernel
theorem dX12_trade_52 : decode cX12_trade 52 = .ok (.iload 5, 2) := by decide +kernel
theorem dX12_trade_54 : decode cX12_trade 54 = .ok (.aload_n 0, 1) := by decide +kernel
theorem dX12_trade_55 : decode cX12_trade 55 = .ok (.iconst 0, 1) := by decide +kernel
theorem dX12_trade_56 : decode cX12_trade 56 = .ok (.iload 4, 2) := by decide +kernel
theorem dX12_trade_58 : decode cX12_trade 58 = .ok (.invokevirtual 542, 3) := by decide +kernel
theorem dX12_trade_61 : decode cX12_trade 61 = .ok (.if_icmp .ge 118, 3) := by decide +kernel
theorem dX12_trade_64 : decode cX12_trade 64 = .ok (.iconst 0, 1) := by decide +kernel
theorem dX12_trade_65 : decode cX12_trade 65 = .ok (.istore 6, 2) := by decide +kernel
theorem dX12_trade_67 : decode cX12_trade 67 = .ok (.iload 6, 2) := by decide +kernel
theorem dX12_trade_69 : decode cX12_trade 69 = .ok (.aload_n 0, 1) := by decide +kernel
theorem dX12_trade_70 : decode cX12_trade 70 = .ok (.getfield 35, 3) := by decide +kernel
theorem dX12_trade_73 : decode cX12_trade 73 = .ok (.iconst 1, 1) := by decide +kernel
theorem dX12_trade_74 : decode cX12_trade 74 = .ok (.iaload, 1) := by decide +kernel
theorem dX12_trade_75 : decode cX12_trade 75 = .ok (.if_icmp .ge 98, 3) := by decide +kernel
theorem dX12_trade_78 : decode cX12_trade 78 = .ok (.iconst 0, 1) := by decide +kernel
theorem dX12_trade_79 : decode cX12_trade 79 = .ok (.istore 7, 2) := by decide +kernel
theorem dX12_trade_81 : decode cX12_trade 81 = .ok (.iload 7, 2) := by decide +kernel
theorem dX12_trade_83 : decode cX12_trade 83 = .ok (.aload_n 0, 1) := by decide +kernel
theorem dX12_trade_84 : decode cX12_trade 84 = .ok (.iconst 1, 1) := by decide +kernel
theorem dX12_trade_85 : decode cX12_trade 85 = .ok (.iload 6, 2) := by decide +kernel
theorem dX12_trade_87 : decode cX12_trade 87 = .ok (.invokevirtual 542, 3) := by decide +kernel
theorem dX12_trade_90 : decode cX12_trade 90 = .ok (.if_icmp .ge 77, 3) := by decide +kernel
theorem dX12_trade_93 : decode cX12_trade 93 = .ok (.aload_n 0, 1) := by decide +kernel
theorem dX12_trade_94 : decode cX12_trade 94 = .ok (.iload 4, 2) := by decide +kernel
theorem dX12_trade_96 : decode cX12_trade 96 = .ok (.iload 5, 2) := by decide +kernel
theorem dX12_trade_98 : decode cX12_trade 98 = .ok (.iload 6, 2) := by decide +kernel
theorem dX12_trade_100 : decode cX12_trade 100 = .ok (.iload 7, 2) := by decide +kernel
theorem dX12_trade_102 : decode cX12_trade 102 = .ok (.invokevirtual 557, 3) := by decide +kernel
theorem dX12_trade_105 : decode cX12_trade 105 = .ok (.aload_n 0, 1) := by decide +kernel
theorem dX12_trade_106 : decode cX12_trade 106 = .ok (.iload_n 1, 1) := by decide +kernel
theorem dX12_trade_107 : decode cX12_trade 107 = .ok (.invokevirtual 553, 3) := by decide +kernel
theorem dX12_trade_110 : decode cX12_trade 110 = .ok (.lstore 8, 2) := by decide +kernel
theorem dX12_trade_112 : decode cX12_trade 112 = .ok (.aload_n 0, 1) := by decide +kernel
theorem dX12_trade_113 : decode cX12_trade 113 = .ok (.iload 4, 2) := by decide +kernel
theorem dX12_trade_115 : decode cX12_trade 115 = .ok (.iload 5, 2) := by decide +kernel
theorem dX12_trade_117 : decode cX12_trade 117 = .ok (.iload 6, 2) := by decide +kernel
theorem dX12_trade_119 : decode cX12_trade 119 = .ok (.iload 7, 2) := by decide +kernel
theorem dX12_trade_121 : decode cX12_trade 121 = .ok (.invokevirtual 557, 3) := by decide +kernel
theorem dX12_trade_124 : decode cX12_trade 124 = .ok (.lload 8, 2) := by decide +kernel
theorem dX12_trade_126 : decode cX12_trade 126 = .ok (.lload_n 2, 1) := by decide +kernel
theorem dX12_trade_127 : decode cX12_trade 127 = .ok (.lcmp, 1) := by decide +kernel
theorem dX12_trade_128 : decode cX12_trade 128 = .ok (.ifCond .lt 6, 3) := by decide +kernel
theorem dX12_trade_131 : decode cX12_trade 131 = .ok (.goto 30, 3) := by decide +kernel
theorem dX12_trade_134 : decode cX12_trade 134 = .ok (.lload 8, 2) := by decide +kernel
theorem dX12_trade_136 : decode cX12_trade 136 = .ok (.lstore_n 2, 1) := by decide +kernel
theorem dX12_trade_137 : decode cX12_trade 137 = .ok (.aload_n 0, 1) := by decide +kernel
theorem dX12_trade_138 : decode cX12_trade 138 = .ok (.iload 4, 2) := by decide +kernel
theorem dX12_trade_140 : decode cX12_trade 140 = .ok (.putfield 74, 3) := by decide +kernel
theorem dX12_trade_143 : decode cX12_trade 143 = .ok (.aload_n 0, 1) := by decide +kernel
theorem dX12_trade_144 : decode cX12_trade 144 = .ok (.iload 5, 2) := by decide +kernel
theorem dX12_trade_146 : decode cX12_trade 146 = .ok (.putfield 561, 3) := by decide +kernel
theorem dX12_trade_149 : decode cX12_trade 149 = .ok (.aload_n 0, 1) := by decide +kernel
theorem dX12_trade_150 : decode cX12_trade 150 = .ok (.iload 6, 2) := by decide +kernel
theorem dX12_trade_152 : decode cX12_trade 152 = .ok (.putfield 564, 3) := by decide +kernel
theorem dX12_trade_155 : decode cX12_trade 155 = .ok (.aload_n 0, 1) := by decide +kernel
theorem dX12_trade_156 : decode cX12_trade 156 = .ok (.iload 7, 2) := by decide +kernel
theorem dX12_trade_158 : decode cX12_trade 158 = .ok (.putfield 567, 3) := by decide +kernel
theorem dX12_trade_161 : decode cX12_trade 161 = .ok (.iinc 7 1, 3) := by decide +kernel
theorem dX12_trade_164 : decode cX12_trade 164 = .ok (.goto (-83), 3) := by decide +kernel
theorem dX12_trade_167 : decode cX12_trade 167 = .ok (.iinc 6 1, 3) := by decide +kernel
theorem dX12_trade_170 : decode cX12_trade 170 = .ok (.goto (-103), 3) := by decide +kernel
theorem dX12_trade_173 : decode cX12_trade 173 = .ok (.iinc 5 1, 3) := by decide +kernel
theorem dX12_trade_176 : decode cX12_trade 176 = .ok (.goto (-124), 3) := by decide +kernel
theorem dX12_trade_179 : decode cX12_trade 179 = .ok (.iinc 4 1, 3) := by decide +kernel
theorem dX12_trade_182 : decode cX12_trade 182 = .ok (.goto (-144), 3) := by decide +kernel
theorem dX12_trade_185 : decode cX12_trade 185 = .ok (.aload_n 0, 1) := by decide +kernel
theorem dX12_trade_186 : decode cX12_trade 186 = .ok (.iconst 1, 1) := by decide +kernel
theorem dX12_trade_187 : decode cX12_trade 187 = .ok (.putfield 570, 3) := by decide +kernel
theorem dX12_trade_190 : decode cX12_trade 190 = .ok (.lload_n 2, 1) := by decide +kernel
theorem dX12_trade_191 : decode cX12_trade 191 = .ok (.lreturn, 1) := by decide +kernel
noncomputable def f_X12_trade_81 (v1 : Int32) (v2 : Int64) (v4 : Int32) (v5 : Int32) (v6 : Int32) (v7 : Int32) (σ : am_H) : Option ((Int64 × Int32 × am_H) ⊕ (Int64 × am_H)) :=
  (f_X12_wheels 1 v6 σ).bind fun p1 =>
  if v7 < p1 then
   ((f_X12_exchange v4 v5 v6 v7 σ).bind fun p3 =>
   (f_X12_allOff v1 p3).bind fun p4 =>
   (f_X12_exchange v4 v5 v6 v7 p3).bind fun p5 =>
   if p4 < v2 then
    ((some (am_wI p5 12 0 60 v4)).bind fun s7 =>
    (some (am_wI s7 12 0 61 v5)).bind fun s8 =>
    (some (am_wI s8 12 0 62 v6)).bind fun s9 =>
    (some (am_wI s9 12 0 63 v7)).bind fun s10 =>
    some (.inl (p4, (v7 + 1), s10)))
   else
   some (.inl (v2, (v7 + 1), p5)))
  else
  some (.inr (v2, σ))
set_option maxRecDepth 100000 in
set_option maxHeartbeats 4000000 in
theorem q_X12_trade_81 {X : am_X} (hX : am_ks X = am_ksM) {Q : Option Value → am_H → Prop} (v1 : Int32) (v2 : Int64) (v4 : Int32) (v5 : Int32) (v6 : Int32) (v7 : Int32) (σ : am_H) {o : (Int64 × Int32 × am_H) ⊕ (Int64 × am_H)} (hf : f_X12_trade_81 v1 v2 v4 v5 v6 v7 σ = some o) (hk0 : ∀ s, o = .inl s → am_G X gm_X12_trade Q 81 [(0, .ref (am_ad X 12 0)), (1, .int v1), (2, .long s.1), (4, .int v4), (5, .int v5), (6, .int v6), (7, .int s.2.1)] [] s.2.2) (hk1 : ∀ t, o = .inr t → am_G X gm_X12_trade Q 167 [(0, .ref (am_ad X 12 0)), (1, .int v1), (2, .long t.1), (4, .int v4), (5, .int v5), (6, .int v6)] [] t.2) : am_G X gm_X12_trade Q 81 [(0, .ref (am_ad X 12 0)), (1, .int v1), (2, .long v2), (4, .int v4), (5, .int v5), (6, .int v6), (7, .int v7)] [] σ := by
  unfold f_X12_trade_81 at hf
  refine g_iload (pc := 81) 6 rfl dX12_trade_81 ?_
  refine g_aload_n (pc := 83) 0 rfl dX12_trade_83 rfl ?_
  refine g_iconst (pc := 84) (v := 1) dX12_trade_84 (by decide) ?_
  refine g_iload (pc := 85) 5 rfl dX12_trade_85 ?_
  obtain ⟨p1, hp1, hf⟩ := am_bd hf
  refine g_cV (pc := 87) (As := [.int 1, .int v6]) (st := [.int v7]) (st1 := [.int p1, .int v7]) (in_12 hX (by omega)) kk_12 mV_X12_wheels ln_X12_542 rfl (Nat.le_of_ble_eq_true rfl) (Nat.le_of_ble_eq_true rfl) (k_X12_wheels hX 1 v6 σ hp1) dX12_trade_87 rfl rfl ?_
  refine bi_ge (pc := 90) 167 dX12_trade_90 rfl (fun c2 => ?_) (fun c2 => ?_)
  · replace hf := am_ifT c2 hf
    refine g_aload_n (pc := 93) 0 rfl dX12_trade_93 rfl ?_
    refine g_iload (pc := 94) 3 rfl dX12_trade_94 ?_
    refine g_iload (pc := 96) 4 rfl dX12_trade_96 ?_
    refine g_iload (pc := 98) 5 rfl dX12_trade_98 ?_
    refine g_iload (pc := 100) 6 rfl dX12_trade_100 ?_
    obtain ⟨p3, hp3, hf⟩ := am_bd hf
    refine g_cV (pc := 102) (As := [.int v4, .int v5, .int v6, .int v7]) (st := []) (st1 := []) (in_12 hX (by omega)) kk_12 mV_X12_exchange ln_X12_557 rfl (Nat.le_of_ble_eq_true rfl) (Nat.le_of_ble_eq_true rfl) (k_X12_exchange hX v4 v5 v6 v7 σ hp3) dX12_trade_102 rfl rfl ?_
    refine g_aload_n (pc := 105) 0 rfl dX12_trade_105 rfl ?_
    refine g_iload_n (pc := 106) 1 rfl dX12_trade_106 rfl ?_
    obtain ⟨p4, hp4, hf⟩ := am_bd hf
    refine g_cV (pc := 107) (As := [.int v1]) (st := []) (st1 := [.long p4]) (in_12 hX (by omega)) kk_12 mV_X12_allOff ln_X12_553 rfl (Nat.le_of_ble_eq_true rfl) (Nat.le_of_ble_eq_true rfl) (k_X12_allOff hX v1 p3 hp4) dX12_trade_107 rfl rfl ?_
    refine g_lstore (pc := 110) [(8, .long p4), (0, .ref (am_ad X 12 0)), (1, .int v1), (2, .long v2), (4, .int v4), (5, .int v5), (6, .int v6), (7, .int v7)] dX12_trade_110 (Nat.le_of_ble_eq_true rfl) rfl ?_
    refine g_aload_n (pc := 112) 1 rfl dX12_trade_112 rfl ?_
    refine g_iload (pc := 113) 4 rfl dX12_trade_113 ?_
    refine g_iload (pc := 115) 5 rfl dX12_trade_115 ?_
    refine g_iload (pc := 117) 6 rfl dX12_trade_117 ?_
    refine g_iload (pc := 119) 7 rfl dX12_trade_119 ?_
    obtain ⟨p5, hp5, hf⟩ := am_bd hf
    refine g_cV (pc := 121) (As := [.int v4, .int v5, .int v6, .int v7]) (st := []) (st1 := []) (in_12 hX (by omega)) kk_12 mV_X12_exchange ln_X12_557 rfl (Nat.le_of_ble_eq_true rfl) (Nat.le_of_ble_eq_true rfl) (k_X12_exchange hX v4 v5 v6 v7 p3 hp5) dX12_trade_121 rfl rfl ?_
    refine g_lload (pc := 124) 0 rfl dX12_trade_124 ?_
    refine g_lload_n (pc := 126) 3 rfl dX12_trade_126 rfl ?_
    refine g_lcm (pc := 127) dX12_trade_127 ?_
    refine bl_lt (pc := 128) 134 dX12_trade_128 rfl (fun c6 => ?_) (fun c6 => ?_)
    · replace hf := am_ifT c6 hf
      refine g_lload (pc := 134) 0 rfl dX12_trade_134 ?_
      refine g_lstore_n (pc := 136) [(2, .long p4), (8, .long p4), (0, .ref (am_ad X 12 0)), (1, .int v1), (4, .int v4), (5, .int v5), (6, .int v6), (7, .int v7)] dX12_trade_136 rfl (Nat.le_of_ble_eq_true rfl) rfl ?_
      refine g_aload_n (pc := 137) 2 rfl dX12_trade_137 rfl ?_
      refine g_iload (pc := 138) 4 rfl dX12_trade_138 ?_
      obtain ⟨s7, hs7, hf⟩ := am_bd hf
      refine g_setI (pc := 140) (in_12 hX (by omega)) fr_X12_74 dX12_trade_140 (Option.some.inj hs7) ?_
      refine g_aload_n (pc := 143) 2 rfl dX12_trade_143 rfl ?_
      refine g_iload (pc := 144) 5 rfl dX12_trade_144 ?_
      obtain ⟨s8, hs8, hf⟩ := am_bd hf
      refine g_setI (pc := 146) (in_12 hX (by omega)) fr_X12_561 dX12_trade_146 (Option.some.inj hs8) ?_
      refine g_aload_n (pc := 149) 2 rfl dX12_trade_149 rfl ?_
      refine g_iload (pc := 150) 6 rfl dX12_trade_150 ?_
      obtain ⟨s9, hs9, hf⟩ := am_bd hf
      refine g_setI (pc := 152) (in_12 hX (by omega)) fr_X12_564 dX12_trade_152 (Option.some.inj hs9) ?_
      refine g_aload_n (pc := 155) 2 rfl dX12_trade_155 rfl ?_
      refine g_iload (pc := 156) 7 rfl dX12_trade_156 ?_
      obtain ⟨s10, hs10, hf⟩ := am_bd hf
      refine g_setI (pc := 158) (in_12 hX (by omega)) fr_X12_567 dX12_trade_158 (Option.some.inj hs10) ?_
      refine g_iinc (pc := 161) (v := (v7 + 1)) 7 [(7, .int (v7 + 1)), (2, .long p4), (8, .long p4), (0, .ref (am_ad X 12 0)), (1, .int v1), (4, .int v4), (5, .int v5), (6, .int v6)] dX12_trade_161 rfl rfl (Nat.le_of_ble_eq_true rfl) rfl ?_
      refine g_goto (pc := 164) 81 dX12_trade_164 rfl ?_
      have hz := hk0 _ (Option.some.inj hf).symm
      exact am_sub [3, 4, 1, 5, 6, 7, 0] rfl hz
    replace hf := am_ifF c6 hf
    refine g_goto (pc := 131) 161 dX12_trade_131 rfl ?_
    refine g_iinc (pc := 161) (v := (v7 + 1)) 7 [(7, .int (v7 + 1)), (8, .long p4), (0, .ref (am_ad X 12 0)), (1, .int v1), (2, .long v2), (4, .int v4), (5, .int v5), (6, .int v6)] dX12_trade_161 rfl rfl (Nat.le_of_ble_eq_true rfl) rfl ?_
    refine g_goto (pc := 164) 81 dX12_trade_164 rfl ?_
    have hz := hk0 _ (Option.some.inj hf).symm
    exact am_sub [2, 3, 4, 5, 6, 7, 0] rfl hz
  replace hf := am_ifF c2 hf
  have hz := hk1 _ (Option.some.inj hf).symm
  exact am_sub [0, 1, 2, 3, 4, 5] rfl hz
set_option maxRecDepth 100000 in
set_option maxHeartbeats 4000000 in
theorem l_X12_trade_81 {X : am_X} (hX : am_ks X = am_ksM) {Q : Option Value → am_H → Prop} (v1 : Int32) (v4 : Int32) (v5 : Int32) (v6 : Int32) (σ : am_H) (s : Int64 × Int32 × am_H) {o : Int64 × am_H} (hf : am_loop (fun s => f_X12_trade_81 v1 s.1 v4 v5 v6 s.2.1 s.2.2) s = some o) (hk1 : ∀ t, o = t → am_G X gm_X12_trade Q 167 [(0, .ref (am_ad X 12 0)), (1, .int v1), (2, .long t.1), (4, .int v4), (5, .int v5), (6, .int v6)] [] t.2) : am_G X gm_X12_trade Q 81 [(0, .ref (am_ad X 12 0)), (1, .int v1), (2, .long s.1), (4, .int v4), (5, .int v5), (6, .int v6), (7, .int s.2.1)] [] s.2.2 := by
  refine am_loop_ind (P := fun s => am_G X gm_X12_trade Q 81 [(0, .ref (am_ad X 12 0)), (1, .int v1), (2, .long s.1), (4, .int v4), (5, .int v5), (6, .int v6), (7, .int s.2.1)] [] s.2.2) (K := fun r => r = o) ?_ hf rfl
  intro s o1 hb hi hr
  exact q_X12_trade_81 hX v1 s.1 v4 v5 v6 s.2.1  s.2.2 hb hi (fun t e => hk1 t (hr _ e).symm)
noncomputable def f_X12_trade_67 (v1 : Int32) (v2 : Int64) (v4 : Int32) (v5 : Int32) (v6 : Int32) (σ : am_H) : Option ((Int64 × Int32 × am_H) ⊕ (Int64 × am_H)) :=
  (am_ix 3 1).bind fun j1 =>
  if v6 < (σ.1 1320 0 j1) then
   ((am_loop (fun s => f_X12_trade_81 v1 s.1 v4 v5 v6 s.2.1 s.2.2) (v2, 0, σ)).bind fun w3 =>
   some (.inl (w3.1, (v6 + 1), w3.2)))
  else
  some (.inr (v2, σ))
set_option maxRecDepth 100000 in
set_option maxHeartbeats 4000000 in
theorem q_X12_trade_67 {X : am_X} (hX : am_ks X = am_ksM) {Q : Option Value → am_H → Prop} (v1 : Int32) (v2 : Int64) (v4 : Int32) (v5 : Int32) (v6 : Int32) (σ : am_H) {o : (Int64 × Int32 × am_H) ⊕ (Int64 × am_H)} (hf : f_X12_trade_67 v1 v2 v4 v5 v6 σ = some o) (hk0 : ∀ s, o = .inl s → am_G X gm_X12_trade Q 67 [(0, .ref (am_ad X 12 0)), (1, .int v1), (2, .long s.1), (4, .int v4), (5, .int v5), (6, .int s.2.1)] [] s.2.2) (hk1 : ∀ t, o = .inr t → am_G X gm_X12_trade Q 173 [(0, .ref (am_ad X 12 0)), (1, .int v1), (2, .long t.1), (4, .int v4), (5, .int v5)] [] t.2) : am_G X gm_X12_trade Q 67 [(0, .ref (am_ad X 12 0)), (1, .int v1), (2, .long v2), (4, .int v4), (5, .int v5), (6, .int v6)] [] σ := by
  unfold f_X12_trade_67 at hf
  refine g_iload (pc := 67) 5 rfl dX12_trade_67 ?_
  refine g_aload_n (pc := 69) 0 rfl dX12_trade_69 rfl ?_
  refine g_getC (pc := 70) (e := 0) (in_12 hX (by omega)) fr_X12_35 dX12_trade_70 rfl ?_
  refine g_iconst (pc := 73) (v := 1) dX12_trade_73 (by decide) ?_
  obtain ⟨j1, hj1, hf⟩ := am_bd hf
  have gj1 := am_ix_lt hj1
  refine g_aI (pc := 74) (in_1320 hX (by omega)) ak_1320 hj1 dX12_trade_74 ?_
  refine bi_ge (pc := 75) 173 dX12_trade_75 rfl (fun c2 => ?_) (fun c2 => ?_)
  · replace hf := am_ifT c2 hf
    refine g_iconst (pc := 78) (v := 0) dX12_trade_78 (by decide) ?_
    refine g_istore (pc := 79) [(7, .int 0), (0, .ref (am_ad X 12 0)), (1, .int v1), (2, .long v2), (4, .int v4), (5, .int v5), (6, .int v6)] dX12_trade_79 (Nat.le_of_ble_eq_true rfl) rfl ?_
    obtain ⟨w3, hw3, hf⟩ := am_bd hf
    refine am_sub [1, 2, 3, 4, 5, 6, 0] rfl (l_X12_trade_81 hX v1 v4 v5 v6  σ (v2, 0, σ) hw3 ?_)
    intro t e
    subst e
    refine g_iinc (pc := 167) (v := (v6 + 1)) 5 [(6, .int (v6 + 1)), (0, .ref (am_ad X 12 0)), (1, .int v1), (2, .long w3.1), (4, .int v4), (5, .int v5)] dX12_trade_167 rfl rfl (Nat.le_of_ble_eq_true rfl) rfl ?_
    refine g_goto (pc := 170) 67 dX12_trade_170 rfl ?_
    have hz := hk0 _ (Option.some.inj hf).symm
    exact am_sub [1, 2, 3, 4, 5, 0] rfl hz
  replace hf := am_ifF c2 hf
  have hz := hk1 _ (Option.some.inj hf).symm
  exact am_sub [0, 1, 2, 3, 4] rfl hz
set_option maxRecDepth 100000 in
set_option maxHeartbeats 4000000 in
theorem l_X12_trade_67 {X : am_X} (hX : am_ks X = am_ksM) {Q : Option Value → am_H → Prop} (v1 : Int32) (v4 : Int32) (v5 : Int32) (σ : am_H) (s : Int64 × Int32 × am_H) {o : Int64 × am_H} (hf : am_loop (fun s => f_X12_trade_67 v1 s.1 v4 v5 s.2.1 s.2.2) s = some o) (hk1 : ∀ t, o = t → am_G X gm_X12_trade Q 173 [(0, .ref (am_ad X 12 0)), (1, .int v1), (2, .long t.1), (4, .int v4), (5, .int v5)] [] t.2) : am_G X gm_X12_trade Q 67 [(0, .ref (am_ad X 12 0)), (1, .int v1), (2, .long s.1), (4, .int v4), (5, .int v5), (6, .int s.2.1)] [] s.2.2 := by
  refine am_loop_ind (P := fun s => am_G X gm_X12_trade Q 67 [(0, .ref (am_ad X 12 0)), (1, .int v1), (2, .long s.1), (4, .int v4), (5, .int v5), (6, .int s.2.1)] [] s.2.2) (K := fun r => r = o) ?_ hf rfl
  intro s o1 hb hi hr
  exact q_X12_trade_67 hX v1 s.1 v4 v5 s.2.1  s.2.2 hb hi (fun t e => hk1 t (hr _ e).symm)
noncomputable def f_X12_trade_52 (v1 : Int32) (v2 : Int64) (v4 : Int32) (v5 : Int32) (σ : am_H) : Option ((Int64 × Int32 × am_H) ⊕ (Int64 × am_H)) :=
  (f_X12_wheels 0 v4 σ).bind fun p1 =>
  if v5 < p1 then
   ((am_loop (fun s => f_X12_trade_67 v1 s.1 v4 v5 s.2.1 s.2.2) (v2, 0, σ)).bind fun w3 =>
   some (.inl (w3.1, (v5 + 1), w3.2)))
  else
  some (.inr (v2, σ))
set_option maxRecDepth 100000 in
set_option maxHeartbeats 4000000 in
theorem q_X12_trade_52 {X : am_X} (hX : am_ks X = am_ksM) {Q : Option Value → am_H → Prop} (v1 : Int32) (v2 : Int64) (v4 : Int32) (v5 : Int32) (σ : am_H) {o : (Int64 × Int32 × am_H) ⊕ (Int64 × am_H)} (hf : f_X12_trade_52 v1 v2 v4 v5 σ = some o) (hk0 : ∀ s, o = .inl s → am_G X gm_X12_trade Q 52 [(0, .ref (am_ad X 12 0)), (1, .int v1), (2, .long s.1), (4, .int v4), (5, .int s.2.1)] [] s.2.2) (hk1 : ∀ t, o = .inr t → am_G X gm_X12_trade Q 179 [(0, .ref (am_ad X 12 0)), (1, .int v1), (2, .long t.1), (4, .int v4)] [] t.2) : am_G X gm_X12_trade Q 52 [(0, .ref (am_ad X 12 0)), (1, .int v1), (2, .long v2), (4, .int v4), (5, .int v5)] [] σ := by
  unfold f_X12_trade_52 at hf
  refine g_iload (pc := 52) 4 rfl dX12_trade_52 ?_
  refine g_aload_n (pc := 54) 0 rfl dX12_trade_54 rfl ?_
  refine g_iconst (pc := 55) (v := 0) dX12_trade_55 (by decide) ?_
  refine g_iload (pc := 56) 3 rfl dX12_trade_56 ?_
  obtain ⟨p1, hp1, hf⟩ := am_bd hf
  refine g_cV (pc := 58) (As := [.int 0, .int v4]) (st := [.int v5]) (st1 := [.int p1, .int v5]) (in_12 hX (by omega)) kk_12 mV_X12_wheels ln_X12_542 rfl (Nat.le_of_ble_eq_true rfl) (Nat.le_of_ble_eq_true rfl) (k_X12_wheels hX 0 v4 σ hp1) dX12_trade_58 rfl rfl ?_
  refine bi_ge (pc := 61) 179 dX12_trade_61 rfl (fun c2 => ?_) (fun c2 => ?_)
  · replace hf := am_ifT c2 hf
    refine g_iconst (pc := 64) (v := 0) dX12_trade_64 (by decide) ?_
    refine g_istore (pc := 65) [(6, .int 0), (0, .ref (am_ad X 12 0)), (1, .int v1), (2, .long v2), (4, .int v4), (5, .int v5)] dX12_trade_65 (Nat.le_of_ble_eq_true rfl) rfl ?_
    obtain ⟨w3, hw3, hf⟩ := am_bd hf
    refine am_sub [1, 2, 3, 4, 5, 0] rfl (l_X12_trade_67 hX v1 v4 v5  σ (v2, 0, σ) hw3 ?_)
    intro t e
    subst e
    refine g_iinc (pc := 173) (v := (v5 + 1)) 4 [(5, .int (v5 + 1)), (0, .ref (am_ad X 12 0)), (1, .int v1), (2, .long w3.1), (4, .int v4)] dX12_trade_173 rfl rfl (Nat.le_of_ble_eq_true rfl) rfl ?_
    refine g_goto (pc := 176) 52 dX12_trade_176 rfl ?_
    have hz := hk0 _ (Option.some.inj hf).symm
    exact am_sub [1, 2, 3, 4, 0] rfl hz
  replace hf := am_ifF c2 hf
  have hz := hk1 _ (Option.some.inj hf).symm
  exact am_sub [0, 1, 2, 3] rfl hz
set_option maxRecDepth 100000 in
set_option maxHeartbeats 4000000 in
theorem l_X12_trade_52 {X : am_X} (hX : am_ks X = am_ksM) {Q : Option Value → am_H → Prop} (v1 : Int32) (v4 : Int32) (σ : am_H) (s : Int64 × Int32 × am_H) {o : Int64 × am_H} (hf : am_loop (fun s => f_X12_trade_52 v1 s.1 v4 s.2.1 s.2.2) s = some o) (hk1 : ∀ t, o = t → am_G X gm_X12_trade Q 179 [(0, .ref (am_ad X 12 0)), (1, .int v1), (2, .long t.1), (4, .int v4)] [] t.2) : am_G X gm_X12_trade Q 52 [(0, .ref (am_ad X 12 0)), (1, .int v1), (2, .long s.1), (4, .int v4), (5, .int s.2.1)] [] s.2.2 := by
  refine am_loop_ind (P := fun s => am_G X gm_X12_trade Q 52 [(0, .ref (am_ad X 12 0)), (1, .int v1), (2, .long s.1), (4, .int v4), (5, .int s.2.1)] [] s.2.2) (K := fun r => r = o) ?_ hf rfl
  intro s o1 hb hi hr
  exact q_X12_trade_52 hX v1 s.1 v4 s.2.1  s.2.2 hb hi (fun t e => hk1 t (hr _ e).symm)
noncomputable def f_X12_trade_38 (v1 : Int32) (v2 : Int64) (v4 : Int32) (σ : am_H) : Option ((Int64 × Int32 × am_H) ⊕ (Int64 × am_H)) :=
  (am_ix 3 0).bind fun j1 =>
  if v4 < (σ.1 1320 0 j1) then
   ((am_loop (fun s => f_X12_trade_52 v1 s.1 v4 s.2.1 s.2.2) (v2, 0, σ)).bind fun w3 =>
   some (.inl (w3.1, (v4 + 1), w3.2)))
  else
  some (.inr (v2, σ))
set_option maxRecDepth 100000 in
set_option maxHeartbeats 4000000 in
theorem q_X12_trade_38 {X : am_X} (hX : am_ks X = am_ksM) {Q : Option Value → am_H → Prop} (v1 : Int32) (v2 : Int64) (v4 : Int32) (σ : am_H) {o : (Int64 × Int32 × am_H) ⊕ (Int64 × am_H)} (hf : f_X12_trade_38 v1 v2 v4 σ = some o) (hk0 : ∀ s, o = .inl s → am_G X gm_X12_trade Q 38 [(0, .ref (am_ad X 12 0)), (1, .int v1), (2, .long s.1), (4, .int s.2.1)] [] s.2.2) (hk1 : ∀ t, o = .inr t → am_G X gm_X12_trade Q 185 [(0, .ref (am_ad X 12 0)), (2, .long t.1)] [] t.2) : am_G X gm_X12_trade Q 38 [(0, .ref (am_ad X 12 0)), (1, .int v1), (2, .long v2), (4, .int v4)] [] σ := by
  unfold f_X12_trade_38 at hf
  refine g_iload (pc := 38) 3 rfl dX12_trade_38 ?_
  refine g_aload_n (pc := 40) 0 rfl dX12_trade_40 rfl ?_
  refine g_getC (pc := 41) (e := 0) (in_12 hX (by omega)) fr_X12_35 dX12_trade_41 rfl ?_
  refine g_iconst (pc := 44) (v := 0) dX12_trade_44 (by decide) ?_
  obtain ⟨j1, hj1, hf⟩ := am_bd hf
  have gj1 := am_ix_lt hj1
  refine g_aI (pc := 45) (in_1320 hX (by omega)) ak_1320 hj1 dX12_trade_45 ?_
  refine bi_ge (pc := 46) 185 dX12_trade_46 rfl (fun c2 => ?_) (fun c2 => ?_)
  · replace hf := am_ifT c2 hf
    refine g_iconst (pc := 49) (v := 0) dX12_trade_49 (by decide) ?_
    refine g_istore (pc := 50) [(5, .int 0), (0, .ref (am_ad X 12 0)), (1, .int v1), (2, .long v2), (4, .int v4)] dX12_trade_50 (Nat.le_of_ble_eq_true rfl) rfl ?_
    obtain ⟨w3, hw3, hf⟩ := am_bd hf
    refine am_sub [1, 2, 3, 4, 0] rfl (l_X12_trade_52 hX v1 v4  σ (v2, 0, σ) hw3 ?_)
    intro t e
    subst e
    refine g_iinc (pc := 179) (v := (v4 + 1)) 3 [(4, .int (v4 + 1)), (0, .ref (am_ad X 12 0)), (1, .int v1), (2, .long w3.1)] dX12_trade_179 rfl rfl (Nat.le_of_ble_eq_true rfl) rfl ?_
    refine g_goto (pc := 182) 38 dX12_trade_182 rfl ?_
    have hz := hk0 _ (Option.some.inj hf).symm
    exact am_sub [1, 2, 3, 0] rfl hz
  replace hf := am_ifF c2 hf
  have hz := hk1 _ (Option.some.inj hf).symm
  exact am_sub [0, 2] rfl hz
set_option maxRecDepth 100000 in
set_option maxHeartbeats 4000000 in
theorem l_X12_trade_38 {X : am_X} (hX : am_ks X = am_ksM) {Q : Option Value → am_H → Prop} (v1 : Int32) (σ : am_H) (s : Int64 × Int32 × am_H) {o : Int64 × am_H} (hf : am_loop (fun s => f_X12_trade_38 v1 s.1 s.2.1 s.2.2) s = some o) (hk1 : ∀ t, o = t → am_G X gm_X12_trade Q 185 [(0, .ref (am_ad X 12 0)), (2, .long t.1)] [] t.2) : am_G X gm_X12_trade Q 38 [(0, .ref (am_ad X 12 0)), (1, .int v1), (2, .long s.1), (4, .int s.2.1)] [] s.2.2 := by
  refine am_loop_ind (P := fun s => am_G X gm_X12_trade Q 38 [(0, .ref (am_ad X 12 0)), (1, .int v1), (2, .long s.1), (4, .int s.2.1)] [] s.2.2) (K := fun r => r = o) ?_ hf rfl
  intro s o1 hb hi hr
  exact q_X12_trade_38 hX v1 s.1 s.2.1  s.2.2 hb hi (fun t e => hk1 t (hr _ e).symm)
noncomputable def f_X12_trade (v1 : Int32) (σ : am_H) : Option (Int64 × am_H) :=
  (some (am_wI σ 12 0 1 0)).bind fun s1 =>
  (some (am_wI s1 12 0 0 0)).bind fun s2 =>
  (f_X12_isHour v1 s2).bind fun p3 =>
  if p3 = true then
   ((f_X12_allOff v1 s2).bind fun p5 =>
   (some (am_wI s2 12 0 60 (-1))).bind fun s6 =>
   (am_loop (fun s => f_X12_trade_38 v1 s.1 s.2.1 s.2.2) (p5, 0, s6)).bind fun w7 =>
   (some (am_wI w7.2 12 0 67 (am_b true))).bind fun s8 =>
   some (w7.1, s8))
  else
  (f_X12_refuse 5 s2).bind fun p9 =>
  some ((Int32.toInt64 p9.1), p9.2)
set_option maxRecDepth 100000 in
set_option maxHeartbeats 4000000 in
theorem q_X12_trade {X : am_X} (hX : am_ks X = am_ksM) {Q : Option Value → am_H → Prop} (v1 : Int32) (σ : am_H) {o : Int64 × am_H} (hf : f_X12_trade v1 σ = some o) (hk : Q (some (.long o.1)) o.2) : am_G X gm_X12_trade Q 0 [(0, .ref (am_ad X 12 0)), (1, .int v1)] [] σ := by
  unfold f_X12_trade at hf
  refine g_aload_n (pc := 0) 0 rfl dX12_trade_0 rfl ?_
  refine g_iconst (pc := 1) (v := 0) dX12_trade_1 (by decide) ?_
  obtain ⟨s1, hs1, hf⟩ := am_bd hf
  refine g_setI (pc := 2) (in_12 hX (by omega)) fr_X12_122 dX12_trade_2 (Option.some.inj hs1) ?_
  refine g_aload_n (pc := 5) 0 rfl dX12_trade_5 rfl ?_
  refine g_iconst (pc := 6) (v := 0) dX12_trade_6 (by decide) ?_
  obtain ⟨s2, hs2, hf⟩ := am_bd hf
  refine g_setI (pc := 7) (in_12 hX (by omega)) fr_X12_125 dX12_trade_7 (Option.some.inj hs2) ?_
  refine g_iload_n (pc := 10) 1 rfl dX12_trade_10 rfl ?_
  obtain ⟨p3, hp3, hf⟩ := am_bd hf
  refine g_cS (pc := 11) (As := [.int v1]) (st := []) (st1 := [.int (am_b p3)]) mS_X12_isHour ln_X12_331 rfl (Nat.le_of_ble_eq_true rfl) (Nat.le_of_ble_eq_true rfl) (k_X12_isHour hX v1 s2 hp3) dX12_trade_11 rfl rfl ?_
  refine bt_ne (pc := 14) 24 dX12_trade_14 rfl (fun c4 => ?_) (fun c4 => ?_)
  · replace hf := am_ifT c4 hf
    refine g_aload_n (pc := 24) 0 rfl dX12_trade_24 rfl ?_
    refine g_iload_n (pc := 25) 1 rfl dX12_trade_25 rfl ?_
    obtain ⟨p5, hp5, hf⟩ := am_bd hf
    refine g_cV (pc := 26) (As := [.int v1]) (st := []) (st1 := [.long p5]) (in_12 hX (by omega)) kk_12 mV_X12_allOff ln_X12_553 rfl (Nat.le_of_ble_eq_true rfl) (Nat.le_of_ble_eq_true rfl) (k_X12_allOff hX v1 s2 hp5) dX12_trade_26 rfl rfl ?_
    refine g_lstore_n (pc := 29) [(2, .long p5), (0, .ref (am_ad X 12 0)), (1, .int v1)] dX12_trade_29 rfl (Nat.le_of_ble_eq_true rfl) rfl ?_
    refine g_aload_n (pc := 30) 1 rfl dX12_trade_30 rfl ?_
    refine g_iconst (pc := 31) (v := (-1)) dX12_trade_31 (by decide) ?_
    obtain ⟨s6, hs6, hf⟩ := am_bd hf
    refine g_setI (pc := 32) (in_12 hX (by omega)) fr_X12_74 dX12_trade_32 (Option.some.inj hs6) ?_
    refine g_iconst (pc := 35) (v := 0) dX12_trade_35 (by decide) ?_
    refine g_istore (pc := 36) [(4, .int 0), (2, .long p5), (0, .ref (am_ad X 12 0)), (1, .int v1)] dX12_trade_36 (Nat.le_of_ble_eq_true rfl) rfl ?_
    obtain ⟨w7, hw7, hf⟩ := am_bd hf
    refine am_sub [2, 3, 1, 0] rfl (l_X12_trade_38 hX v1  s6 (p5, 0, s6) hw7 ?_)
    intro t e
    subst e
    refine g_aload_n (pc := 185) 0 rfl dX12_trade_185 rfl ?_
    refine g_iconst (pc := 186) (v := 1) dX12_trade_186 (by decide) ?_
    obtain ⟨s8, hs8, hf⟩ := am_bd hf
    refine g_setZ (x := true) (pc := 187) (in_12 hX (by omega)) fr_X12_570 dX12_trade_187 (Option.some.inj hs8) ?_
    refine g_lload_n (pc := 190) 1 rfl dX12_trade_190 rfl ?_
    have ho := Option.some.inj hf
    subst ho
    exact g_lreturn (pc := 191) (st := []) rfl dX12_trade_191 hk
  replace hf := am_ifF c4 hf
  refine g_aload_n (pc := 17) 0 rfl dX12_trade_17 rfl ?_
  refine g_iconst (pc := 18) (v := 5) dX12_trade_18 (by decide) ?_
  obtain ⟨p9, hp9, hf⟩ := am_bd hf
  refine g_cV (pc := 19) (As := [.int 5]) (st := []) (st1 := [.int p9.1]) (in_12 hX (by omega)) kk_12 mV_X12_refuse ln_X12_283 rfl (Nat.le_of_ble_eq_true rfl) (Nat.le_of_ble_eq_true rfl) (k_X12_refuse hX 5 s2 hp9) dX12_trade_19 rfl rfl ?_
  refine g_i2l (pc := 22) dX12_trade_22 ?_
  have ho := Option.some.inj hf
  subst ho
  exact g_lreturn (pc := 23) (st := []) rfl dX12_trade_23 hk
theorem k_X12_trade {X : am_X} (hX : am_ks X = am_ksM) (v1 : Int32) (σ : am_H) {o : Int64 × am_H} (hf : f_X12_trade v1 σ = some o) : am_C X gm_X12_trade [.ref (am_ad X 12 0), .int v1] σ (am_is (some (.long o.1)) o.2) :=
  am_ofG rfl (Nat.le_of_ble_eq_true rfl) rfl (q_X12_trade hX v1 σ hf ⟨rfl, rfl⟩)
theorem dX12_traded_0 : decode cX12_traded 0 = .ok (.aload_n 0, 1) := by decide +kernel
theorem dX12_traded_1 : decode cX12_traded 1 = .ok (.iconst 0, 1) := by decide +kernel
theorem dX12_traded_2 : decode cX12_traded 2 = .ok (.putfield 122, 3) := by decide +kernel
theorem dX12_traded_5 : decode cX12_traded 5 = .ok (.aload_n 0, 1) := by decide +kernel
theorem dX12_traded_6 : decode cX12_traded 6 = .ok (.iconst 0, 1) := by decide +kernel
theorem dX12_traded_7 : decode cX12_traded 7 = .ok (.putfield 125, 3) := by decide +kernel
theorem dX12_traded_10 : decode cX12_traded 10 = .ok (.iload_n 1, 1) := by decide +kernel
theorem dX12_traded_11 : decode cX12_traded 11 = .ok (.i2l, 1) := by decide +kernel
theorem dX12_traded_12 : decode cX12_traded 12 = .ok (.lconst 0, 1) := by decide +kernel
theorem dX12_traded_13 : decode cX12_traded 13 = .ok (.ldc2_w 390, 3) := by decide +kernel
theorem dX12_traded_16 : decode cX12_traded 16 = .ok (.invokestatic 239, 3) := by decide +kernel
theorem dX12_traded_19 : decode cX12_traded 19 = .ok (.ifCond .ne 9, 3) := by decide +kernel
theorem dX12_traded_22 : decode cX12_traded 22 = .ok (.aload_n 0, 1) := by decide +kernel
theorem dX12_traded_23 : decode cX12_traded 23 = .ok (.iconst 5, 1) := by decide +kernel
theorem dX12_traded_24 : decode cX12_traded 24 = .ok (.invokevirtual 283, 3) := by decide +kernel
theorem dX12_traded_27 : decode cX12_traded 27 = .ok (.ireturn, 1) := by decide +kernel
theorem dX12_traded_28 : decode cX12_traded 28 = .ok (.aload_n 0, 1) := by decide +kernel
theorem dX12_traded_29 : decode cX12_traded 29 = .ok (.getfield 570, 3) := by decide +kernel
theorem dX12_traded_32 : decode cX12_traded 32 = .ok (.ifCond .eq 10, 3) := by decide +kernel
theorem dX12_traded_35 : decode cX12_traded 35 = .ok (.aload_n 0, 1) := by decide +kernel
theorem dX12_traded_36 : decode cX12_traded 36 = .ok (.getfield 74, 3) := by decide +kernel
theorem dX12_traded_39 : decode cX12_traded 39 = .ok (.ifCond .ge 10, 3) := by decide +kernel
theorem dX12_traded_42 : decode cX12_traded 42 = .ok (.aload_n 0, 1) := by decide +kernel
theorem dX12_traded_43 : decode cX12_traded 43 = .ok (.bipush 8, 2) := by decide +kernel
theorem dX12_traded_45 : decode cX12_traded 45 = .ok (.invokevirtual 283, 3) := by decide +kernel
theorem dX12_traded_48 : decode cX12_traded 48 = .ok (.ireturn, 1) := by decide +kernel
theorem dX12_traded_49 : decode cX12_traded 49 = .ok (.iload_n 1, 1) := by decide +kernel
theorem dX12_traded_50 : decode cX12_traded 50 = .ok (.ifCond .ne 10, 3) := by decide +kernel
theorem dX12_traded_53 : decode cX12_traded 53 = .ok (.aload_n 0, 1) := by decide +kernel
theorem dX12_traded_54 : decode cX12_traded 54 = .ok (.getfield 74, 3) := by decide +kernel
theorem dX12_traded_57 : decode cX12_traded 57 = .ok (.goto 31, 3) := by decide +kernel
theorem dX12_traded_60 : decode cX12_traded 60 = .ok (.iload_n 1, 1) := by decide +kernel
theorem dX12_traded_61 : decode cX12_traded 61 = .ok (.iconst 1, 1) := by decide +kernel
theorem dX12_traded_62 : decode cX12_traded 62 = .ok (.if_icmp .ne 10, 3) := by decide +kernel
theorem dX12_traded_65 : decode cX12_traded 65 = .ok (.aload_n 0, 1) := by decide +kernel
theorem dX12_traded_66 : decode cX12_traded 66 = .ok (.getfield 561, 3) := by decide +kernel
theorem dX12_traded_69 : decode cX12_traded 69 = .ok (.goto 19, 3) := by decide +kernel
theorem dX12_traded_72 : decode cX12_traded 72 = .ok (.iload_n 1, 1) := by decide +kernel
theorem dX12_traded_73 : decode cX12_traded 73 = .ok (.iconst 2, 1) := by decide +kernel
theorem dX12_traded_74 : decode cX12_traded 74 = .ok (.if_icmp .ne 10, 3) := by decide +kernel
theorem dX12_traded_77 : decode cX12_traded 77 = .ok (.aload_n 0, 1) := by decide +kernel
theorem dX12_traded_78 : decode cX12_traded 78 = .ok (.getfield 564, 3) := by decide +kernel
theorem dX12_traded_81 : decode cX12_traded 81 = .ok (.goto 7, 3) := by decide +kernel
theorem dX12_traded_84 : decode cX12_traded 84 = .ok (.aload_n 0, 1) := by decide +kernel
theorem dX12_traded_85 : decode cX12_traded 85 = .ok (.getfield 567, 3) := by decide +kernel
theorem dX12_traded_88 : decode cX12_traded 88 = .ok (.ireturn, 1) := by decide +kernel
noncomputable def f_X12_traded_42 (σ : am_H) : Option (Int32 × am_H) :=
  (f_X12_refuse 8 σ).bind fun p1 =>
  some (p1.1, p1.2)
set_option maxRecDepth 100000 in
set_option maxHeartbeats 4000000 in
theorem q_X12_traded_42 {X : am_X} (hX : am_ks X = am_ksM) {Q : Option Value → am_H → Prop} (σ : am_H) {o : Int32 × am_H} (hf : f_X12_traded_42 σ = some o) (hk : Q (some (.int o.1)) o.2) : am_G X gm_X12_traded Q 42 [(0, .ref (am_ad X 12 0))] [] σ := by
  unfold f_X12_traded_42 at hf
  refine g_aload_n (pc := 42) 0 rfl dX12_traded_42 rfl ?_
  refine g_bipush (pc := 43) (v := 8) dX12_traded_43 (by decide) ?_
  obtain ⟨p1, hp1, hf⟩ := am_bd hf
  refine g_cV (pc := 45) (As := [.int 8]) (st := []) (st1 := [.int p1.1]) (in_12 hX (by omega)) kk_12 mV_X12_refuse ln_X12_283 rfl (Nat.le_of_ble_eq_true rfl) (Nat.le_of_ble_eq_true rfl) (k_X12_refuse hX 8 σ hp1) dX12_traded_45 rfl rfl ?_
  have ho := Option.some.inj hf
  subst ho
  exact g_ireturn (pc := 48) (st := []) rfl dX12_traded_48 hk
noncomputable def f_X12_traded (v1 : Int32) (σ : am_H) : Option (Int32 × am_H) :=
  (some (am_wI σ 12 0 1 0)).bind fun s1 =>
  (some (am_wI s1 12 0 0 0)).bind fun s2 =>
  (f_X12_isIn (Int32.toInt64 v1) 0 3 s2).bind fun p3 =>
  if p3 = true then
   (if (s2.1 12 0 67) = 0 then
    (f_X12_traded_42 s2)
   else
   if (s2.1 12 0 60) < 0 then
    (f_X12_traded_42 s2)
   else
   if v1 = 0 then
    (some ((s2.1 12 0 60), s2))
   else
   if v1 = 1 then
    (some ((s2.1 12 0 61), s2))
   else
   if v1 = 2 then
    (some ((s2.1 12 0 62), s2))
   else
   some ((s2.1 12 0 63), s2))
  else
  (f_X12_refuse 5 s2).bind fun p10 =>
  some (p10.1, p10.2)
set_option maxRecDepth 100000 in
set_option maxHeartbeats 4000000 in
theorem q_X12_traded {X : am_X} (hX : am_ks X = am_ksM) {Q : Option Value → am_H → Prop} (v1 : Int32) (σ : am_H) {o : Int32 × am_H} (hf : f_X12_traded v1 σ = some o) (hk : Q (some (.int o.1)) o.2) : am_G X gm_X12_traded Q 0 [(0, .ref (am_ad X 12 0)), (1, .int v1)] [] σ := by
  unfold f_X12_traded at hf
  refine g_aload_n (pc := 0) 0 rfl dX12_traded_0 rfl ?_
  refine g_iconst (pc := 1) (v := 0) dX12_traded_1 (by decide) ?_
  obtain ⟨s1, hs1, hf⟩ := am_bd hf
  refine g_setI (pc := 2) (in_12 hX (by omega)) fr_X12_122 dX12_traded_2 (Option.some.inj hs1) ?_
  refine g_aload_n (pc := 5) 0 rfl dX12_traded_5 rfl ?_
  refine g_iconst (pc := 6) (v := 0) dX12_traded_6 (by decide) ?_
  obtain ⟨s2, hs2, hf⟩ := am_bd hf
  refine g_setI (pc := 7) (in_12 hX (by omega)) fr_X12_125 dX12_traded_7 (Option.some.inj hs2) ?_
  refine g_iload_n (pc := 10) 1 rfl dX12_traded_10 rfl ?_
  refine g_i2l (pc := 11) dX12_traded_11 ?_
  refine g_lconst (pc := 12) (v := 0) dX12_traded_12 (by decide) ?_
  refine g_ldc2 (pc := 13) (v := 3) (tb_9 (List.mem_of_getElem? (i := 119) (by decide +kernel))) dX12_traded_13 ?_
  obtain ⟨p3, hp3, hf⟩ := am_bd hf
  refine g_cS (pc := 16) (As := [.long (Int32.toInt64 v1), .long 0, .long 3]) (st := []) (st1 := [.int (am_b p3)]) mS_X12_isIn ln_X12_239 rfl (Nat.le_of_ble_eq_true rfl) (Nat.le_of_ble_eq_true rfl) (k_X12_isIn hX (Int32.toInt64 v1) 0 3 s2 hp3) dX12_traded_16 rfl rfl ?_
  refine bt_ne (pc := 19) 28 dX12_traded_19 rfl (fun c4 => ?_) (fun c4 => ?_)
  · replace hf := am_ifT c4 hf
    refine g_aload_n (pc := 28) 0 rfl dX12_traded_28 rfl ?_
    refine g_getZ (pc := 29) (in_12 hX (by omega)) fr_X12_570 dX12_traded_29 ?_
    refine bz_eq (pc := 32) 42 dX12_traded_32 rfl (fun c5 => ?_) (fun c5 => ?_)
    · replace hf := am_ifT c5 hf
      exact am_sub [0] rfl (q_X12_traded_42 hX s2 hf hk)
    replace hf := am_ifF c5 hf
    refine g_aload_n (pc := 35) 0 rfl dX12_traded_35 rfl ?_
    refine g_getI (pc := 36) (in_12 hX (by omega)) fr_X12_74 dX12_traded_36 ?_
    refine bz_ge (pc := 39) 49 dX12_traded_39 rfl (fun c6 => ?_) (fun c6 => ?_)
    · replace hf := am_ifT c6 hf
      exact am_sub [0] rfl (q_X12_traded_42 hX s2 hf hk)
    replace hf := am_ifF c6 hf
    refine g_iload_n (pc := 49) 1 rfl dX12_traded_49 rfl ?_
    refine bz_ne (pc := 50) 60 dX12_traded_50 rfl (fun c7 => ?_) (fun c7 => ?_)
    · replace hf := am_ifT c7 hf
      refine g_aload_n (pc := 53) 0 rfl dX12_traded_53 rfl ?_
      refine g_getI (pc := 54) (in_12 hX (by omega)) fr_X12_74 dX12_traded_54 ?_
      refine g_goto (pc := 57) 88 dX12_traded_57 rfl ?_
      have ho := Option.some.inj hf
      subst ho
      exact g_ireturn (pc := 88) (st := []) rfl dX12_traded_88 hk
    replace hf := am_ifF c7 hf
    refine g_iload_n (pc := 60) 1 rfl dX12_traded_60 rfl ?_
    refine g_iconst (pc := 61) (v := 1) dX12_traded_61 (by decide) ?_
    refine bi_ne (pc := 62) 72 dX12_traded_62 rfl (fun c8 => ?_) (fun c8 => ?_)
    · replace hf := am_ifT c8 hf
      refine g_aload_n (pc := 65) 0 rfl dX12_traded_65 rfl ?_
      refine g_getI (pc := 66) (in_12 hX (by omega)) fr_X12_561 dX12_traded_66 ?_
      refine g_goto (pc := 69) 88 dX12_traded_69 rfl ?_
      have ho := Option.some.inj hf
      subst ho
      exact g_ireturn (pc := 88) (st := []) rfl dX12_traded_88 hk
    replace hf := am_ifF c8 hf
    refine g_iload_n (pc := 72) 1 rfl dX12_traded_72 rfl ?_
    refine g_iconst (pc := 73) (v := 2) dX12_traded_73 (by decide) ?_
    refine bi_ne (pc := 74) 84 dX12_traded_74 rfl (fun c9 => ?_) (fun c9 => ?_)
    · replace hf := am_ifT c9 hf
      refine g_aload_n (pc := 77) 0 rfl dX12_traded_77 rfl ?_
      refine g_getI (pc := 78) (in_12 hX (by omega)) fr_X12_564 dX12_traded_78 ?_
      refine g_goto (pc := 81) 88 dX12_traded_81 rfl ?_
      have ho := Option.some.inj hf
      subst ho
      exact g_ireturn (pc := 88) (st := []) rfl dX12_traded_88 hk
    replace hf := am_ifF c9 hf
    refine g_aload_n (pc := 84) 0 rfl dX12_traded_84 rfl ?_
    refine g_getI (pc := 85) (in_12 hX (by omega)) fr_X12_567 dX12_traded_85 ?_
    have ho := Option.some.inj hf
    subst ho
    exact g_ireturn (pc := 88) (st := []) rfl dX12_traded_88 hk
  replace hf := am_ifF c4 hf
  refine g_aload_n (pc := 22) 0 rfl dX12_traded_22 rfl ?_
  refine g_iconst (pc := 23) (v := 5) dX12_traded_23 (by decide) ?_
  obtain ⟨p10, hp10, hf⟩ := am_bd hf
  refine g_cV (pc := 24) (As := [.int 5]) (st := []) (st1 := [.int p10.1]) (in_12 hX (by omega)) kk_12 mV_X12_refuse ln_X12_283 rfl (Nat.le_of_ble_eq_true rfl) (Nat.le_of_ble_eq_true rfl) (k_X12_refuse hX 5 s2 hp10) dX12_traded_24 rfl rfl ?_
  have ho := Option.some.inj hf
  subst ho
  exact g_ireturn (pc := 27) (st := []) rfl dX12_traded_27 hk
theorem k_X12_traded {X : am_X} (hX : am_ks X = am_ksM) (v1 : Int32) (σ : am_H) {o : Int32 × am_H} (hf : f_X12_traded v1 σ = some o) : am_C X gm_X12_traded [.ref (am_ad X 12 0), .int v1] σ (am_is (some (.int o.1)) o.2) :=
  am_ofG rfl (Nat.le_of_ble_eq_true rfl) rfl (q_X12_traded hX v1 σ hf ⟨rfl, rfl⟩)
theorem dX12_stepWord_0 : decode cX12_stepWord 0 = .ok (.aload_n 0, 1) := by decide +kernel
theorem dX12_stepWord_1 : decode cX12_stepWord 1 = .ok (.bipush 103, 2) := by decide +kernel
theorem dX12_stepWord_3 : decode cX12_stepWord 3 = .ok (.bipush 111, 2) := by decide +kernel
theorem dX12_stepWord_5 : decode cX12_stepWord 5 = .ok (.iconst 0, 1) := by decide +kernel
theorem dX12_stepWord_6 : decode cX12_stepWord 6 = .ok (.iconst 0, 1) := by decide +kernel
theorem dX12_stepWord_7 : decode cX12_stepWord 7 = .ok (.iconst 0, 1) := by decide +kernel
theorem dX12_stepWord_8 : decode cX12_stepWord 8 = .ok (.invokestatic 189, 3) := by decide +kernel
theorem dX12_stepWord_11 : decode cX12_stepWord 11 = .ok (.invokevirtual 193, 3) := by decide +kernel
theorem dX12_stepWord_14 : decode cX12_stepWord 14 = .ok (.ifCond .eq 5, 3) := by decide +kernel
theorem dX12_stepWord_17 : decode cX12_stepWord 17 = .ok (.iconst 0, 1) := by decide +kernel
theorem dX12_stepWord_18 : decode cX12_stepWord 18 = .ok (.ireturn, 1) := by decide +kernel
theorem dX12_stepWord_19 : decode cX12_stepWord 19 = .ok (.aload_n 0, 1) := by decide +kernel
theorem dX12_stepWord_20 : decode cX12_stepWord 20 = .ok (.bipush 117, 2) := by decide +kernel
theorem dX12_stepWord_22 : decode cX12_stepWord 22 = .ok (.bipush 110, 2) := by decide +kernel
theorem dX12_stepWord_24 : decode cX12_stepWord 24 = .ok (.bipush 116, 2) := by decide +kernel
theorem dX12_stepWord_26 : decode cX12_stepWord 26 = .ok (.bipush 105, 2) := by decide +kernel
theorem dX12_stepWord_28 : decode cX12_stepWord 28 = .ok (.bipush 108, 2) := by decide +kernel
theorem dX12_stepWord_30 : decode cX12_stepWord 30 = .ok (.invokestatic 189, 3) := by decide +kernel
theorem dX12_stepWord_33 : decode cX12_stepWord 33 = .ok (.invokevirtual 193, 3) := by decide +kernel
theorem dX12_stepWord_36 : decode cX12_stepWord 36 = .ok (.ifCond .eq 5, 3) := by decide +kernel
theorem dX12_stepWord_39 : decode cX12_stepWord 39 = .ok (.iconst 1, 1) := by decide +kernel
theorem dX12_stepWord_40 : decode cX12_stepWord 40 = .ok (.ireturn, 1) := by decide +kernel
theorem dX12_stepWord_41 : decode cX12_stepWord 41 = .ok (.aload_n 0, 1) := by decide +kernel
theorem dX12_stepWord_42 : decode cX12_stepWord 42 = .ok (.bipush 109, 2) := by decide +kernel
theorem dX12_stepWord_44 : decode cX12_stepWord 44 = .ok (.bipush 97, 2) := by decide +kernel
theorem dX12_stepWord_46 : decode cX12_stepWord 46 = .ok (.bipush 114, 2) := by decide +kernel
theorem dX12_stepWord_48 : decode cX12_stepWord 48 = .ok (.bipush 107, 2) := by decide +kernel
theorem dX12_stepWord_50 : decode cX12_stepWord 50 = .ok (.iconst 0, 1) := by decide +kernel
theorem dX12_stepWord_51 : decode cX12_stepWord 51 = .ok (.invokestatic 189, 3) := by decide +kernel
theorem dX12_stepWord_54 : decode cX12_stepWord 54 = .ok (.invokevirtual 193, 3) := by decide +kernel
theorem dX12_stepWord_57 : decode cX12_stepWord 57 = .ok (.ifCond .eq 5, 3) := by decide +kernel
theorem dX12_stepWord_60 : decode cX12_stepWord 60 = .ok (.iconst 2, 1) := by decide +kernel
theorem dX12_stepWord_61 : decode cX12_stepWord 61 = .ok (.ireturn, 1) := by decide +kernel
theorem dX12_stepWord_62 : decode cX12_stepWord 62 = .ok (.aload_n 0, 1) := by decide +kernel
theorem dX12_stepWord_63 : decode cX12_stepWord 63 = .ok (.bipush 114, 2) := by decide +kernel
theorem dX12_stepWord_65 : decode cX12_stepWord 65 = .ok (.bipush 101, 2) := by decide +kernel
theorem dX12_stepWord_67 : decode cX12_stepWord 67 = .ok (.bipush 97, 2) := by decide +kernel
theorem dX12_stepWord_69 : decode cX12_stepWord 69 = .ok (.bipush 100, 2) := by decide +kernel
theorem dX12_stepWord_71 : decode cX12_stepWord 71 = .ok (.iconst 0, 1) := by decide +kernel
theorem dX12_stepWord_72 : decode cX12_stepWord 72 = .ok (.invokestatic 189, 3) := by decide +kernel
theorem dX12_stepWord_75 : decode cX12_stepWord 75 = .ok (.invokevirtual 193, 3) := by decide +kernel
theorem dX12_stepWord_78 : decode cX12_stepWord 78 = .ok (.ifCond .eq 5, 3) := by decide +kernel
theorem dX12_stepWord_81 : decode cX12_stepWord 81 = .ok (.iconst 3, 1) := by decide +kernel
theorem dX12_stepWord_82 : decode cX12_stepWord 82 = .ok (.ireturn, 1) := by decide +kernel
theorem dX12_stepWord_83 : decode cX12_stepWord 83 = .ok (.aload_n 0, 1) := by decide +kernel
theorem dX12_stepWord_84 : decode cX12_stepWord 84 = .ok (.bipush 108, 2) := by decide +kernel
theorem dX12_stepWord_86 : decode cX12_stepWord 86 = .ok (.bipush 111, 2) := by decide +kernel
theorem dX12_stepWord_88 : decode cX12_stepWord 88 = .ok (.bipush 111, 2) := by decide +kernel
theorem dX12_stepWord_90 : decode cX12_stepWord 90 = .ok (.bipush 112, 2) := by decide +kernel
theorem dX12_stepWord_92 : decode cX12_stepWord 92 = .ok (.iconst 0, 1) := by decide +kernel
theorem dX12_stepWord_93 : decode cX12_stepWord 93 = .ok (.invokestatic 189, 3) := by decide +kernel
theorem dX12_stepWord_96 : decode cX12_stepWord 96 = .ok (.invokevirtual 193, 3) := by decide +kernel
theorem dX12_stepWord_99 : decode cX12_stepWord 99 = .ok (.ifCond .eq 5, 3) := by decide +kernel
theorem dX12_stepWord_102 : decode cX12_stepWord 102 = .ok (.iconst 4, 1) := by decide +kernel
theorem dX12_stepWord_103 : decode cX12_stepWord 103 = .ok (.ireturn, 1) := by decide +kernel
theorem dX12_stepWord_104 : decode cX12_stepWord 104 = .ok (.aload_n 0, 1) := by decide +kernel
theorem dX12_stepWord_105 : decode cX12_stepWord 105 = .ok (.bipush 119, 2) := by decide +kernel
theorem dX12_stepWord_107 : decode cX12_stepWord 107 = .ok (.bipush 104, 2) := by decide +kernel
theorem dX12_stepWord_109 : decode cX12_stepWord 109 = .ok (.bipush 101, 2) := by decide +kernel
theorem dX12_stepWord_111 : decode cX12_stepWord 111 = .ok (.bipush 110, 2) := by decide +kernel
theorem dX12_stepWord_113 : decode cX12_stepWord 113 = .ok (.iconst 0, 1) := by decide +kernel
theorem dX12_stepWord_114 : decode cX12_stepWord 114 = .ok (.invokestatic 189, 3) := by decide +kernel
theorem dX12_stepWord_117 : decode cX12_stepWord 117 = .ok (.invokevirtual 193, 3) := by decide +kernel
theorem dX12_stepWord_120 : decode cX12_stepWord 120 = .ok (.ifCond .eq 7, 3) := by decide +kernel
theorem dX12_stepWord_123 : decode cX12_stepWord 123 = .ok (.iconst 5, 1) := by decide +kernel
theorem dX12_stepWord_124 : decode cX12_stepWord 124 = .ok (.goto 4, 3) := by decide +kernel
theorem dX12_stepWord_127 : decode cX12_stepWord 127 = .ok (.iconst (-1), 1) := by decide +kernel
theorem dX12_stepWord_128 : decode cX12_stepWord 128 = .ok (.ireturn, 1) := by decide +kernel
noncomputable def f_X12_stepWord (σ : am_H) : Option (Int32) :=
  (f_X12_spelled 103 111 0 0 0 σ).bind fun p1 =>
  (f_X12_isWord p1 σ).bind fun p2 =>
  if p2 = true then
   (some 0)
  else
  (f_X12_spelled 117 110 116 105 108 σ).bind fun p4 =>
  (f_X12_isWord p4 σ).bind fun p5 =>
  if p5 = true then
   (some 1)
  else
  (f_X12_spelled 109 97 114 107 0 σ).bind fun p7 =>
  (f_X12_isWord p7 σ).bind fun p8 =>
  if p8 = true then
   (some 2)
  else
  (f_X12_spelled 114 101 97 100 0 σ).bind fun p10 =>
  (f_X12_isWord p10 σ).bind fun p11 =>
  if p11 = true then
   (some 3)
  else
  (f_X12_spelled 108 111 111 112 0 σ).bind fun p13 =>
  (f_X12_isWord p13 σ).bind fun p14 =>
  if p14 = true then
   (some 4)
  else
  (f_X12_spelled 119 104 101 110 0 σ).bind fun p16 =>
  (f_X12_isWord p16 σ).bind fun p17 =>
  if p17 = true then
   (some 5)
  else
  some (-1)
set_option maxRecDepth 100000 in
set_option maxHeartbeats 4000000 in
theorem q_X12_stepWord {X : am_X} (hX : am_ks X = am_ksM) {Q : Option Value → am_H → Prop} (σ : am_H) {o : Int32} (hf : f_X12_stepWord σ = some o) (hk : Q (some (.int o)) σ) : am_G X gm_X12_stepWord Q 0 [(0, .ref (am_ad X 12 0))] [] σ := by
  unfold f_X12_stepWord at hf
  refine g_aload_n (pc := 0) 0 rfl dX12_stepWord_0 rfl ?_
  refine g_bipush (pc := 1) (v := 103) dX12_stepWord_1 (by decide) ?_
  refine g_bipush (pc := 3) (v := 111) dX12_stepWord_3 (by decide) ?_
  refine g_iconst (pc := 5) (v := 0) dX12_stepWord_5 (by decide) ?_
  refine g_iconst (pc := 6) (v := 0) dX12_stepWord_6 (by decide) ?_
  refine g_iconst (pc := 7) (v := 0) dX12_stepWord_7 (by decide) ?_
  obtain ⟨p1, hp1, hf⟩ := am_bd hf
  refine g_cS (pc := 8) (As := [.int 103, .int 111, .int 0, .int 0, .int 0]) (st := [.ref (am_ad X 12 0)]) (st1 := [.long p1, .ref (am_ad X 12 0)]) mS_X12_spelled ln_X12_189 rfl (Nat.le_of_ble_eq_true rfl) (Nat.le_of_ble_eq_true rfl) (k_X12_spelled hX 103 111 0 0 0 σ hp1) dX12_stepWord_8 rfl rfl ?_
  obtain ⟨p2, hp2, hf⟩ := am_bd hf
  refine g_cV (pc := 11) (As := [.long p1]) (st := []) (st1 := [.int (am_b p2)]) (in_12 hX (by omega)) kk_12 mV_X12_isWord ln_X12_193 rfl (Nat.le_of_ble_eq_true rfl) (Nat.le_of_ble_eq_true rfl) (k_X12_isWord hX p1 σ hp2) dX12_stepWord_11 rfl rfl ?_
  refine bt_eq (pc := 14) 19 dX12_stepWord_14 rfl (fun c3 => ?_) (fun c3 => ?_)
  · replace hf := am_ifT c3 hf
    refine g_iconst (pc := 17) (v := 0) dX12_stepWord_17 (by decide) ?_
    have ho := Option.some.inj hf
    subst ho
    exact g_ireturn (pc := 18) (st := []) rfl dX12_stepWord_18 hk
  replace hf := am_ifF c3 hf
  refine g_aload_n (pc := 19) 0 rfl dX12_stepWord_19 rfl ?_
  refine g_bipush (pc := 20) (v := 117) dX12_stepWord_20 (by decide) ?_
  refine g_bipush (pc := 22) (v := 110) dX12_stepWord_22 (by decide) ?_
  refine g_bipush (pc := 24) (v := 116) dX12_stepWord_24 (by decide) ?_
  refine g_bipush (pc := 26) (v := 105) dX12_stepWord_26 (by decide) ?_
  refine g_bipush (pc := 28) (v := 108) dX12_stepWord_28 (by decide) ?_
  obtain ⟨p4, hp4, hf⟩ := am_bd hf
  refine g_cS (pc := 30) (As := [.int 117, .int 110, .int 116, .int 105, .int 108]) (st := [.ref (am_ad X 12 0)]) (st1 := [.long p4, .ref (am_ad X 12 0)]) mS_X12_spelled ln_X12_189 rfl (Nat.le_of_ble_eq_true rfl) (Nat.le_of_ble_eq_true rfl) (k_X12_spelled hX 117 110 116 105 108 σ hp4) dX12_stepWord_30 rfl rfl ?_
  obtain ⟨p5, hp5, hf⟩ := am_bd hf
  refine g_cV (pc := 33) (As := [.long p4]) (st := []) (st1 := [.int (am_b p5)]) (in_12 hX (by omega)) kk_12 mV_X12_isWord ln_X12_193 rfl (Nat.le_of_ble_eq_true rfl) (Nat.le_of_ble_eq_true rfl) (k_X12_isWord hX p4 σ hp5) dX12_stepWord_33 rfl rfl ?_
  refine bt_eq (pc := 36) 41 dX12_stepWord_36 rfl (fun c6 => ?_) (fun c6 => ?_)
  · replace hf := am_ifT c6 hf
    refine g_iconst (pc := 39) (v := 1) dX12_stepWord_39 (by decide) ?_
    have ho := Option.some.inj hf
    subst ho
    exact g_ireturn (pc := 40) (st := []) rfl dX12_stepWord_40 hk
  replace hf := am_ifF c6 hf
  refine g_aload_n (pc := 41) 0 rfl dX12_stepWord_41 rfl ?_
  refine g_bipush (pc := 42) (v := 109) dX12_stepWord_42 (by decide) ?_
  refine g_bipush (pc := 44) (v := 97) dX12_stepWord_44 (by decide) ?_
  refine g_bipush (pc := 46) (v := 114) dX12_stepWord_46 (by decide) ?_
  refine g_bipush (pc := 48) (v := 107) dX12_stepWord_48 (by decide) ?_
  refine g_iconst (pc := 50) (v := 0) dX12_stepWord_50 (by decide) ?_
  obtain ⟨p7, hp7, hf⟩ := am_bd hf
  refine g_cS (pc := 51) (As := [.int 109, .int 97, .int 114, .int 107, .int 0]) (st := [.ref (am_ad X 12 0)]) (st1 := [.long p7, .ref (am_ad X 12 0)]) mS_X12_spelled ln_X12_189 rfl (Nat.le_of_ble_eq_true rfl) (Nat.le_of_ble_eq_true rfl) (k_X12_spelled hX 109 97 114 107 0 σ hp7) dX12_stepWord_51 rfl rfl ?_
  obtain ⟨p8, hp8, hf⟩ := am_bd hf
  refine g_cV (pc := 54) (As := [.long p7]) (st := []) (st1 := [.int (am_b p8)]) (in_12 hX (by omega)) kk_12 mV_X12_isWord ln_X12_193 rfl (Nat.le_of_ble_eq_true rfl) (Nat.le_of_ble_eq_true rfl) (k_X12_isWord hX p7 σ hp8) dX12_stepWord_54 rfl rfl ?_
  refine bt_eq (pc := 57) 62 dX12_stepWord_57 rfl (fun c9 => ?_) (fun c9 => ?_)
  · replace hf := am_ifT c9 hf
    refine g_iconst (pc := 60) (v := 2) dX12_stepWord_60 (by decide) ?_
    have ho := Option.some.inj hf
    subst ho
    exact g_ireturn (pc := 61) (st := []) rfl dX12_stepWord_61 hk
  replace hf := am_ifF c9 hf
  refine g_aload_n (pc := 62) 0 rfl dX12_stepWord_62 rfl ?_
  refine g_bipush (pc := 63) (v := 114) dX12_stepWord_63 (by decide) ?_
  refine g_bipush (pc := 65) (v := 101) dX12_stepWord_65 (by decide) ?_
  refine g_bipush (pc := 67) (v := 97) dX12_stepWord_67 (by decide) ?_
  refine g_bipush (pc := 69) (v := 100) dX12_stepWord_69 (by decide) ?_
  refine g_iconst (pc := 71) (v := 0) dX12_stepWord_71 (by decide) ?_
  obtain ⟨p10, hp10, hf⟩ := am_bd hf
  refine g_cS (pc := 72) (As := [.int 114, .int 101, .int 97, .int 100, .int 0]) (st := [.ref (am_ad X 12 0)]) (st1 := [.long p10, .ref (am_ad X 12 0)]) mS_X12_spelled ln_X12_189 rfl (Nat.le_of_ble_eq_true rfl) (Nat.le_of_ble_eq_true rfl) (k_X12_spelled hX 114 101 97 100 0 σ hp10) dX12_stepWord_72 rfl rfl ?_
  obtain ⟨p11, hp11, hf⟩ := am_bd hf
  refine g_cV (pc := 75) (As := [.long p10]) (st := []) (st1 := [.int (am_b p11)]) (in_12 hX (by omega)) kk_12 mV_X12_isWord ln_X12_193 rfl (Nat.le_of_ble_eq_true rfl) (Nat.le_of_ble_eq_true rfl) (k_X12_isWord hX p10 σ hp11) dX12_stepWord_75 rfl rfl ?_
  refine bt_eq (pc := 78) 83 dX12_stepWord_78 rfl (fun c12 => ?_) (fun c12 => ?_)
  · replace hf := am_ifT c12 hf
    refine g_iconst (pc := 81) (v := 3) dX12_stepWord_81 (by decide) ?_
    have ho := Option.some.inj hf
    subst ho
    exact g_ireturn (pc := 82) (st := []) rfl dX12_stepWord_82 hk
  replace hf := am_ifF c12 hf
  refine g_aload_n (pc := 83) 0 rfl dX12_stepWord_83 rfl ?_
  refine g_bipush (pc := 84) (v := 108) dX12_stepWord_84 (by decide) ?_
  refine g_bipush (pc := 86) (v := 111) dX12_stepWord_86 (by decide) ?_
  refine g_bipush (pc := 88) (v := 111) dX12_stepWord_88 (by decide) ?_
  refine g_bipush (pc := 90) (v := 112) dX12_stepWord_90 (by decide) ?_
  refine g_iconst (pc := 92) (v := 0) dX12_stepWord_92 (by decide) ?_
  obtain ⟨p13, hp13, hf⟩ := am_bd hf
  refine g_cS (pc := 93) (As := [.int 108, .int 111, .int 111, .int 112, .int 0]) (st := [.ref (am_ad X 12 0)]) (st1 := [.long p13, .ref (am_ad X 12 0)]) mS_X12_spelled ln_X12_189 rfl (Nat.le_of_ble_eq_true rfl) (Nat.le_of_ble_eq_true rfl) (k_X12_spelled hX 108 111 111 112 0 σ hp13) dX12_stepWord_93 rfl rfl ?_
  obtain ⟨p14, hp14, hf⟩ := am_bd hf
  refine g_cV (pc := 96) (As := [.long p13]) (st := []) (st1 := [.int (am_b p14)]) (in_12 hX (by omega)) kk_12 mV_X12_isWord ln_X12_193 rfl (Nat.le_of_ble_eq_true rfl) (Nat.le_of_ble_eq_true rfl) (k_X12_isWord hX p13 σ hp14) dX12_stepWord_96 rfl rfl ?_
  refine bt_eq (pc := 99) 104 dX12_stepWord_99 rfl (fun c15 => ?_) (fun c15 => ?_)
  · replace hf := am_ifT c15 hf
    refine g_iconst (pc := 102) (v := 4) dX12_stepWord_102 (by decide) ?_
    have ho := Option.some.inj hf
    subst ho
    exact g_ireturn (pc := 103) (st := []) rfl dX12_stepWord_103 hk
  replace hf := am_ifF c15 hf
  refine g_aload_n (pc := 104) 0 rfl dX12_stepWord_104 rfl ?_
  refine g_bipush (pc := 105) (v := 119) dX12_stepWord_105 (by decide) ?_
  refine g_bipush (pc := 107) (v := 104) dX12_stepWord_107 (by decide) ?_
  refine g_bipush (pc := 109) (v := 101) dX12_stepWord_109 (by decide) ?_
  refine g_bipush (pc := 111) (v := 110) dX12_stepWord_111 (by decide) ?_
  refine g_iconst (pc := 113) (v := 0) dX12_stepWord_113 (by decide) ?_
  obtain ⟨p16, hp16, hf⟩ := am_bd hf
  refine g_cS (pc := 114) (As := [.int 119, .int 104, .int 101, .int 110, .int 0]) (st := [.ref (am_ad X 12 0)]) (st1 := [.long p16, .ref (am_ad X 12 0)]) mS_X12_spelled ln_X12_189 rfl (Nat.le_of_ble_eq_true rfl) (Nat.le_of_ble_eq_true rfl) (k_X12_spelled hX 119 104 101 110 0 σ hp16) dX12_stepWord_114 rfl rfl ?_
  obtain ⟨p17, hp17, hf⟩ := am_bd hf
  refine g_cV (pc := 117) (As := [.long p16]) (st := []) (st1 := [.int (am_b p17)]) (in_12 hX (by omega)) kk_12 mV_X12_isWord ln_X12_193 rfl (Nat.le_of_ble_eq_true rfl) (Nat.le_of_ble_eq_true rfl) (k_X12_isWord hX p16 σ hp17) dX12_stepWord_117 rfl rfl ?_
  refine bt_eq (pc := 120) 127 dX12_stepWord_120 rfl (fun c18 => ?_) (fun c18 => ?_)
  · replace hf := am_ifT c18 hf
    refine g_iconst (pc := 123) (v := 5) dX12_stepWord_123 (by decide) ?_
    refine g_goto (pc := 124) 128 dX12_stepWord_124 rfl ?_
    have ho := Option.some.inj hf
    subst ho
    exact g_ireturn (pc := 128) (st := []) rfl dX12_stepWord_128 hk
  replace hf := am_ifF c18 hf
  refine g_iconst (pc := 127) (v := (-1)) dX12_stepWord_127 (by decide) ?_
  have ho := Option.some.inj hf
  subst ho
  exact g_ireturn (pc := 128) (st := []) rfl dX12_stepWord_128 hk
theorem k_X12_stepWord {X : am_X} (hX : am_ks X = am_ksM) (σ : am_H) {o : Int32} (hf : f_X12_stepWord σ = some o) : am_C X gm_X12_stepWord [.ref (am_ad X 12 0)] σ (am_is (some (.int o)) σ) :=
  am_ofG rfl (Nat.le_of_ble_eq_true rfl) rfl (q_X12_stepWord hX σ hf ⟨rfl, rfl⟩)
theorem dX12_isEnd_0 : decode cX12_isEnd 0 = .ok (.aload_n 0, 1) := by decide +kernel
theorem dX12_isEnd_1 : decode cX12_isEnd 1 = .ok (.bipush 101, 2) := by decide +kernel
theorem dX12_isEnd_3 : decode cX12_isEnd 3 = .ok (.bipush 110, 2) := by decide +kernel
theorem dX12_isEnd_5 : decode cX12_isEnd 5 = .ok (.bipush 100, 2) := by decide +kernel
theorem dX12_isEnd_7 : decode cX12_isEnd 7 = .ok (.iconst 0, 1) := by decide +kernel
theorem dX12_isEnd_8 : decode cX12_isEnd 8 = .ok (.iconst 0, 1) := by decide +kernel
theorem dX12_isEnd_9 : decode cX12_isEnd 9 = .ok (.invokestatic 189, 3) := by decide +kernel
theorem dX12_isEnd_12 : decode cX12_isEnd 12 = .ok (.invokevirtual 193, 3) := by decide +kernel
theorem dX12_isEnd_15 : decode cX12_isEnd 15 = .ok (.ireturn, 1) := by decide +kernel
noncomputable def f_X12_isEnd (σ : am_H) : Option (Bool) :=
  (f_X12_spelled 101 110 100 0 0 σ).bind fun p1 =>
  (f_X12_isWord p1 σ).bind fun p2 =>
  some p2
set_option maxRecDepth 100000 in
set_option maxHeartbeats 4000000 in
theorem q_X12_isEnd {X : am_X} (hX : am_ks X = am_ksM) {Q : Option Value → am_H → Prop} (σ : am_H) {o : Bool} (hf : f_X12_isEnd σ = some o) (hk : Q (some (.int (am_b o))) σ) : am_G X gm_X12_isEnd Q 0 [(0, .ref (am_ad X 12 0))] [] σ := by
  unfold f_X12_isEnd at hf
  refine g_aload_n (pc := 0) 0 rfl dX12_isEnd_0 rfl ?_
  refine g_bipush (pc := 1) (v := 101) dX12_isEnd_1 (by decide) ?_
  refine g_bipush (pc := 3) (v := 110) dX12_isEnd_3 (by decide) ?_
  refine g_bipush (pc := 5) (v := 100) dX12_isEnd_5 (by decide) ?_
  refine g_iconst (pc := 7) (v := 0) dX12_isEnd_7 (by decide) ?_
  refine g_iconst (pc := 8) (v := 0) dX12_isEnd_8 (by decide) ?_
  obtain ⟨p1, hp1, hf⟩ := am_bd hf
  refine g_cS (pc := 9) (As := [.int 101, .int 110, .int 100, .int 0, .int 0]) (st := [.ref (am_ad X 12 0)]) (st1 := [.long p1, .ref (am_ad X 12 0)]) mS_X12_spelled ln_X12_189 rfl (Nat.le_of_ble_eq_true rfl) (Nat.le_of_ble_eq_true rfl) (k_X12_spelled hX 101 110 100 0 0 σ hp1) dX12_isEnd_9 rfl rfl ?_
  obtain ⟨p2, hp2, hf⟩ := am_bd hf
  refine g_cV (pc := 12) (As := [.long p1]) (st := []) (st1 := [.int (am_b p2)]) (in_12 hX (by omega)) kk_12 mV_X12_isWord ln_X12_193 rfl (Nat.le_of_ble_eq_true rfl) (Nat.le_of_ble_eq_true rfl) (k_X12_isWord hX p1 σ hp2) dX12_isEnd_12 rfl rfl ?_
  have ho := Option.some.inj hf
  subst ho
  exact g_zreturn (pc := 15) (st := []) (x := p2) rfl dX12_isEnd_15 hk
theorem k_X12_isEnd {X : am_X} (hX : am_ks X = am_ksM) (σ : am_H) {o : Bool} (hf : f_X12_isEnd σ = some o) : am_C X gm_X12_isEnd [.ref (am_ad X 12 0)] σ (am_is (some (.int (am_b o))) σ) :=
  am_ofG rfl (Nat.le_of_ble_eq_true rfl) rfl (q_X12_isEnd hX σ hf ⟨rfl, rfl⟩)
theorem dX12_whatWord_0 : decode cX12_whatWord 0 = .ok (.aload_n 0, 1) := by decide +kernel
theorem dX12_whatWord_1 : decode cX12_whatWord 1 = .ok (.bipush 104, 2) := by decide +kernel
theorem dX12_whatWord_3 : decode cX12_whatWord 3 = .ok (.bipush 105, 2) := by decide +kernel
theorem dX12_whatWord_5 : decode cX12_whatWord 5 = .ok (.bipush 103, 2) := by decide +kernel
theorem dX12_whatWord_7 : decode cX12_whatWord 7 = .ok (.bipush 104, 2) := by decide +kernel
theorem dX12_whatWord_9 : decode cX12_whatWord 9 = .ok (.iconst 0, 1) := by decide +kernel
theorem dX12_whatWord_10 : decode cX12_whatWord 10 = .ok (.invokestatic 189, 3) := by decide +kernel
theorem dX12_whatWord_13 : decode cX12_whatWord 13 = .ok (.invokevirtual 193, 3) := by decide +kernel
theorem dX12_whatWord_16 : decode cX12_whatWord 16 = .ok (.ifCond .eq 5, 3) := by decide +kernel
theorem dX12_whatWord_19 : decode cX12_whatWord 19 = .ok (.iconst 0, 1) := by decide +kernel
theorem dX12_whatWord_20 : decode cX12_whatWord 20 = .ok (.ireturn, 1) := by decide +kernel
theorem dX12_whatWord_21 : decode cX12_whatWord 21 = .ok (.aload_n 0, 1) := by decide +kernel
theorem dX12_whatWord_22 : decode cX12_whatWord 22 = .ok (.bipush 108, 2) := by decide +kernel
theorem dX12_whatWord_24 : decode cX12_whatWord 24 = .ok (.bipush 111, 2) := by decide +kernel
theorem dX12_whatWord_26 : decode cX12_whatWord 26 = .ok (.bipush 119, 2) := by decide +kernel
theorem dX12_whatWord_28 : decode cX12_whatWord 28 = .ok (.iconst 0, 1) := by decide +kernel
theorem dX12_whatWord_29 : decode cX12_whatWord 29 = .ok (.iconst 0, 1) := by decide +kernel
theorem dX12_whatWord_30 : decode cX12_whatWord 30 = .ok (.invokestatic 189, 3) := by decide +kernel
theorem dX12_whatWord_33 : decode cX12_whatWord 33 = .ok (.invokevirtual 193, 3) := by decide +kernel
theorem dX12_whatWord_36 : decode cX12_whatWord 36 = .ok (.ifCond .eq 5, 3) := by decide +kernel
theorem dX12_whatWord_39 : decode cX12_whatWord 39 = .ok (.iconst 1, 1) := by decide +kernel
theorem dX12_whatWord_40 : decode cX12_whatWord 40 = .ok (.ireturn, 1) := by decide +kernel
theorem dX12_whatWord_41 : decode cX12_whatWord 41 = .ok (.aload_n 0, 1) := by decide +kernel
theorem dX12_whatWord_42 : decode cX12_whatWord 42 = .ok (.bipush 97, 2) := by decide +kernel
theorem dX12_whatWord_44 : decode cX12_whatWord 44 = .ok (.bipush 98, 2) := by decide +kernel
theorem dX12_whatWord_46 : decode cX12_whatWord 46 = .ok (.bipush 111, 2) := by decide +kernel
theorem dX12_whatWord_48 : decode cX12_whatWord 48 = .ok (.bipush 118, 2) := by decide +kernel
theorem dX12_whatWord_50 : decode cX12_whatWord 50 = .ok (.bipush 101, 2) := by decide +kernel
theorem dX12_whatWord_52 : decode cX12_whatWord 52 = .ok (.invokestatic 189, 3) := by decide +kernel
theorem dX12_whatWord_55 : decode cX12_whatWord 55 = .ok (.invokevirtual 193, 3) := by decide +kernel
theorem dX12_whatWord_58 : decode cX12_whatWord 58 = .ok (.ifCond .eq 5, 3) := by decide +kernel
theorem dX12_whatWord_61 : decode cX12_whatWord 61 = .ok (.iconst 2, 1) := by decide +kernel
theorem dX12_whatWord_62 : decode cX12_whatWord 62 = .ok (.ireturn, 1) := by decide +kernel
theorem dX12_whatWord_63 : decode cX12_whatWord 63 = .ok (.aload_n 0, 1) := by decide +kernel
theorem dX12_whatWord_64 : decode cX12_whatWord 64 = .ok (.bipush 98, 2) := by decide +kernel
theorem dX12_whatWord_66 : decode cX12_whatWord 66 = .ok (.bipush 101, 2) := by decide +kernel
theorem dX12_whatWord_68 : decode cX12_whatWord 68 = .ok (.bipush 108, 2) := by decide +kernel
theorem dX12_whatWord_70 : decode cX12_whatWord 70 = .ok (.bipush 111, 2) := by decide +kernel
theorem dX12_whatWord_72 : decode cX12_whatWord 72 = .ok (.bipush 119, 2) := by decide +kernel
theorem dX12_whatWord_74 : decode cX12_whatWord 74 = .ok (.invokestatic 189, 3) := by decide +kernel
theorem dX12_whatWord_77 : decode cX12_whatWord 77 = .ok (.invokevirtual 193, 3) := by decide +kernel
theorem dX12_whatWord_80 : decode cX12_whatWord 80 = .ok (.ifCond .eq 7, 3) := by decide +kernel
theorem dX12_whatWord_83 : decode cX12_whatWord 83 = .ok (.iconst 3, 1) := by decide +kernel
theorem dX12_whatWord_84 : decode cX12_whatWord 84 = .ok (.goto 4, 3) := by decide +kernel
theorem dX12_whatWord_87 : decode cX12_whatWord 87 = .ok (.iconst (-1), 1) := by decide +kernel
theorem dX12_whatWord_88 : decode cX12_whatWord 88 = .ok (.ireturn, 1) := by decide +kernel
noncomputable def f_X12_whatWord (σ : am_H) : Option (Int32) :=
  (f_X12_spelled 104 105 103 104 0 σ).bind fun p1 =>
  (f_X12_isWord p1 σ).bind fun p2 =>
  if p2 = true then
   (some 0)
  else
  (f_X12_spelled 108 111 119 0 0 σ).bind fun p4 =>
  (f_X12_isWord p4 σ).bind fun p5 =>
  if p5 = true then
   (some 1)
  else
  (f_X12_spelled 97 98 111 118 101 σ).bind fun p7 =>
  (f_X12_isWord p7 σ).bind fun p8 =>
  if p8 = true then
   (some 2)
  else
  (f_X12_spelled 98 101 108 111 119 σ).bind fun p10 =>
  (f_X12_isWord p10 σ).bind fun p11 =>
  if p11 = true then
   (some 3)
  else
  some (-1)
set_option maxRecDepth 100000 in
set_option maxHeartbeats 4000000 in
theorem q_X12_whatWord {X : am_X} (hX : am_ks X = am_ksM) {Q : Option Value → am_H → Prop} (σ : am_H) {o : Int32} (hf : f_X12_whatWord σ = some o) (hk : Q (some (.int o)) σ) : am_G X gm_X12_whatWord Q 0 [(0, .ref (am_ad X 12 0))] [] σ := by
  unfold f_X12_whatWord at hf
  refine g_aload_n (pc := 0) 0 rfl dX12_whatWord_0 rfl ?_
  refine g_bipush (pc := 1) (v := 104) dX12_whatWord_1 (by decide) ?_
  refine g_bipush (pc := 3) (v := 105) dX12_whatWord_3 (by decide) ?_
  refine g_bipush (pc := 5) (v := 103) dX12_whatWord_5 (by decide) ?_
  refine g_bipush (pc := 7) (v := 104) dX12_whatWord_7 (by decide) ?_
  refine g_iconst (pc := 9) (v := 0) dX12_whatWord_9 (by decide) ?_
  obtain ⟨p1, hp1, hf⟩ := am_bd hf
  refine g_cS (pc := 10) (As := [.int 104, .int 105, .int 103, .int 104, .int 0]) (st := [.ref (am_ad X 12 0)]) (st1 := [.long p1, .ref (am_ad X 12 0)]) mS_X12_spelled ln_X12_189 rfl (Nat.le_of_ble_eq_true rfl) (Nat.le_of_ble_eq_true rfl) (k_X12_spelled hX 104 105 103 104 0 σ hp1) dX12_whatWord_10 rfl rfl ?_
  obtain ⟨p2, hp2, hf⟩ := am_bd hf
  refine g_cV (pc := 13) (As := [.long p1]) (st := []) (st1 := [.int (am_b p2)]) (in_12 hX (by omega)) kk_12 mV_X12_isWord ln_X12_193 rfl (Nat.le_of_ble_eq_true rfl) (Nat.le_of_ble_eq_true rfl) (k_X12_isWord hX p1 σ hp2) dX12_whatWord_13 rfl rfl ?_
  refine bt_eq (pc := 16) 21 dX12_whatWord_16 rfl (fun c3 => ?_) (fun c3 => ?_)
  · replace hf := am_ifT c3 hf
    refine g_iconst (pc := 19) (v := 0) dX12_whatWord_19 (by decide) ?_
    have ho := Option.some.inj hf
    subst ho
    exact g_ireturn (pc := 20) (st := []) rfl dX12_whatWord_20 hk
  replace hf := am_ifF c3 hf
  refine g_aload_n (pc := 21) 0 rfl dX12_whatWord_21 rfl ?_
  refine g_bipush (pc := 22) (v := 108) dX12_whatWord_22 (by decide) ?_
  refine g_bipush (pc := 24) (v := 111) dX12_whatWord_24 (by decide) ?_
  refine g_bipush (pc := 26) (v := 119) dX12_whatWord_26 (by decide) ?_
  refine g_iconst (pc := 28) (v := 0) dX12_whatWord_28 (by decide) ?_
  refine g_iconst (pc := 29) (v := 0) dX12_whatWord_29 (by decide) ?_
  obtain ⟨p4, hp4, hf⟩ := am_bd hf
  refine g_cS (pc := 30) (As := [.int 108, .int 111, .int 119, .int 0, .int 0]) (st := [.ref (am_ad X 12 0)]) (st1 := [.long p4, .ref (am_ad X 12 0)]) mS_X12_spelled ln_X12_189 rfl (Nat.le_of_ble_eq_true rfl) (Nat.le_of_ble_eq_true rfl) (k_X12_spelled hX 108 111 119 0 0 σ hp4) dX12_whatWord_30 rfl rfl ?_
  obtain ⟨p5, hp5, hf⟩ := am_bd hf
  refine g_cV (pc := 33) (As := [.long p4]) (st := []) (st1 := [.int (am_b p5)]) (in_12 hX (by omega)) kk_12 mV_X12_isWord ln_X12_193 rfl (Nat.le_of_ble_eq_true rfl) (Nat.le_of_ble_eq_true rfl) (k_X12_isWord hX p4 σ hp5) dX12_whatWord_33 rfl rfl ?_
  refine bt_eq (pc := 36) 41 dX12_whatWord_36 rfl (fun c6 => ?_) (fun c6 => ?_)
  · replace hf := am_ifT c6 hf
    refine g_iconst (pc := 39) (v := 1) dX12_whatWord_39 (by decide) ?_
    have ho := Option.some.inj hf
    subst ho
    exact g_ireturn (pc := 40) (st := []) rfl dX12_whatWord_40 hk
  replace hf := am_ifF c6 hf
  refine g_aload_n (pc := 41) 0 rfl dX12_whatWord_41 rfl ?_
  refine g_bipush (pc := 42) (v := 97) dX12_whatWord_42 (by decide) ?_
  refine g_bipush (pc := 44) (v := 98) dX12_whatWord_44 (by decide) ?_
  refine g_bipush (pc := 46) (v := 111) dX12_whatWord_46 (by decide) ?_
  refine g_bipush (pc := 48) (v := 118) dX12_whatWord_48 (by decide) ?_
  refine g_bipush (pc := 50) (v := 101) dX12_whatWord_50 (by decide) ?_
  obtain ⟨p7, hp7, hf⟩ := am_bd hf
  refine g_cS (pc := 52) (As := [.int 97, .int 98, .int 111, .int 118, .int 101]) (st := [.ref (am_ad X 12 0)]) (st1 := [.long p7, .ref (am_ad X 12 0)]) mS_X12_spelled ln_X12_189 rfl (Nat.le_of_ble_eq_true rfl) (Nat.le_of_ble_eq_true rfl) (k_X12_spelled hX 97 98 111 118 101 σ hp7) dX12_whatWord_52 rfl rfl ?_
  obtain ⟨p8, hp8, hf⟩ := am_bd hf
  refine g_cV (pc := 55) (As := [.long p7]) (st := []) (st1 := [.int (am_b p8)]) (in_12 hX (by omega)) kk_12 mV_X12_isWord ln_X12_193 rfl (Nat.le_of_ble_eq_true rfl) (Nat.le_of_ble_eq_true rfl) (k_X12_isWord hX p7 σ hp8) dX12_whatWord_55 rfl rfl ?_
  refine bt_eq (pc := 58) 63 dX12_whatWord_58 rfl (fun c9 => ?_) (fun c9 => ?_)
  · replace hf := am_ifT c9 hf
    refine g_iconst (pc := 61) (v := 2) dX12_whatWord_61 (by decide) ?_
    have ho := Option.some.inj hf
    subst ho
    exact g_ireturn (pc := 62) (st := []) rfl dX12_whatWord_62 hk
  replace hf := am_ifF c9 hf
  refine g_aload_n (pc := 63) 0 rfl dX12_whatWord_63 rfl ?_
  refine g_bipush (pc := 64) (v := 98) dX12_whatWord_64 (by decide) ?_
  refine g_bipush (pc := 66) (v := 101) dX12_whatWord_66 (by decide) ?_
  refine g_bipush (pc := 68) (v := 108) dX12_whatWord_68 (by decide) ?_
  refine g_bipush (pc := 70) (v := 111) dX12_whatWord_70 (by decide) ?_
  refine g_bipush (pc := 72) (v := 119) dX12_whatWord_72 (by decide) ?_
  obtain ⟨p10, hp10, hf⟩ := am_bd hf
  refine g_cS (pc := 74) (As := [.int 98, .int 101, .int 108, .int 111, .int 119]) (st := [.ref (am_ad X 12 0)]) (st1 := [.long p10, .ref (am_ad X 12 0)]) mS_X12_spelled ln_X12_189 rfl (Nat.le_of_ble_eq_true rfl) (Nat.le_of_ble_eq_true rfl) (k_X12_spelled hX 98 101 108 111 119 σ hp10) dX12_whatWord_74 rfl rfl ?_
  obtain ⟨p11, hp11, hf⟩ := am_bd hf
  refine g_cV (pc := 77) (As := [.long p10]) (st := []) (st1 := [.int (am_b p11)]) (in_12 hX (by omega)) kk_12 mV_X12_isWord ln_X12_193 rfl (Nat.le_of_ble_eq_true rfl) (Nat.le_of_ble_eq_true rfl) (k_X12_isWord hX p10 σ hp11) dX12_whatWord_77 rfl rfl ?_
  refine bt_eq (pc := 80) 87 dX12_whatWord_80 rfl (fun c12 => ?_) (fun c12 => ?_)
  · replace hf := am_ifT c12 hf
    refine g_iconst (pc := 83) (v := 3) dX12_whatWord_83 (by decide) ?_
    refine g_goto (pc := 84) 88 dX12_whatWord_84 rfl ?_
    have ho := Option.some.inj hf
    subst ho
    exact g_ireturn (pc := 88) (st := []) rfl dX12_whatWord_88 hk
  replace hf := am_ifF c12 hf
  refine g_iconst (pc := 87) (v := (-1)) dX12_whatWord_87 (by decide) ?_
  have ho := Option.some.inj hf
  subst ho
  exact g_ireturn (pc := 88) (st := []) rfl dX12_whatWord_88 hk
theorem k_X12_whatWord {X : am_X} (hX : am_ks X = am_ksM) (σ : am_H) {o : Int32} (hf : f_X12_whatWord σ = some o) : am_C X gm_X12_whatWord [.ref (am_ad X 12 0)] σ (am_is (some (.int o)) σ) :=
  am_ofG rfl (Nat.le_of_ble_eq_true rfl) rfl (q_X12_whatWord hX σ hf ⟨rfl, rfl⟩)
theorem dX12_readWhat_0 : decode cX12_readWhat 0 = .ok (.aload_n 0, 1) := by decide +kernel
theorem dX12_readWhat_1 : decode cX12_readWhat 1 = .ok (.invokevirtual 573, 3) := by decide +kernel
theorem dX12_readWhat_4 : decode cX12_readWhat 4 = .ok (.istore_n 3, 1) := by decide +kernel
theorem dX12_readWhat_5 : decode cX12_readWhat 5 = .ok (.aload_n 0, 1) := by decide +kernel
theorem dX12_readWhat_6 : decode cX12_readWhat 6 = .ok (.getfield 223, 3) := by decide +kernel
theorem dX12_readWhat_9 : decode cX12_readWhat 9 = .ok (.ifCond .ne 20, 3) := by decide +kernel
theorem dX12_readWhat_12 : decode cX12_readWhat 12 = .ok (.iload_n 3, 1) := by decide +kernel
theorem dX12_readWhat_13 : decode cX12_readWhat 13 = .ok (.ifCond .lt 12, 3) := by decide +kernel
theorem dX12_readWhat_16 : decode cX12_readWhat 16 = .ok (.iload_n 2, 1) := by decide +kernel
theorem dX12_readWhat_17 : decode cX12_readWhat 17 = .ok (.ifCond .eq 12, 3) := by decide +kernel
theorem dX12_readWhat_20 : decode cX12_readWhat 20 = .ok (.iload_n 3, 1) := by decide +kernel
theorem dX12_readWhat_21 : decode cX12_readWhat 21 = .ok (.iconst 2, 1) := by decide +kernel
theorem dX12_readWhat_22 : decode cX12_readWhat 22 = .ok (.if_icmp .ge 7, 3) := by decide +kernel
theorem dX12_readWhat_25 : decode cX12_readWhat 25 = .ok (.aload_n 0, 1) := by decide +kernel
theorem dX12_readWhat_26 : decode cX12_readWhat 26 = .ok (.invokevirtual 236, 3) := by decide +kernel
theorem dX12_readWhat_29 : decode cX12_readWhat 29 = .ok (.aload_n 0, 1) := by decide +kernel
theorem dX12_readWhat_30 : decode cX12_readWhat 30 = .ok (.getfield 223, 3) := by decide +kernel
theorem dX12_readWhat_33 : decode cX12_readWhat 33 = .ok (.ifCond .le 4, 3) := by decide +kernel
theorem dX12_readWhat_36 : decode cX12_readWhat 36 = .ok (.return_, 1) := by decide +kernel
theorem dX12_readWhat_37 : decode cX12_readWhat 37 = .ok (.aload_n 0, 1) := by decide +kernel
theorem dX12_readWhat_38 : decode cX12_readWhat 38 = .ok (.getfield 92, 3) := by decide +kernel
theorem dX12_readWhat_41 : decode cX12_readWhat 41 = .ok (.iload_n 1, 1) := by decide +kernel
theorem dX12_readWhat_42 : decode cX12_readWhat 42 = .ok (.iload_n 3, 1) := by decide +kernel
theorem dX12_readWhat_43 : decode cX12_readWhat 43 = .ok (.iastore, 1) := by decide +kernel
theorem dX12_readWhat_44 : decode cX12_readWhat 44 = .ok (.aload_n 0, 1) := by decide +kernel
theorem dX12_readWhat_45 : decode cX12_readWhat 45 = .ok (.invokevirtual 233, 3) := by decide +kernel
theorem dX12_readWhat_48 : decode cX12_readWhat 48 = .ok (.iload_n 3, 1) := by decide +kernel
theorem dX12_readWhat_49 : decode cX12_readWhat 49 = .ok (.iconst 2, 1) := by decide +kernel
theorem dX12_readWhat_50 : decode cX12_readWhat 50 = .ok (.if_icmp .ge 4, 3) := by decide +kernel
theorem dX12_readWhat_53 : decode cX12_readWhat 53 = .ok (.return_, 1) := by decide +kernel
theorem dX12_readWhat_54 : decode cX12_readWhat 54 = .ok (.aload_n 0, 1) := by decide +kernel
theorem dX12_readWhat_55 : decode cX12_readWhat 55 = .ok (.bipush 108, 2) := by decide +kernel
theorem dX12_readWhat_57 : decode cX12_readWhat 57 = .ok (.bipush 101, 2) := by decide +kernel
theorem dX12_readWhat_59 : decode cX12_readWhat 59 = .ok (.bipush 115, 2) := by decide +kernel
theorem dX12_readWhat_61 : decode cX12_readWhat 61 = .ok (.bipush 115, 2) := by decide +kernel
theorem dX12_readWhat_63 : decode cX12_readWhat 63 = .ok (.iconst 0, 1) := by decide +kernel
theorem dX12_readWhat_64 : decode cX12_readWhat 64 = .ok (.invokestatic 189, 3) := by decide +kernel
theorem dX12_readWhat_67 : decode cX12_readWhat 67 = .ok (.invokevirtual 193, 3) := by decide +kernel
theorem dX12_readWhat_70 : decode cX12_readWhat 70 = .ok (.istore 4, 2) := by decide +kernel
theorem dX12_readWhat_72 : decode cX12_readWhat 72 = .ok (.iload 4, 2) := by decide +kernel
theorem dX12_readWhat_74 : decode cX12_readWhat 74 = .ok (.ifCond .eq 7, 3) := by decide +kernel
theorem dX12_readWhat_77 : decode cX12_readWhat 77 = .ok (.aload_n 0, 1) := by decide +kernel
theorem dX12_readWhat_78 : decode cX12_readWhat 78 = .ok (.invokevirtual 233, 3) := by decide +kernel
theorem dX12_readWhat_81 : decode cX12_readWhat 81 = .ok (.aload_n 0, 1) := by decide +kernel
theorem dX12_readWhat_82 : decode cX12_readWhat 82 = .ok (.iconst 0, 1) := by decide +kernel
theorem dX12_readWhat_83 : decode cX12_readWhat 83 = .ok (.sipush 9999, 3) := by decide +kernel
theorem dX12_readWhat_86 : decode cX12_readWhat 86 = .ok (.invokevirtual 260, 3) := by decide +kernel
theorem dX12_readWhat_89 : decode cX12_readWhat 89 = .ok (.istore 5, 2) := by decide +kernel
theorem dX12_readWhat_91 : decode cX12_readWhat 91 = .ok (.aload_n 0, 1) := by decide +kernel
theorem dX12_readWhat_92 : decode cX12_readWhat 92 = .ok (.getfield 95, 3) := by decide +kernel
theorem dX12_readWhat_95 : decode cX12_readWhat 95 = .ok (.iload_n 1, 1) := by decide +kernel
theorem dX12_readWhat_96 : decode cX12_readWhat 96 = .ok (.iload 4, 2) := by decide +kernel
theorem dX12_readWhat_98 : decode cX12_readWhat 98 = .ok (.ifCond .eq 9, 3) := by decide +kernel
theorem dX12_readWhat_101 : decode cX12_readWhat 101 = .ok (.iload 5, 2) := by decide +kernel
theorem dX12_readWhat_103 : decode cX12_readWhat 103 = .ok (.ineg, 1) := by decide +kernel
theorem dX12_readWhat_104 : decode cX12_readWhat 104 = .ok (.goto 5, 3) := by decide +kernel
theorem dX12_readWhat_107 : decode cX12_readWhat 107 = .ok (.iload 5, 2) := by decide +kernel
theorem dX12_readWhat_109 : decode cX12_readWhat 109 = .ok (.iastore, 1) := by decide +kernel
theorem dX12_readWhat_110 : decode cX12_readWhat 110 = .ok (.return_, 1) := by decide +kernel
noncomputable def f_X12_readWhat_109 (k1 : Int32) (k2 : Int32) (σ : am_H) : Option (am_H) :=
  (am_ix 40 k1).bind fun j1 =>
  (some (am_wI σ 1374 0 j1 k2)).bind fun s2 =>
  some s2
set_option maxRecDepth 100000 in
set_option maxHeartbeats 4000000 in
theorem q_X12_readWhat_109 {X : am_X} (hX : am_ks X = am_ksM) {Q : Option Value → am_H → Prop} (k1 : Int32) (k2 : Int32) (σ : am_H) {o : am_H} (hf : f_X12_readWhat_109 k1 k2 σ = some o) (hk : Q none o) : am_G X gm_X12_readWhat Q 109 [] [.int k2, .int k1, .ref (am_ad X 1374 0)] σ := by
  unfold f_X12_readWhat_109 at hf
  obtain ⟨j1, hj1, hf⟩ := am_bd hf
  have gj1 := am_ix_lt hj1
  obtain ⟨s2, hs2, hf⟩ := am_bd hf
  refine g_sI (pc := 109) (in_1374 hX (by omega)) ak_1374 hj1 dX12_readWhat_109 (Option.some.inj hs2) ?_
  have ho := Option.some.inj hf
  subst ho
  exact g_vreturn (pc := 110) (st := []) rfl dX12_readWhat_110 hk
noncomputable def f_X12_readWhat_81 (v1 : Int32) (v4 : Bool) (σ : am_H) : Option (am_H) :=
  (f_X12_count 0 9999 σ).bind fun p1 =>
  if v4 = true then
   (f_X12_readWhat_109 v1 (-p1.1) p1.2)
  else
  f_X12_readWhat_109 v1 p1.1 p1.2
set_option maxRecDepth 100000 in
set_option maxHeartbeats 4000000 in
theorem q_X12_readWhat_81 {X : am_X} (hX : am_ks X = am_ksM) {Q : Option Value → am_H → Prop} (v1 : Int32) (v4 : Bool) (σ : am_H) {o : am_H} (hf : f_X12_readWhat_81 v1 v4 σ = some o) (hk : Q none o) : am_G X gm_X12_readWhat Q 81 [(0, .ref (am_ad X 12 0)), (1, .int v1), (4, .int (am_b v4))] [] σ := by
  unfold f_X12_readWhat_81 at hf
  refine g_aload_n (pc := 81) 0 rfl dX12_readWhat_81 rfl ?_
  refine g_iconst (pc := 82) (v := 0) dX12_readWhat_82 (by decide) ?_
  refine g_sipush (pc := 83) (v := 9999) dX12_readWhat_83 (by decide) ?_
  obtain ⟨p1, hp1, hf⟩ := am_bd hf
  refine g_cV (pc := 86) (As := [.int 0, .int 9999]) (st := []) (st1 := [.int p1.1]) (in_12 hX (by omega)) kk_12 mV_X12_count ln_X12_260 rfl (Nat.le_of_ble_eq_true rfl) (Nat.le_of_ble_eq_true rfl) (k_X12_count hX 0 9999 σ hp1) dX12_readWhat_86 rfl rfl ?_
  refine g_istore (pc := 89) [(5, .int p1.1), (0, .ref (am_ad X 12 0)), (1, .int v1), (4, .int (am_b v4))] dX12_readWhat_89 (Nat.le_of_ble_eq_true rfl) rfl ?_
  refine g_aload_n (pc := 91) 1 rfl dX12_readWhat_91 rfl ?_
  refine g_getC (pc := 92) (e := 0) (in_12 hX (by omega)) fr_X12_95 dX12_readWhat_92 rfl ?_
  refine g_iload_n (pc := 95) 2 rfl dX12_readWhat_95 rfl ?_
  refine g_iload (pc := 96) 3 rfl dX12_readWhat_96 ?_
  refine bt_eq (pc := 98) 107 dX12_readWhat_98 rfl (fun c2 => ?_) (fun c2 => ?_)
  · replace hf := am_ifT c2 hf
    refine g_iload (pc := 101) 0 rfl dX12_readWhat_101 ?_
    refine g_ineg (pc := 103) dX12_readWhat_103 ?_
    refine g_goto (pc := 104) 109 dX12_readWhat_104 rfl ?_
    exact am_sub [] rfl (q_X12_readWhat_109 hX v1 (-p1.1) p1.2 hf hk)
  replace hf := am_ifF c2 hf
  refine g_iload (pc := 107) 0 rfl dX12_readWhat_107 ?_
  exact am_sub [] rfl (q_X12_readWhat_109 hX v1 p1.1 p1.2 hf hk)
noncomputable def f_X12_readWhat_29 (v1 : Int32) (v3 : Int32) (σ : am_H) : Option (am_H) :=
  if 0 < (σ.1 12 0 12) then
   (some σ)
  else
  (am_ix 40 v1).bind fun j2 =>
  (some (am_wI σ 1373 0 j2 v3)).bind fun s3 =>
  (f_X12_next s3).bind fun p4 =>
  if v3 < 2 then
   (some p4)
  else
  (f_X12_spelled 108 101 115 115 0 p4).bind fun p6 =>
  (f_X12_isWord p6 p4).bind fun p7 =>
  if p7 = true then
   ((f_X12_next p4).bind fun p9 =>
   f_X12_readWhat_81 v1 p7 p9)
  else
  f_X12_readWhat_81 v1 p7 p4
set_option maxRecDepth 100000 in
set_option maxHeartbeats 4000000 in
theorem q_X12_readWhat_29 {X : am_X} (hX : am_ks X = am_ksM) {Q : Option Value → am_H → Prop} (v1 : Int32) (v3 : Int32) (σ : am_H) {o : am_H} (hf : f_X12_readWhat_29 v1 v3 σ = some o) (hk : Q none o) : am_G X gm_X12_readWhat Q 29 [(0, .ref (am_ad X 12 0)), (1, .int v1), (3, .int v3)] [] σ := by
  unfold f_X12_readWhat_29 at hf
  refine g_aload_n (pc := 29) 0 rfl dX12_readWhat_29 rfl ?_
  refine g_getI (pc := 30) (in_12 hX (by omega)) fr_X12_223 dX12_readWhat_30 ?_
  refine bz_le (pc := 33) 37 dX12_readWhat_33 rfl (fun c1 => ?_) (fun c1 => ?_)
  · replace hf := am_ifT c1 hf
    have ho := Option.some.inj hf
    subst ho
    exact g_vreturn (pc := 36) (st := []) rfl dX12_readWhat_36 hk
  replace hf := am_ifF c1 hf
  refine g_aload_n (pc := 37) 0 rfl dX12_readWhat_37 rfl ?_
  refine g_getC (pc := 38) (e := 0) (in_12 hX (by omega)) fr_X12_92 dX12_readWhat_38 rfl ?_
  refine g_iload_n (pc := 41) 1 rfl dX12_readWhat_41 rfl ?_
  refine g_iload_n (pc := 42) 2 rfl dX12_readWhat_42 rfl ?_
  obtain ⟨j2, hj2, hf⟩ := am_bd hf
  have gj2 := am_ix_lt hj2
  obtain ⟨s3, hs3, hf⟩ := am_bd hf
  refine g_sI (pc := 43) (in_1373 hX (by omega)) ak_1373 hj2 dX12_readWhat_43 (Option.some.inj hs3) ?_
  refine g_aload_n (pc := 44) 0 rfl dX12_readWhat_44 rfl ?_
  obtain ⟨p4, hp4, hf⟩ := am_bd hf
  refine g_cV (pc := 45) (As := []) (st := []) (st1 := []) (in_12 hX (by omega)) kk_12 mV_X12_next ln_X12_233 rfl (Nat.le_of_ble_eq_true rfl) (Nat.le_of_ble_eq_true rfl) (k_X12_next hX s3 hp4) dX12_readWhat_45 rfl rfl ?_
  refine g_iload_n (pc := 48) 2 rfl dX12_readWhat_48 rfl ?_
  refine g_iconst (pc := 49) (v := 2) dX12_readWhat_49 (by decide) ?_
  refine bi_ge (pc := 50) 54 dX12_readWhat_50 rfl (fun c5 => ?_) (fun c5 => ?_)
  · replace hf := am_ifT c5 hf
    have ho := Option.some.inj hf
    subst ho
    exact g_vreturn (pc := 53) (st := []) rfl dX12_readWhat_53 hk
  replace hf := am_ifF c5 hf
  refine g_aload_n (pc := 54) 0 rfl dX12_readWhat_54 rfl ?_
  refine g_bipush (pc := 55) (v := 108) dX12_readWhat_55 (by decide) ?_
  refine g_bipush (pc := 57) (v := 101) dX12_readWhat_57 (by decide) ?_
  refine g_bipush (pc := 59) (v := 115) dX12_readWhat_59 (by decide) ?_
  refine g_bipush (pc := 61) (v := 115) dX12_readWhat_61 (by decide) ?_
  refine g_iconst (pc := 63) (v := 0) dX12_readWhat_63 (by decide) ?_
  obtain ⟨p6, hp6, hf⟩ := am_bd hf
  refine g_cS (pc := 64) (As := [.int 108, .int 101, .int 115, .int 115, .int 0]) (st := [.ref (am_ad X 12 0)]) (st1 := [.long p6, .ref (am_ad X 12 0)]) mS_X12_spelled ln_X12_189 rfl (Nat.le_of_ble_eq_true rfl) (Nat.le_of_ble_eq_true rfl) (k_X12_spelled hX 108 101 115 115 0 p4 hp6) dX12_readWhat_64 rfl rfl ?_
  obtain ⟨p7, hp7, hf⟩ := am_bd hf
  refine g_cV (pc := 67) (As := [.long p6]) (st := []) (st1 := [.int (am_b p7)]) (in_12 hX (by omega)) kk_12 mV_X12_isWord ln_X12_193 rfl (Nat.le_of_ble_eq_true rfl) (Nat.le_of_ble_eq_true rfl) (k_X12_isWord hX p6 p4 hp7) dX12_readWhat_67 rfl rfl ?_
  refine g_istore (pc := 70) [(4, .int (am_b p7)), (0, .ref (am_ad X 12 0)), (1, .int v1), (3, .int v3)] dX12_readWhat_70 (Nat.le_of_ble_eq_true rfl) rfl ?_
  refine g_iload (pc := 72) 0 rfl dX12_readWhat_72 ?_
  refine bt_eq (pc := 74) 81 dX12_readWhat_74 rfl (fun c8 => ?_) (fun c8 => ?_)
  · replace hf := am_ifT c8 hf
    refine g_aload_n (pc := 77) 1 rfl dX12_readWhat_77 rfl ?_
    obtain ⟨p9, hp9, hf⟩ := am_bd hf
    refine g_cV (pc := 78) (As := []) (st := []) (st1 := []) (in_12 hX (by omega)) kk_12 mV_X12_next ln_X12_233 rfl (Nat.le_of_ble_eq_true rfl) (Nat.le_of_ble_eq_true rfl) (k_X12_next hX p4 hp9) dX12_readWhat_78 rfl rfl ?_
    exact am_sub [1, 2, 0] rfl (q_X12_readWhat_81 hX v1 p7 p9 hf hk)
  replace hf := am_ifF c8 hf
  exact am_sub [1, 2, 0] rfl (q_X12_readWhat_81 hX v1 p7 p4 hf hk)
noncomputable def f_X12_readWhat_25 (v1 : Int32) (v3 : Int32) (σ : am_H) : Option (am_H) :=
  (f_X12_wrong σ).bind fun p1 =>
  f_X12_readWhat_29 v1 v3 p1
set_option maxRecDepth 100000 in
set_option maxHeartbeats 4000000 in
theorem q_X12_readWhat_25 {X : am_X} (hX : am_ks X = am_ksM) {Q : Option Value → am_H → Prop} (v1 : Int32) (v3 : Int32) (σ : am_H) {o : am_H} (hf : f_X12_readWhat_25 v1 v3 σ = some o) (hk : Q none o) : am_G X gm_X12_readWhat Q 25 [(0, .ref (am_ad X 12 0)), (1, .int v1), (3, .int v3)] [] σ := by
  unfold f_X12_readWhat_25 at hf
  refine g_aload_n (pc := 25) 0 rfl dX12_readWhat_25 rfl ?_
  obtain ⟨p1, hp1, hf⟩ := am_bd hf
  refine g_cV (pc := 26) (As := []) (st := []) (st1 := []) (in_12 hX (by omega)) kk_12 mV_X12_wrong ln_X12_236 rfl (Nat.le_of_ble_eq_true rfl) (Nat.le_of_ble_eq_true rfl) (k_X12_wrong hX σ hp1) dX12_readWhat_26 rfl rfl ?_
  exact q_X12_readWhat_29 hX v1 v3 p1 hf hk
noncomputable def f_X12_readWhat (v1 : Int32) (v2 : Bool) (σ : am_H) : Option (am_H) :=
  (f_X12_whatWord σ).bind fun p1 =>
  if (σ.1 12 0 12) = 0 then
   (if p1 < 0 then
    (f_X12_readWhat_25 v1 p1 σ)
   else
   if v2 = true then
    (if p1 < 2 then
     (f_X12_readWhat_25 v1 p1 σ)
    else
    f_X12_readWhat_29 v1 p1 σ)
   else
   f_X12_readWhat_29 v1 p1 σ)
  else
  f_X12_readWhat_29 v1 p1 σ
set_option maxRecDepth 100000 in
set_option maxHeartbeats 4000000 in
theorem q_X12_readWhat {X : am_X} (hX : am_ks X = am_ksM) {Q : Option Value → am_H → Prop} (v1 : Int32) (v2 : Bool) (σ : am_H) {o : am_H} (hf : f_X12_readWhat v1 v2 σ = some o) (hk : Q none o) : am_G X gm_X12_readWhat Q 0 [(0, .ref (am_ad X 12 0)), (1, .int v1), (2, .int (am_b v2))] [] σ := by
  unfold f_X12_readWhat at hf
  refine g_aload_n (pc := 0) 0 rfl dX12_readWhat_0 rfl ?_
  obtain ⟨p1, hp1, hf⟩ := am_bd hf
  refine g_cV (pc := 1) (As := []) (st := []) (st1 := [.int p1]) (in_12 hX (by omega)) kk_12 mV_X12_whatWord ln_X12_573 rfl (Nat.le_of_ble_eq_true rfl) (Nat.le_of_ble_eq_true rfl) (k_X12_whatWord hX σ hp1) dX12_readWhat_1 rfl rfl ?_
  refine g_istore_n (pc := 4) [(3, .int p1), (0, .ref (am_ad X 12 0)), (1, .int v1), (2, .int (am_b v2))] dX12_readWhat_4 rfl (Nat.le_of_ble_eq_true rfl) rfl ?_
  refine g_aload_n (pc := 5) 1 rfl dX12_readWhat_5 rfl ?_
  refine g_getI (pc := 6) (in_12 hX (by omega)) fr_X12_223 dX12_readWhat_6 ?_
  refine bz_ne (pc := 9) 29 dX12_readWhat_9 rfl (fun c2 => ?_) (fun c2 => ?_)
  · replace hf := am_ifT c2 hf
    refine g_iload_n (pc := 12) 0 rfl dX12_readWhat_12 rfl ?_
    refine bz_lt (pc := 13) 25 dX12_readWhat_13 rfl (fun c3 => ?_) (fun c3 => ?_)
    · replace hf := am_ifT c3 hf
      exact am_sub [1, 2, 0] rfl (q_X12_readWhat_25 hX v1 p1 σ hf hk)
    replace hf := am_ifF c3 hf
    refine g_iload_n (pc := 16) 3 rfl dX12_readWhat_16 rfl ?_
    refine bt_eq (pc := 17) 29 dX12_readWhat_17 rfl (fun c4 => ?_) (fun c4 => ?_)
    · replace hf := am_ifT c4 hf
      refine g_iload_n (pc := 20) 0 rfl dX12_readWhat_20 rfl ?_
      refine g_iconst (pc := 21) (v := 2) dX12_readWhat_21 (by decide) ?_
      refine bi_ge (pc := 22) 29 dX12_readWhat_22 rfl (fun c5 => ?_) (fun c5 => ?_)
      · replace hf := am_ifT c5 hf
        exact am_sub [1, 2, 0] rfl (q_X12_readWhat_25 hX v1 p1 σ hf hk)
      replace hf := am_ifF c5 hf
      exact am_sub [1, 2, 0] rfl (q_X12_readWhat_29 hX v1 p1 σ hf hk)
    replace hf := am_ifF c4 hf
    exact am_sub [1, 2, 0] rfl (q_X12_readWhat_29 hX v1 p1 σ hf hk)
  replace hf := am_ifF c2 hf
  exact am_sub [1, 2, 0] rfl (q_X12_readWhat_29 hX v1 p1 σ hf hk)
theorem k_X12_readWhat {X : am_X} (hX : am_ks X = am_ksM) (v1 : Int32) (v2 : Bool) (σ : am_H) {o : am_H} (hf : f_X12_readWhat v1 v2 σ = some o) : am_C X gm_X12_readWhat [.ref (am_ad X 12 0), .int v1, .int (am_b v2)] σ (am_is none o) :=
  am_ofG rfl (Nat.le_of_ble_eq_true rfl) rfl (q_X12_readWhat hX v1 v2 σ hf ⟨rfl, rfl⟩)
theorem dX12_readStep_0 : decode cX12_readStep 0 = .ok (.aload_n 0, 1) := by decide +kernel
theorem dX12_readStep_1 : decode cX12_readStep 1 = .ok (.invokevirtual 576, 3) := by decide +kernel
theorem dX12_readStep_4 : decode cX12_readStep 4 = .ok (.istore_n 2, 1) := by decide +kernel
theorem dX12_readStep_5 : decode cX12_readStep 5 = .ok (.iload_n 2, 1) := by decide +kernel
theorem dX12_readStep_6 : decode cX12_readStep 6 = .ok (.ifCond .ge 7, 3) := by decide +kernel
theorem dX12_readStep_9 : decode cX12_readStep 9 = .ok (.aload_n 0, 1) := by decide +kernel
theorem dX12_readStep_10 : decode cX12_readStep 10 = .ok (.invokevirtual 236, 3) := by decide +kernel
theorem dX12_readStep_13 : decode cX12_readStep 13 = .ok (.iload_n 2, 1) := by decide +kernel
theorem dX12_readStep_14 : decode cX12_readStep 14 = .ok (.iconst 4, 1) := by decide +kernel
theorem dX12_readStep_15 : decode cX12_readStep 15 = .ok (.if_icmp .eq 8, 3) := by decide +kernel
theorem dX12_readStep_18 : decode cX12_readStep 18 = .ok (.iload_n 2, 1) := by decide +kernel
theorem dX12_readStep_19 : decode cX12_readStep 19 = .ok (.iconst 5, 1) := by decide +kernel
theorem dX12_readStep_20 : decode cX12_readStep 20 = .ok (.if_icmp .ne 7, 3) := by decide +kernel
theorem dX12_readStep_23 : decode cX12_readStep 23 = .ok (.iconst 1, 1) := by decide +kernel
theorem dX12_readStep_24 : decode cX12_readStep 24 = .ok (.goto 4, 3) := by decide +kernel
theorem dX12_readStep_27 : decode cX12_readStep 27 = .ok (.iconst 0, 1) := by decide +kernel
theorem dX12_readStep_28 : decode cX12_readStep 28 = .ok (.istore_n 3, 1) := by decide +kernel
theorem dX12_readStep_29 : decode cX12_readStep 29 = .ok (.aload_n 0, 1) := by decide +kernel
theorem dX12_readStep_30 : decode cX12_readStep 30 = .ok (.getfield 223, 3) := by decide +kernel
theorem dX12_readStep_33 : decode cX12_readStep 33 = .ok (.ifCond .ne 21, 3) := by decide +kernel
theorem dX12_readStep_36 : decode cX12_readStep 36 = .ok (.iload_n 3, 1) := by decide +kernel
theorem dX12_readStep_37 : decode cX12_readStep 37 = .ok (.ifCond .eq 17, 3) := by decide +kernel
theorem dX12_readStep_40 : decode cX12_readStep 40 = .ok (.iload_n 1, 1) := by decide +kernel
theorem dX12_readStep_41 : decode cX12_readStep 41 = .ok (.iconst 3, 1) := by decide +kernel
theorem dX12_readStep_42 : decode cX12_readStep 42 = .ok (.if_icmp .ne 12, 3) := by decide +kernel
theorem dX12_readStep_45 : decode cX12_readStep 45 = .ok (.aload_n 0, 1) := by decide +kernel
theorem dX12_readStep_46 : decode cX12_readStep 46 = .ok (.iconst 5, 1) := by decide +kernel
theorem dX12_readStep_47 : decode cX12_readStep 47 = .ok (.aload_n 0, 1) := by decide +kernel
theorem dX12_readStep_48 : decode cX12_readStep 48 = .ok (.getfield 161, 3) := by decide +kernel
theorem dX12_readStep_51 : decode cX12_readStep 51 = .ok (.invokevirtual 229, 3) := by decide +kernel
theorem dX12_readStep_54 : decode cX12_readStep 54 = .ok (.aload_n 0, 1) := by decide +kernel
theorem dX12_readStep_55 : decode cX12_readStep 55 = .ok (.getfield 223, 3) := by decide +kernel
theorem dX12_readStep_58 : decode cX12_readStep 58 = .ok (.ifCond .ne 22, 3) := by decide +kernel
theorem dX12_readStep_61 : decode cX12_readStep 61 = .ok (.aload_n 0, 1) := by decide +kernel
theorem dX12_readStep_62 : decode cX12_readStep 62 = .ok (.getfield 579, 3) := by decide +kernel
theorem dX12_readStep_65 : decode cX12_readStep 65 = .ok (.bipush 40, 2) := by decide +kernel
theorem dX12_readStep_67 : decode cX12_readStep 67 = .ok (.if_icmp .ne 13, 3) := by decide +kernel
theorem dX12_readStep_70 : decode cX12_readStep 70 = .ok (.aload_n 0, 1) := by decide +kernel
theorem dX12_readStep_71 : decode cX12_readStep 71 = .ok (.bipush 6, 2) := by decide +kernel
theorem dX12_readStep_73 : decode cX12_readStep 73 = .ok (.aload_n 0, 1) := by decide +kernel
theorem dX12_readStep_74 : decode cX12_readStep 74 = .ok (.getfield 161, 3) := by decide +kernel
theorem dX12_readStep_77 : decode cX12_readStep 77 = .ok (.invokevirtual 229, 3) := by decide +kernel
theorem dX12_readStep_80 : decode cX12_readStep 80 = .ok (.aload_n 0, 1) := by decide +kernel
theorem dX12_readStep_81 : decode cX12_readStep 81 = .ok (.getfield 223, 3) := by decide +kernel
theorem dX12_readStep_84 : decode cX12_readStep 84 = .ok (.ifCond .le 4, 3) := by decide +kernel
theorem dX12_readStep_87 : decode cX12_readStep 87 = .ok (.return_, 1) := by decide +kernel
theorem dX12_readStep_88 : decode cX12_readStep 88 = .ok (.aload_n 0, 1) := by decide +kernel
theorem dX12_readStep_89 : decode cX12_readStep 89 = .ok (.getfield 579, 3) := by decide +kernel
theorem dX12_readStep_92 : decode cX12_readStep 92 = .ok (.istore 4, 2) := by decide +kernel
theorem dX12_readStep_94 : decode cX12_readStep 94 = .ok (.aload_n 0, 1) := by decide +kernel
theorem dX12_readStep_95 : decode cX12_readStep 95 = .ok (.dup, 1) := by decide +kernel
theorem dX12_readStep_96 : decode cX12_readStep 96 = .ok (.getfield 579, 3) := by decide +kernel
theorem dX12_readStep_99 : decode cX12_readStep 99 = .ok (.iconst 1, 1) := by decide +kernel
theorem dX12_readStep_100 : decode cX12_readStep 100 = .ok (.iadd, 1) := by decide +kernel
theorem dX12_readStep_101 : decode cX12_readStep 101 = .ok (.putfield 579, 3) := by decide +kernel
theorem dX12_readStep_104 : decode cX12_readStep 104 = .ok (.aload_n 0, 1) := by decide +kernel
theorem dX12_readStep_105 : decode cX12_readStep 105 = .ok (.getfield 89, 3) := by decide +kernel
theorem dX12_readStep_108 : decode cX12_readStep 108 = .ok (.iload 4, 2) := by decide +kernel
theorem dX12_readStep_110 : decode cX12_readStep 110 = .ok (.iload_n 2, 1) := by decide +kernel
theorem dX12_readStep_111 : decode cX12_readStep 111 = .ok (.iastore, 1) := by decide +kernel
theorem dX12_readStep_112 : decode cX12_readStep 112 = .ok (.aload_n 0, 1) := by decide +kernel
theorem dX12_readStep_113 : decode cX12_readStep 113 = .ok (.invokevirtual 233, 3) := by decide +kernel
theorem dX12_readStep_116 : decode cX12_readStep 116 = .ok (.iload_n 2, 1) := by decide +kernel
theorem dX12_readStep_117 : decode cX12_readStep 117 = .ok (.ifCond .ne 21, 3) := by decide +kernel
theorem dX12_readStep_120 : decode cX12_readStep 120 = .ok (.aload_n 0, 1) := by decide +kernel
theorem dX12_readStep_121 : decode cX12_readStep 121 = .ok (.getfield 92, 3) := by decide +kernel
theorem dX12_readStep_124 : decode cX12_readStep 124 = .ok (.iload 4, 2) := by decide +kernel
theorem dX12_readStep_126 : decode cX12_readStep 126 = .ok (.aload_n 0, 1) := by decide +kernel
theorem dX12_readStep_127 : decode cX12_readStep 127 = .ok (.iconst 0, 1) := by decide +kernel
theorem dX12_readStep_128 : decode cX12_readStep 128 = .ok (.sipush 9999, 3) := by decide +kernel
theorem dX12_readStep_131 : decode cX12_readStep 131 = .ok (.invokevirtual 260, 3) := by decide +kernel
theorem dX12_readStep_134 : decode cX12_readStep 134 = .ok (.iastore, 1) := by decide +kernel
theorem dX12_readStep_135 : decode cX12_readStep 135 = .ok (.goto 51, 3) := by decide +kernel
theorem dX12_readStep_138 : decode cX12_readStep 138 = .ok (.iload_n 2, 1) := by decide +kernel
theorem dX12_readStep_139 : decode cX12_readStep 139 = .ok (.iconst 4, 1) := by decide +kernel
theorem dX12_readStep_140 : decode cX12_readStep 140 = .ok (.if_icmp .ne 20, 3) := by decide +kernel
theorem dX12_readStep_143 : decode cX12_readStep 143 = .ok (.aload_n 0, 1) := by decide +kernel
theorem dX12_readStep_144 : decode cX12_readStep 144 = .ok (.getfield 92, 3) := by decide +kernel
theorem dX12_readStep_147 : decode cX12_readStep 147 = .ok (.iload 4, 2) := by decide +kernel
theorem dX12_readStep_149 : decode cX12_readStep 149 = .ok (.aload_n 0, 1) := by decide +kernel
theorem dX12_readStep_150 : decode cX12_readStep 150 = .ok (.iconst 1, 1) := by decide +kernel
theorem dX12_readStep_151 : decode cX12_readStep 151 = .ok (.bipush 9, 2) := by decide +kernel
theorem dX12_readStep_153 : decode cX12_readStep 153 = .ok (.invokevirtual 260, 3) := by decide +kernel
theorem dX12_readStep_156 : decode cX12_readStep 156 = .ok (.iastore, 1) := by decide +kernel
theorem dX12_readStep_157 : decode cX12_readStep 157 = .ok (.goto 29, 3) := by decide +kernel
theorem dX12_readStep_160 : decode cX12_readStep 160 = .ok (.iload_n 2, 1) := by decide +kernel
theorem dX12_readStep_161 : decode cX12_readStep 161 = .ok (.iconst 1, 1) := by decide +kernel
theorem dX12_readStep_162 : decode cX12_readStep 162 = .ok (.if_icmp .eq 8, 3) := by decide +kernel
theorem dX12_readStep_165 : decode cX12_readStep 165 = .ok (.iload_n 2, 1) := by decide +kernel
theorem dX12_readStep_166 : decode cX12_readStep 166 = .ok (.iconst 5, 1) := by decide +kernel
theorem dX12_readStep_167 : decode cX12_readStep 167 = .ok (.if_icmp .ne 19, 3) := by decide +kernel
theorem dX12_readStep_170 : decode cX12_readStep 170 = .ok (.aload_n 0, 1) := by decide +kernel
theorem dX12_readStep_171 : decode cX12_readStep 171 = .ok (.iload 4, 2) := by decide +kernel
theorem dX12_readStep_173 : decode cX12_readStep 173 = .ok (.iload_n 2, 1) := by decide +kernel
theorem dX12_readStep_174 : decode cX12_readStep 174 = .ok (.iconst 5, 1) := by decide +kernel
theorem dX12_readStep_175 : decode cX12_readStep 175 = .ok (.if_icmp .ne 7, 3) := by decide +kernel
theorem dX12_readStep_178 : decode cX12_readStep 178 = .ok (.iconst 1, 1) := by decide +kernel
theorem dX12_readStep_179 : decode cX12_readStep 179 = .ok (.goto 4, 3) := by decide +kernel
theorem dX12_readStep_182 : decode cX12_readStep 182 = .ok (.iconst 0, 1) := by decide +kernel
theorem dX12_readStep_183 : decode cX12_readStep 183 = .ok (.invokevirtual 582, 3) := by decide +kernel
theorem dX12_readStep_186 : decode cX12_readStep 186 = .ok (.aload_n 0, 1) := by decide +kernel
theorem dX12_readStep_187 : decode cX12_readStep 187 = .ok (.aload_n 0, 1) := by decide +kernel
theorem dX12_readStep_188 : decode cX12_readStep 188 = .ok (.getfield 167, 3) := by decide +kernel
theorem dX12_readStep_191 : decode cX12_readStep 191 = .ok (.iconst 3, 1) := by decide +kernel
theorem dX12_readStep_192 : decode cX12_readStep 192 = .ok (.if_icmp .ne 7, 3) := by decide +kernel
theorem dX12_readStep_195 : decode cX12_readStep 195 = .ok (.iconst 1, 1) := by decide +kernel
theorem dX12_readStep_196 : decode cX12_readStep 196 = .ok (.goto 4, 3) := by decide +kernel
theorem dX12_readStep_199 : decode cX12_readStep 199 = .ok (.iconst 0, 1) := by decide +kernel
theorem dX12_readStep_200 : decode cX12_readStep 200 = .ok (.invokevirtual 256, 3) := by decide +kernel
theorem dX12_readStep_203 : decode cX12_readStep 203 = .ok (.iload_n 3, 1) := by decide +kernel
theorem dX12_readStep_204 : decode cX12_readStep 204 = .ok (.ifCond .eq 27, 3) := by decide +kernel
theorem dX12_readStep_207 : decode cX12_readStep 207 = .ok (.aload_n 0, 1) := by decide +kernel
theorem dX12_readStep_208 : decode cX12_readStep 208 = .ok (.getfield 223, 3) := by decide +kernel
theorem dX12_readStep_211 : decode cX12_readStep 211 = .ok (.ifCond .ne 20, 3) := by decide +kernel
theorem dX12_readStep_214 : decode cX12_readStep 214 = .ok (.aload_n 0, 1) := by decide +kernel
theorem dX12_readStep_215 : decode cX12_readStep 215 = .ok (.invokevirtual 586, 3) := by decide +kernel
theorem dX12_readStep_218 : decode cX12_readStep 218 = .ok (.ifCond .ne 13, 3) := by decide +kernel
theorem dX12_readStep_221 : decode cX12_readStep 221 = .ok (.aload_n 0, 1) := by decide +kernel
theorem dX12_readStep_222 : decode cX12_readStep 222 = .ok (.iload_n 1, 1) := by decide +kernel
theorem dX12_readStep_223 : decode cX12_readStep 223 = .ok (.iconst 1, 1) := by decide +kernel
theorem dX12_readStep_224 : decode cX12_readStep 224 = .ok (.iadd, 1) := by decide +kernel
theorem dX12_readStep_225 : decode cX12_readStep 225 = .ok (.invokevirtual 589, 3) := by decide +kernel
theorem dX12_readStep_228 : decode cX12_readStep 228 = .ok (.goto (-25), 3) := by decide +kernel
theorem dX12_readStep_231 : decode cX12_readStep 231 = .ok (.iload_n 3, 1) := by decide +kernel
theorem dX12_readStep_232 : decode cX12_readStep 232 = .ok (.ifCond .eq 28, 3) := by decide +kernel
theorem dX12_readStep_235 : decode cX12_readStep 235 = .ok (.aload_n 0, 1) := by decide +kernel
theorem dX12_readStep_236 : decode cX12_readStep 236 = .ok (.aload_n 0, 1) := by decide +kernel
theorem dX12_readStep_237 : decode cX12_readStep 237 = .ok (.invokevirtual 586, 3) := by decide +kernel
theorem dX12_readStep_240 : decode cX12_readStep 240 = .ok (.invokevirtual 256, 3) := by decide +kernel
theorem dX12_readStep_243 : decode cX12_readStep 243 = .ok (.aload_n 0, 1) := by decide +kernel
theorem dX12_readStep_244 : decode cX12_readStep 244 = .ok (.aload_n 0, 1) := by decide +kernel
theorem dX12_readStep_245 : decode cX12_readStep 245 = .ok (.getfield 167, 3) := by decide +kernel
theorem dX12_readStep_248 : decode cX12_readStep 248 = .ok (.iconst 3, 1) := by decide +kernel
theorem dX12_readStep_249 : decode cX12_readStep 249 = .ok (.if_icmp .ne 7, 3) := by decide +kernel
theorem dX12_readStep_252 : decode cX12_readStep 252 = .ok (.iconst 1, 1) := by decide +kernel
theorem dX12_readStep_253 : decode cX12_readStep 253 = .ok (.goto 4, 3) := by decide +kernel
theorem dX12_readStep_256 : decode cX12_readStep 256 = .ok (.iconst 0, 1) := by decide +kernel
theorem dX12_readStep_257 : decode cX12_readStep 257 = .ok (.invokevirtual 256, 3) := by decide +kernel
theorem dX12_readStep_260 : decode cX12_readStep 260 = .ok (.aload_n 0, 1) := by decide +kernel
theorem dX12_readStep_261 : decode cX12_readStep 261 = .ok (.getfield 98, 3) := by decide +kernel
theorem dX12_readStep_264 : decode cX12_readStep 264 = .ok (.iload 4, 2) := by decide +kernel
theorem dX12_readStep_266 : decode cX12_readStep 266 = .ok (.aload_n 0, 1) := by decide +kernel
theorem dX12_readStep_267 : decode cX12_readStep 267 = .ok (.getfield 579, 3) := by decide +kernel
theorem dX12_readStep_270 : decode cX12_readStep 270 = .ok (.iastore, 1) := by decide +kernel
theorem dX12_readStep_271 : decode cX12_readStep 271 = .ok (.return_, 1) := by decide +kernel
noncomputable def f_X12_readStep_203 (rc : Int32 → am_H → Option (am_H)) (v1 : Int32) (v3 : Bool) (v4 : Int32) (σ : am_H) : Option ((am_H) ⊕ (am_H)) :=
  if v3 = true then
   (if (σ.1 12 0 12) = 0 then
    ((f_X12_isEnd σ).bind fun p3 =>
    if p3 = true then
     (some (.inr σ))
    else
    (rc (v1 + 1) σ).bind fun p5 =>
    some (.inl p5))
   else
   some (.inr σ))
  else
  some (.inr σ)
set_option maxRecDepth 100000 in
set_option maxHeartbeats 4000000 in
theorem q_X12_readStep_203 {X : am_X} (hX : am_ks X = am_ksM) {Q : Option Value → am_H → Prop} (n : Nat) (rc : Int32 → am_H → Option (am_H)) (hrc : ∀ (v1 : Int32) (σ : am_H) (o : am_H), rc v1 σ = some o → am_C X (gm_X12_readStep n) [.ref (am_ad X 12 0), .int v1] σ (am_is none o)) (v1 : Int32) (v3 : Bool) (v4 : Int32) (σ : am_H) {o : (am_H) ⊕ (am_H)} (hf : f_X12_readStep_203 rc v1 v3 v4 σ = some o) (hk0 : ∀ s, o = .inl s → am_G X (gm_X12_readStep (n + 1)) Q 203 [(0, .ref (am_ad X 12 0)), (1, .int v1), (3, .int (am_b v3)), (4, .int v4)] [] s) (hk1 : ∀ t, o = .inr t → am_G X (gm_X12_readStep (n + 1)) Q 231 [(0, .ref (am_ad X 12 0)), (3, .int (am_b v3)), (4, .int v4)] [] t) : am_G X (gm_X12_readStep (n + 1)) Q 203 [(0, .ref (am_ad X 12 0)), (1, .int v1), (3, .int (am_b v3)), (4, .int v4)] [] σ := by
  unfold f_X12_readStep_203 at hf
  refine g_iload_n (pc := 203) 2 rfl dX12_readStep_203 rfl ?_
  refine bt_eq (pc := 204) 231 dX12_readStep_204 rfl (fun c1 => ?_) (fun c1 => ?_)
  · replace hf := am_ifT c1 hf
    refine g_aload_n (pc := 207) 0 rfl dX12_readStep_207 rfl ?_
    refine g_getI (pc := 208) (in_12 hX (by omega)) fr_X12_223 dX12_readStep_208 ?_
    refine bz_ne (pc := 211) 231 dX12_readStep_211 rfl (fun c2 => ?_) (fun c2 => ?_)
    · replace hf := am_ifT c2 hf
      refine g_aload_n (pc := 214) 0 rfl dX12_readStep_214 rfl ?_
      obtain ⟨p3, hp3, hf⟩ := am_bd hf
      refine g_cV (pc := 215) (As := []) (st := []) (st1 := [.int (am_b p3)]) (in_12 hX (by omega)) kk_12 mV_X12_isEnd ln_X12_586 rfl (by first | exact Nat.le_of_ble_eq_true rfl | (show _ + 1 ≤ _; simp only []; omega)) (Nat.le_of_ble_eq_true rfl) (k_X12_isEnd hX σ hp3) dX12_readStep_215 rfl rfl ?_
      refine bt_ne (pc := 218) 231 dX12_readStep_218 rfl (fun c4 => ?_) (fun c4 => ?_)
      · replace hf := am_ifT c4 hf
        have hz := hk1 _ (Option.some.inj hf).symm
        exact am_sub [0, 2, 3] rfl hz
      replace hf := am_ifF c4 hf
      refine g_aload_n (pc := 221) 0 rfl dX12_readStep_221 rfl ?_
      refine g_iload_n (pc := 222) 1 rfl dX12_readStep_222 rfl ?_
      refine g_iconst (pc := 223) (v := 1) dX12_readStep_223 (by decide) ?_
      refine g_iadd (pc := 224) dX12_readStep_224 ?_
      obtain ⟨p5, hp5, hf⟩ := am_bd hf
      refine g_cV (pc := 225) (As := [.int (v1 + 1)]) (st := []) (st1 := []) (in_12 hX (by omega)) kk_12 (mV_X12_readStep _) ln_X12_589 rfl (by first | exact Nat.le_of_ble_eq_true rfl | (show _ + 1 ≤ _; simp only []; omega)) (Nat.le_of_ble_eq_true rfl) (hrc (v1 + 1) σ _ hp5) dX12_readStep_225 rfl rfl ?_
      refine g_goto (pc := 228) 203 dX12_readStep_228 rfl ?_
      have hz := hk0 _ (Option.some.inj hf).symm
      exact hz
    replace hf := am_ifF c2 hf
    have hz := hk1 _ (Option.some.inj hf).symm
    exact am_sub [0, 2, 3] rfl hz
  replace hf := am_ifF c1 hf
  have hz := hk1 _ (Option.some.inj hf).symm
  exact am_sub [0, 2, 3] rfl hz
set_option maxRecDepth 100000 in
set_option maxHeartbeats 4000000 in
theorem l_X12_readStep_203 {X : am_X} (hX : am_ks X = am_ksM) {Q : Option Value → am_H → Prop} (n : Nat) (rc : Int32 → am_H → Option (am_H)) (hrc : ∀ (v1 : Int32) (σ : am_H) (o : am_H), rc v1 σ = some o → am_C X (gm_X12_readStep n) [.ref (am_ad X 12 0), .int v1] σ (am_is none o)) (v1 : Int32) (v3 : Bool) (v4 : Int32) (σ : am_H) (s : am_H) {o : am_H} (hf : am_loop (fun s => f_X12_readStep_203 rc v1 v3 v4 s) s = some o) (hk1 : ∀ t, o = t → am_G X (gm_X12_readStep (n + 1)) Q 231 [(0, .ref (am_ad X 12 0)), (3, .int (am_b v3)), (4, .int v4)] [] t) : am_G X (gm_X12_readStep (n + 1)) Q 203 [(0, .ref (am_ad X 12 0)), (1, .int v1), (3, .int (am_b v3)), (4, .int v4)] [] s := by
  refine am_loop_ind (P := fun s => am_G X (gm_X12_readStep (n + 1)) Q 203 [(0, .ref (am_ad X 12 0)), (1, .int v1), (3, .int (am_b v3)), (4, .int v4)] [] s) (K := fun r => r = o) ?_ hf rfl
  intro s o1 hb hi hr
  exact q_X12_readStep_203 hX n rc hrc v1 v3 v4  s hb hi (fun t e => hk1 t (hr _ e).symm)
noncomputable def f_X12_readStep_260 (rc : Int32 → am_H → Option (am_H)) (v4 : Int32) (σ : am_H) : Option (am_H) :=
  (am_ix 40 v4).bind fun j1 =>
  (some (am_wI σ 1375 0 j1 (σ.1 12 0 55))).bind fun s2 =>
  some s2
set_option maxRecDepth 100000 in
set_option maxHeartbeats 4000000 in
theorem q_X12_readStep_260 {X : am_X} (hX : am_ks X = am_ksM) {Q : Option Value → am_H → Prop} (n : Nat) (rc : Int32 → am_H → Option (am_H)) (hrc : ∀ (v1 : Int32) (σ : am_H) (o : am_H), rc v1 σ = some o → am_C X (gm_X12_readStep n) [.ref (am_ad X 12 0), .int v1] σ (am_is none o)) (v4 : Int32) (σ : am_H) {o : am_H} (hf : f_X12_readStep_260 rc v4 σ = some o) (hk : Q none o) : am_G X (gm_X12_readStep (n + 1)) Q 260 [(0, .ref (am_ad X 12 0)), (4, .int v4)] [] σ := by
  unfold f_X12_readStep_260 at hf
  refine g_aload_n (pc := 260) 0 rfl dX12_readStep_260 rfl ?_
  refine g_getC (pc := 261) (e := 0) (in_12 hX (by omega)) fr_X12_98 dX12_readStep_261 rfl ?_
  refine g_iload (pc := 264) 1 rfl dX12_readStep_264 ?_
  refine g_aload_n (pc := 266) 0 rfl dX12_readStep_266 rfl ?_
  refine g_getI (pc := 267) (in_12 hX (by omega)) fr_X12_579 dX12_readStep_267 ?_
  obtain ⟨j1, hj1, hf⟩ := am_bd hf
  have gj1 := am_ix_lt hj1
  obtain ⟨s2, hs2, hf⟩ := am_bd hf
  refine g_sI (pc := 270) (in_1375 hX (by omega)) ak_1375 hj1 dX12_readStep_270 (Option.some.inj hs2) ?_
  have ho := Option.some.inj hf
  subst ho
  exact g_vreturn (pc := 271) (st := []) rfl dX12_readStep_271 hk
noncomputable def f_X12_readStep_257 (rc : Int32 → am_H → Option (am_H)) (v4 : Int32) (k1 : Bool) (σ : am_H) : Option (am_H) :=
  (f_X12_must k1 σ).bind fun p1 =>
  f_X12_readStep_260 rc v4 p1
set_option maxRecDepth 100000 in
set_option maxHeartbeats 4000000 in
theorem q_X12_readStep_257 {X : am_X} (hX : am_ks X = am_ksM) {Q : Option Value → am_H → Prop} (n : Nat) (rc : Int32 → am_H → Option (am_H)) (hrc : ∀ (v1 : Int32) (σ : am_H) (o : am_H), rc v1 σ = some o → am_C X (gm_X12_readStep n) [.ref (am_ad X 12 0), .int v1] σ (am_is none o)) (v4 : Int32) (k1 : Bool) (σ : am_H) {o : am_H} (hf : f_X12_readStep_257 rc v4 k1 σ = some o) (hk : Q none o) : am_G X (gm_X12_readStep (n + 1)) Q 257 [(0, .ref (am_ad X 12 0)), (4, .int v4)] [.int (am_b k1), .ref (am_ad X 12 0)] σ := by
  unfold f_X12_readStep_257 at hf
  obtain ⟨p1, hp1, hf⟩ := am_bd hf
  refine g_cV (pc := 257) (As := [.int (am_b k1)]) (st := []) (st1 := []) (in_12 hX (by omega)) kk_12 mV_X12_must ln_X12_256 rfl (by first | exact Nat.le_of_ble_eq_true rfl | (show _ + 1 ≤ _; simp only []; omega)) (Nat.le_of_ble_eq_true rfl) (k_X12_must hX k1 σ hp1) dX12_readStep_257 rfl rfl ?_
  exact q_X12_readStep_260 hX n rc hrc v4 p1 hf hk
noncomputable def f_X12_readStep_200 (rc : Int32 → am_H → Option (am_H)) (v1 : Int32) (v3 : Bool) (v4 : Int32) (k1 : Bool) (σ : am_H) : Option (am_H) :=
  (f_X12_must k1 σ).bind fun p1 =>
  (am_loop (fun s => f_X12_readStep_203 rc v1 v3 v4 s) p1).bind fun w2 =>
  if v3 = true then
   ((f_X12_isEnd w2).bind fun p4 =>
   (f_X12_must p4 w2).bind fun p5 =>
   if (p5.1 12 0 14) = 3 then
    (f_X12_readStep_257 rc v4 true p5)
   else
   f_X12_readStep_257 rc v4 false p5)
  else
  f_X12_readStep_260 rc v4 w2
set_option maxRecDepth 100000 in
set_option maxHeartbeats 4000000 in
theorem q_X12_readStep_200 {X : am_X} (hX : am_ks X = am_ksM) {Q : Option Value → am_H → Prop} (n : Nat) (rc : Int32 → am_H → Option (am_H)) (hrc : ∀ (v1 : Int32) (σ : am_H) (o : am_H), rc v1 σ = some o → am_C X (gm_X12_readStep n) [.ref (am_ad X 12 0), .int v1] σ (am_is none o)) (v1 : Int32) (v3 : Bool) (v4 : Int32) (k1 : Bool) (σ : am_H) {o : am_H} (hf : f_X12_readStep_200 rc v1 v3 v4 k1 σ = some o) (hk : Q none o) : am_G X (gm_X12_readStep (n + 1)) Q 200 [(0, .ref (am_ad X 12 0)), (1, .int v1), (3, .int (am_b v3)), (4, .int v4)] [.int (am_b k1), .ref (am_ad X 12 0)] σ := by
  unfold f_X12_readStep_200 at hf
  obtain ⟨p1, hp1, hf⟩ := am_bd hf
  refine g_cV (pc := 200) (As := [.int (am_b k1)]) (st := []) (st1 := []) (in_12 hX (by omega)) kk_12 mV_X12_must ln_X12_256 rfl (by first | exact Nat.le_of_ble_eq_true rfl | (show _ + 1 ≤ _; simp only []; omega)) (Nat.le_of_ble_eq_true rfl) (k_X12_must hX k1 σ hp1) dX12_readStep_200 rfl rfl ?_
  obtain ⟨w2, hw2, hf⟩ := am_bd hf
  refine (l_X12_readStep_203 hX n rc hrc v1 v3 v4  p1 p1 hw2 ?_)
  intro t e
  subst e
  refine g_iload_n (pc := 231) 1 rfl dX12_readStep_231 rfl ?_
  refine bt_eq (pc := 232) 260 dX12_readStep_232 rfl (fun c3 => ?_) (fun c3 => ?_)
  · replace hf := am_ifT c3 hf
    refine g_aload_n (pc := 235) 0 rfl dX12_readStep_235 rfl ?_
    refine g_aload_n (pc := 236) 0 rfl dX12_readStep_236 rfl ?_
    obtain ⟨p4, hp4, hf⟩ := am_bd hf
    refine g_cV (pc := 237) (As := []) (st := [.ref (am_ad X 12 0)]) (st1 := [.int (am_b p4), .ref (am_ad X 12 0)]) (in_12 hX (by omega)) kk_12 mV_X12_isEnd ln_X12_586 rfl (by first | exact Nat.le_of_ble_eq_true rfl | (show _ + 1 ≤ _; simp only []; omega)) (Nat.le_of_ble_eq_true rfl) (k_X12_isEnd hX w2 hp4) dX12_readStep_237 rfl rfl ?_
    obtain ⟨p5, hp5, hf⟩ := am_bd hf
    refine g_cV (pc := 240) (As := [.int (am_b p4)]) (st := []) (st1 := []) (in_12 hX (by omega)) kk_12 mV_X12_must ln_X12_256 rfl (by first | exact Nat.le_of_ble_eq_true rfl | (show _ + 1 ≤ _; simp only []; omega)) (Nat.le_of_ble_eq_true rfl) (k_X12_must hX p4 w2 hp5) dX12_readStep_240 rfl rfl ?_
    refine g_aload_n (pc := 243) 0 rfl dX12_readStep_243 rfl ?_
    refine g_aload_n (pc := 244) 0 rfl dX12_readStep_244 rfl ?_
    refine g_getI (pc := 245) (in_12 hX (by omega)) fr_X12_167 dX12_readStep_245 ?_
    refine g_iconst (pc := 248) (v := 3) dX12_readStep_248 (by decide) ?_
    refine bi_ne (pc := 249) 256 dX12_readStep_249 rfl (fun c6 => ?_) (fun c6 => ?_)
    · replace hf := am_ifT c6 hf
      refine g_iconst (pc := 252) (v := 1) dX12_readStep_252 (by decide) ?_
      refine g_goto (pc := 253) 257 dX12_readStep_253 rfl ?_
      exact am_sub [0, 2] rfl (q_X12_readStep_257 hX n rc hrc v4 true p5 hf hk)
    replace hf := am_ifF c6 hf
    refine g_iconst (pc := 256) (v := 0) dX12_readStep_256 (by decide) ?_
    exact am_sub [0, 2] rfl (q_X12_readStep_257 hX n rc hrc v4 false p5 hf hk)
  replace hf := am_ifF c3 hf
  exact am_sub [0, 2] rfl (q_X12_readStep_260 hX n rc hrc v4 w2 hf hk)
noncomputable def f_X12_readStep_186 (rc : Int32 → am_H → Option (am_H)) (v1 : Int32) (v3 : Bool) (v4 : Int32) (σ : am_H) : Option (am_H) :=
  if (σ.1 12 0 14) = 3 then
   (f_X12_readStep_200 rc v1 v3 v4 true σ)
  else
  f_X12_readStep_200 rc v1 v3 v4 false σ
set_option maxRecDepth 100000 in
set_option maxHeartbeats 4000000 in
theorem q_X12_readStep_186 {X : am_X} (hX : am_ks X = am_ksM) {Q : Option Value → am_H → Prop} (n : Nat) (rc : Int32 → am_H → Option (am_H)) (hrc : ∀ (v1 : Int32) (σ : am_H) (o : am_H), rc v1 σ = some o → am_C X (gm_X12_readStep n) [.ref (am_ad X 12 0), .int v1] σ (am_is none o)) (v1 : Int32) (v3 : Bool) (v4 : Int32) (σ : am_H) {o : am_H} (hf : f_X12_readStep_186 rc v1 v3 v4 σ = some o) (hk : Q none o) : am_G X (gm_X12_readStep (n + 1)) Q 186 [(0, .ref (am_ad X 12 0)), (1, .int v1), (3, .int (am_b v3)), (4, .int v4)] [] σ := by
  unfold f_X12_readStep_186 at hf
  refine g_aload_n (pc := 186) 0 rfl dX12_readStep_186 rfl ?_
  refine g_aload_n (pc := 187) 0 rfl dX12_readStep_187 rfl ?_
  refine g_getI (pc := 188) (in_12 hX (by omega)) fr_X12_167 dX12_readStep_188 ?_
  refine g_iconst (pc := 191) (v := 3) dX12_readStep_191 (by decide) ?_
  refine bi_ne (pc := 192) 199 dX12_readStep_192 rfl (fun c1 => ?_) (fun c1 => ?_)
  · replace hf := am_ifT c1 hf
    refine g_iconst (pc := 195) (v := 1) dX12_readStep_195 (by decide) ?_
    refine g_goto (pc := 196) 200 dX12_readStep_196 rfl ?_
    exact q_X12_readStep_200 hX n rc hrc v1 v3 v4 true σ hf hk
  replace hf := am_ifF c1 hf
  refine g_iconst (pc := 199) (v := 0) dX12_readStep_199 (by decide) ?_
  exact q_X12_readStep_200 hX n rc hrc v1 v3 v4 false σ hf hk
noncomputable def f_X12_readStep_183 (rc : Int32 → am_H → Option (am_H)) (v1 : Int32) (v3 : Bool) (v4 : Int32) (k1 : Int32) (k2 : Bool) (σ : am_H) : Option (am_H) :=
  (f_X12_readWhat k1 k2 σ).bind fun p1 =>
  f_X12_readStep_186 rc v1 v3 v4 p1
set_option maxRecDepth 100000 in
set_option maxHeartbeats 4000000 in
theorem q_X12_readStep_183 {X : am_X} (hX : am_ks X = am_ksM) {Q : Option Value → am_H → Prop} (n : Nat) (rc : Int32 → am_H → Option (am_H)) (hrc : ∀ (v1 : Int32) (σ : am_H) (o : am_H), rc v1 σ = some o → am_C X (gm_X12_readStep n) [.ref (am_ad X 12 0), .int v1] σ (am_is none o)) (v1 : Int32) (v3 : Bool) (v4 : Int32) (k1 : Int32) (k2 : Bool) (σ : am_H) {o : am_H} (hf : f_X12_readStep_183 rc v1 v3 v4 k1 k2 σ = some o) (hk : Q none o) : am_G X (gm_X12_readStep (n + 1)) Q 183 [(0, .ref (am_ad X 12 0)), (1, .int v1), (3, .int (am_b v3)), (4, .int v4)] [.int (am_b k2), .int k1, .ref (am_ad X 12 0)] σ := by
  unfold f_X12_readStep_183 at hf
  obtain ⟨p1, hp1, hf⟩ := am_bd hf
  refine g_cV (pc := 183) (As := [.int k1, .int (am_b k2)]) (st := []) (st1 := []) (in_12 hX (by omega)) kk_12 mV_X12_readWhat ln_X12_582 rfl (by first | exact Nat.le_of_ble_eq_true rfl | (show _ + 1 ≤ _; simp only []; omega)) (Nat.le_of_ble_eq_true rfl) (k_X12_readWhat hX k1 k2 σ hp1) dX12_readStep_183 rfl rfl ?_
  exact q_X12_readStep_186 hX n rc hrc v1 v3 v4 p1 hf hk
noncomputable def f_X12_readStep_170 (rc : Int32 → am_H → Option (am_H)) (v1 : Int32) (v2 : Int32) (v3 : Bool) (v4 : Int32) (σ : am_H) : Option (am_H) :=
  if v2 = 5 then
   (f_X12_readStep_183 rc v1 v3 v4 v4 true σ)
  else
  f_X12_readStep_183 rc v1 v3 v4 v4 false σ
set_option maxRecDepth 100000 in
set_option maxHeartbeats 4000000 in
theorem q_X12_readStep_170 {X : am_X} (hX : am_ks X = am_ksM) {Q : Option Value → am_H → Prop} (n : Nat) (rc : Int32 → am_H → Option (am_H)) (hrc : ∀ (v1 : Int32) (σ : am_H) (o : am_H), rc v1 σ = some o → am_C X (gm_X12_readStep n) [.ref (am_ad X 12 0), .int v1] σ (am_is none o)) (v1 : Int32) (v2 : Int32) (v3 : Bool) (v4 : Int32) (σ : am_H) {o : am_H} (hf : f_X12_readStep_170 rc v1 v2 v3 v4 σ = some o) (hk : Q none o) : am_G X (gm_X12_readStep (n + 1)) Q 170 [(0, .ref (am_ad X 12 0)), (1, .int v1), (2, .int v2), (3, .int (am_b v3)), (4, .int v4)] [] σ := by
  unfold f_X12_readStep_170 at hf
  refine g_aload_n (pc := 170) 0 rfl dX12_readStep_170 rfl ?_
  refine g_iload (pc := 171) 4 rfl dX12_readStep_171 ?_
  refine g_iload_n (pc := 173) 2 rfl dX12_readStep_173 rfl ?_
  refine g_iconst (pc := 174) (v := 5) dX12_readStep_174 (by decide) ?_
  refine bi_ne (pc := 175) 182 dX12_readStep_175 rfl (fun c1 => ?_) (fun c1 => ?_)
  · replace hf := am_ifT c1 hf
    refine g_iconst (pc := 178) (v := 1) dX12_readStep_178 (by decide) ?_
    refine g_goto (pc := 179) 183 dX12_readStep_179 rfl ?_
    exact am_sub [0, 1, 3, 4] rfl (q_X12_readStep_183 hX n rc hrc v1 v3 v4 v4 true σ hf hk)
  replace hf := am_ifF c1 hf
  refine g_iconst (pc := 182) (v := 0) dX12_readStep_182 (by decide) ?_
  exact am_sub [0, 1, 3, 4] rfl (q_X12_readStep_183 hX n rc hrc v1 v3 v4 v4 false σ hf hk)
noncomputable def f_X12_readStep_80 (rc : Int32 → am_H → Option (am_H)) (v1 : Int32) (v2 : Int32) (v3 : Bool) (σ : am_H) : Option (am_H) :=
  if 0 < (σ.1 12 0 12) then
   (some σ)
  else
  (some (am_wI σ 12 0 55 ((σ.1 12 0 55) + 1))).bind fun s2 =>
  (am_ix 40 (σ.1 12 0 55)).bind fun j3 =>
  (some (am_wI s2 1372 0 j3 v2)).bind fun s4 =>
  (f_X12_next s4).bind fun p5 =>
  if v2 = 0 then
   ((f_X12_count 0 9999 p5).bind fun p7 =>
   (am_ix 40 (σ.1 12 0 55)).bind fun j8 =>
   (some (am_wI p7.2 1373 0 j8 p7.1)).bind fun s9 =>
   f_X12_readStep_186 rc v1 v3 (σ.1 12 0 55) s9)
  else
  if v2 = 4 then
   ((f_X12_count 1 9 p5).bind fun p11 =>
   (am_ix 40 (σ.1 12 0 55)).bind fun j12 =>
   (some (am_wI p11.2 1373 0 j12 p11.1)).bind fun s13 =>
   f_X12_readStep_186 rc v1 v3 (σ.1 12 0 55) s13)
  else
  if v2 = 1 then
   (f_X12_readStep_170 rc v1 v2 v3 (σ.1 12 0 55) p5)
  else
  if v2 = 5 then
   (f_X12_readStep_170 rc v1 v2 v3 (σ.1 12 0 55) p5)
  else
  f_X12_readStep_186 rc v1 v3 (σ.1 12 0 55) p5
set_option maxRecDepth 100000 in
set_option maxHeartbeats 4000000 in
theorem q_X12_readStep_80 {X : am_X} (hX : am_ks X = am_ksM) {Q : Option Value → am_H → Prop} (n : Nat) (rc : Int32 → am_H → Option (am_H)) (hrc : ∀ (v1 : Int32) (σ : am_H) (o : am_H), rc v1 σ = some o → am_C X (gm_X12_readStep n) [.ref (am_ad X 12 0), .int v1] σ (am_is none o)) (v1 : Int32) (v2 : Int32) (v3 : Bool) (σ : am_H) {o : am_H} (hf : f_X12_readStep_80 rc v1 v2 v3 σ = some o) (hk : Q none o) : am_G X (gm_X12_readStep (n + 1)) Q 80 [(0, .ref (am_ad X 12 0)), (1, .int v1), (2, .int v2), (3, .int (am_b v3))] [] σ := by
  unfold f_X12_readStep_80 at hf
  refine g_aload_n (pc := 80) 0 rfl dX12_readStep_80 rfl ?_
  refine g_getI (pc := 81) (in_12 hX (by omega)) fr_X12_223 dX12_readStep_81 ?_
  refine bz_le (pc := 84) 88 dX12_readStep_84 rfl (fun c1 => ?_) (fun c1 => ?_)
  · replace hf := am_ifT c1 hf
    have ho := Option.some.inj hf
    subst ho
    exact g_vreturn (pc := 87) (st := []) rfl dX12_readStep_87 hk
  replace hf := am_ifF c1 hf
  refine g_aload_n (pc := 88) 0 rfl dX12_readStep_88 rfl ?_
  refine g_getI (pc := 89) (in_12 hX (by omega)) fr_X12_579 dX12_readStep_89 ?_
  refine g_istore (pc := 92) [(4, .int (σ.1 12 0 55)), (0, .ref (am_ad X 12 0)), (1, .int v1), (2, .int v2), (3, .int (am_b v3))] dX12_readStep_92 (Nat.le_of_ble_eq_true rfl) rfl ?_
  refine g_aload_n (pc := 94) 1 rfl dX12_readStep_94 rfl ?_
  refine g_dup (pc := 95) dX12_readStep_95 rfl ?_
  refine g_getI (pc := 96) (in_12 hX (by omega)) fr_X12_579 dX12_readStep_96 ?_
  refine g_iconst (pc := 99) (v := 1) dX12_readStep_99 (by decide) ?_
  refine g_iadd (pc := 100) dX12_readStep_100 ?_
  obtain ⟨s2, hs2, hf⟩ := am_bd hf
  refine g_setI (pc := 101) (in_12 hX (by omega)) fr_X12_579 dX12_readStep_101 (Option.some.inj hs2) ?_
  refine g_aload_n (pc := 104) 1 rfl dX12_readStep_104 rfl ?_
  refine g_getC (pc := 105) (e := 0) (in_12 hX (by omega)) fr_X12_89 dX12_readStep_105 rfl ?_
  refine g_iload (pc := 108) 0 rfl dX12_readStep_108 ?_
  refine g_iload_n (pc := 110) 3 rfl dX12_readStep_110 rfl ?_
  obtain ⟨j3, hj3, hf⟩ := am_bd hf
  have gj3 := am_ix_lt hj3
  obtain ⟨s4, hs4, hf⟩ := am_bd hf
  refine g_sI (pc := 111) (in_1372 hX (by omega)) ak_1372 hj3 dX12_readStep_111 (Option.some.inj hs4) ?_
  refine g_aload_n (pc := 112) 1 rfl dX12_readStep_112 rfl ?_
  obtain ⟨p5, hp5, hf⟩ := am_bd hf
  refine g_cV (pc := 113) (As := []) (st := []) (st1 := []) (in_12 hX (by omega)) kk_12 mV_X12_next ln_X12_233 rfl (by first | exact Nat.le_of_ble_eq_true rfl | (show _ + 1 ≤ _; simp only []; omega)) (Nat.le_of_ble_eq_true rfl) (k_X12_next hX s4 hp5) dX12_readStep_113 rfl rfl ?_
  refine g_iload_n (pc := 116) 3 rfl dX12_readStep_116 rfl ?_
  refine bz_ne (pc := 117) 138 dX12_readStep_117 rfl (fun c6 => ?_) (fun c6 => ?_)
  · replace hf := am_ifT c6 hf
    refine g_aload_n (pc := 120) 1 rfl dX12_readStep_120 rfl ?_
    refine g_getC (pc := 121) (e := 0) (in_12 hX (by omega)) fr_X12_92 dX12_readStep_121 rfl ?_
    refine g_iload (pc := 124) 0 rfl dX12_readStep_124 ?_
    refine g_aload_n (pc := 126) 1 rfl dX12_readStep_126 rfl ?_
    refine g_iconst (pc := 127) (v := 0) dX12_readStep_127 (by decide) ?_
    refine g_sipush (pc := 128) (v := 9999) dX12_readStep_128 (by decide) ?_
    obtain ⟨p7, hp7, hf⟩ := am_bd hf
    refine g_cV (pc := 131) (As := [.int 0, .int 9999]) (st := [.int (σ.1 12 0 55), .ref (am_ad X 1373 0)]) (st1 := [.int p7.1, .int (σ.1 12 0 55), .ref (am_ad X 1373 0)]) (in_12 hX (by omega)) kk_12 mV_X12_count ln_X12_260 rfl (by first | exact Nat.le_of_ble_eq_true rfl | (show _ + 1 ≤ _; simp only []; omega)) (Nat.le_of_ble_eq_true rfl) (k_X12_count hX 0 9999 p5 hp7) dX12_readStep_131 rfl rfl ?_
    obtain ⟨j8, hj8, hf⟩ := am_bd hf
    have gj8 := am_ix_lt hj8
    obtain ⟨s9, hs9, hf⟩ := am_bd hf
    refine g_sI (pc := 134) (in_1373 hX (by omega)) ak_1373 hj8 dX12_readStep_134 (Option.some.inj hs9) ?_
    refine g_goto (pc := 135) 186 dX12_readStep_135 rfl ?_
    exact am_sub [1, 2, 4, 0] rfl (q_X12_readStep_186 hX n rc hrc v1 v3 (σ.1 12 0 55) s9 hf hk)
  replace hf := am_ifF c6 hf
  refine g_iload_n (pc := 138) 3 rfl dX12_readStep_138 rfl ?_
  refine g_iconst (pc := 139) (v := 4) dX12_readStep_139 (by decide) ?_
  refine bi_ne (pc := 140) 160 dX12_readStep_140 rfl (fun c10 => ?_) (fun c10 => ?_)
  · replace hf := am_ifT c10 hf
    refine g_aload_n (pc := 143) 1 rfl dX12_readStep_143 rfl ?_
    refine g_getC (pc := 144) (e := 0) (in_12 hX (by omega)) fr_X12_92 dX12_readStep_144 rfl ?_
    refine g_iload (pc := 147) 0 rfl dX12_readStep_147 ?_
    refine g_aload_n (pc := 149) 1 rfl dX12_readStep_149 rfl ?_
    refine g_iconst (pc := 150) (v := 1) dX12_readStep_150 (by decide) ?_
    refine g_bipush (pc := 151) (v := 9) dX12_readStep_151 (by decide) ?_
    obtain ⟨p11, hp11, hf⟩ := am_bd hf
    refine g_cV (pc := 153) (As := [.int 1, .int 9]) (st := [.int (σ.1 12 0 55), .ref (am_ad X 1373 0)]) (st1 := [.int p11.1, .int (σ.1 12 0 55), .ref (am_ad X 1373 0)]) (in_12 hX (by omega)) kk_12 mV_X12_count ln_X12_260 rfl (by first | exact Nat.le_of_ble_eq_true rfl | (show _ + 1 ≤ _; simp only []; omega)) (Nat.le_of_ble_eq_true rfl) (k_X12_count hX 1 9 p5 hp11) dX12_readStep_153 rfl rfl ?_
    obtain ⟨j12, hj12, hf⟩ := am_bd hf
    have gj12 := am_ix_lt hj12
    obtain ⟨s13, hs13, hf⟩ := am_bd hf
    refine g_sI (pc := 156) (in_1373 hX (by omega)) ak_1373 hj12 dX12_readStep_156 (Option.some.inj hs13) ?_
    refine g_goto (pc := 157) 186 dX12_readStep_157 rfl ?_
    exact am_sub [1, 2, 4, 0] rfl (q_X12_readStep_186 hX n rc hrc v1 v3 (σ.1 12 0 55) s13 hf hk)
  replace hf := am_ifF c10 hf
  refine g_iload_n (pc := 160) 3 rfl dX12_readStep_160 rfl ?_
  refine g_iconst (pc := 161) (v := 1) dX12_readStep_161 (by decide) ?_
  refine bi_eq (pc := 162) 170 dX12_readStep_162 rfl (fun c14 => ?_) (fun c14 => ?_)
  · replace hf := am_ifT c14 hf
    exact am_sub [1, 2, 3, 4, 0] rfl (q_X12_readStep_170 hX n rc hrc v1 v2 v3 (σ.1 12 0 55) p5 hf hk)
  replace hf := am_ifF c14 hf
  refine g_iload_n (pc := 165) 3 rfl dX12_readStep_165 rfl ?_
  refine g_iconst (pc := 166) (v := 5) dX12_readStep_166 (by decide) ?_
  refine bi_ne (pc := 167) 186 dX12_readStep_167 rfl (fun c15 => ?_) (fun c15 => ?_)
  · replace hf := am_ifT c15 hf
    exact am_sub [1, 2, 3, 4, 0] rfl (q_X12_readStep_170 hX n rc hrc v1 v2 v3 (σ.1 12 0 55) p5 hf hk)
  replace hf := am_ifF c15 hf
  exact am_sub [1, 2, 4, 0] rfl (q_X12_readStep_186 hX n rc hrc v1 v3 (σ.1 12 0 55) p5 hf hk)
noncomputable def f_X12_readStep_54 (rc : Int32 → am_H → Option (am_H)) (v1 : Int32) (v2 : Int32) (v3 : Bool) (σ : am_H) : Option (am_H) :=
  if (σ.1 12 0 12) = 0 then
   (if (σ.1 12 0 55) = 40 then
    ((f_X12_fail 6 (σ.1 12 0 15) σ).bind fun p3 =>
    f_X12_readStep_80 rc v1 v2 v3 p3)
   else
   f_X12_readStep_80 rc v1 v2 v3 σ)
  else
  f_X12_readStep_80 rc v1 v2 v3 σ
set_option maxRecDepth 100000 in
set_option maxHeartbeats 4000000 in
theorem q_X12_readStep_54 {X : am_X} (hX : am_ks X = am_ksM) {Q : Option Value → am_H → Prop} (n : Nat) (rc : Int32 → am_H → Option (am_H)) (hrc : ∀ (v1 : Int32) (σ : am_H) (o : am_H), rc v1 σ = some o → am_C X (gm_X12_readStep n) [.ref (am_ad X 12 0), .int v1] σ (am_is none o)) (v1 : Int32) (v2 : Int32) (v3 : Bool) (σ : am_H) {o : am_H} (hf : f_X12_readStep_54 rc v1 v2 v3 σ = some o) (hk : Q none o) : am_G X (gm_X12_readStep (n + 1)) Q 54 [(0, .ref (am_ad X 12 0)), (1, .int v1), (2, .int v2), (3, .int (am_b v3))] [] σ := by
  unfold f_X12_readStep_54 at hf
  refine g_aload_n (pc := 54) 0 rfl dX12_readStep_54 rfl ?_
  refine g_getI (pc := 55) (in_12 hX (by omega)) fr_X12_223 dX12_readStep_55 ?_
  refine bz_ne (pc := 58) 80 dX12_readStep_58 rfl (fun c1 => ?_) (fun c1 => ?_)
  · replace hf := am_ifT c1 hf
    refine g_aload_n (pc := 61) 0 rfl dX12_readStep_61 rfl ?_
    refine g_getI (pc := 62) (in_12 hX (by omega)) fr_X12_579 dX12_readStep_62 ?_
    refine g_bipush (pc := 65) (v := 40) dX12_readStep_65 (by decide) ?_
    refine bi_ne (pc := 67) 80 dX12_readStep_67 rfl (fun c2 => ?_) (fun c2 => ?_)
    · replace hf := am_ifT c2 hf
      refine g_aload_n (pc := 70) 0 rfl dX12_readStep_70 rfl ?_
      refine g_bipush (pc := 71) (v := 6) dX12_readStep_71 (by decide) ?_
      refine g_aload_n (pc := 73) 0 rfl dX12_readStep_73 rfl ?_
      refine g_getI (pc := 74) (in_12 hX (by omega)) fr_X12_161 dX12_readStep_74 ?_
      obtain ⟨p3, hp3, hf⟩ := am_bd hf
      refine g_cV (pc := 77) (As := [.int 6, .int (σ.1 12 0 15)]) (st := []) (st1 := []) (in_12 hX (by omega)) kk_12 mV_X12_fail ln_X12_229 rfl (by first | exact Nat.le_of_ble_eq_true rfl | (show _ + 1 ≤ _; simp only []; omega)) (Nat.le_of_ble_eq_true rfl) (k_X12_fail hX 6 (σ.1 12 0 15) σ hp3) dX12_readStep_77 rfl rfl ?_
      exact q_X12_readStep_80 hX n rc hrc v1 v2 v3 p3 hf hk
    replace hf := am_ifF c2 hf
    exact q_X12_readStep_80 hX n rc hrc v1 v2 v3 σ hf hk
  replace hf := am_ifF c1 hf
  exact q_X12_readStep_80 hX n rc hrc v1 v2 v3 σ hf hk
noncomputable def f_X12_readStep_28 (rc : Int32 → am_H → Option (am_H)) (v1 : Int32) (v2 : Int32) (k0 : Bool) (σ : am_H) : Option (am_H) :=
  if (σ.1 12 0 12) = 0 then
   (if k0 = true then
    (if v1 = 3 then
     ((f_X12_fail 5 (σ.1 12 0 15) σ).bind fun p4 =>
     f_X12_readStep_54 rc v1 v2 k0 p4)
    else
    f_X12_readStep_54 rc v1 v2 k0 σ)
   else
   f_X12_readStep_54 rc v1 v2 k0 σ)
  else
  f_X12_readStep_54 rc v1 v2 k0 σ
set_option maxRecDepth 100000 in
set_option maxHeartbeats 4000000 in
theorem q_X12_readStep_28 {X : am_X} (hX : am_ks X = am_ksM) {Q : Option Value → am_H → Prop} (n : Nat) (rc : Int32 → am_H → Option (am_H)) (hrc : ∀ (v1 : Int32) (σ : am_H) (o : am_H), rc v1 σ = some o → am_C X (gm_X12_readStep n) [.ref (am_ad X 12 0), .int v1] σ (am_is none o)) (v1 : Int32) (v2 : Int32) (k0 : Bool) (σ : am_H) {o : am_H} (hf : f_X12_readStep_28 rc v1 v2 k0 σ = some o) (hk : Q none o) : am_G X (gm_X12_readStep (n + 1)) Q 28 [(0, .ref (am_ad X 12 0)), (1, .int v1), (2, .int v2)] [.int (am_b k0)] σ := by
  unfold f_X12_readStep_28 at hf
  refine g_istore_n (pc := 28) [(3, .int (am_b k0)), (0, .ref (am_ad X 12 0)), (1, .int v1), (2, .int v2)] dX12_readStep_28 rfl (Nat.le_of_ble_eq_true rfl) rfl ?_
  refine g_aload_n (pc := 29) 1 rfl dX12_readStep_29 rfl ?_
  refine g_getI (pc := 30) (in_12 hX (by omega)) fr_X12_223 dX12_readStep_30 ?_
  refine bz_ne (pc := 33) 54 dX12_readStep_33 rfl (fun c1 => ?_) (fun c1 => ?_)
  · replace hf := am_ifT c1 hf
    refine g_iload_n (pc := 36) 0 rfl dX12_readStep_36 rfl ?_
    refine bt_eq (pc := 37) 54 dX12_readStep_37 rfl (fun c2 => ?_) (fun c2 => ?_)
    · replace hf := am_ifT c2 hf
      refine g_iload_n (pc := 40) 2 rfl dX12_readStep_40 rfl ?_
      refine g_iconst (pc := 41) (v := 3) dX12_readStep_41 (by decide) ?_
      refine bi_ne (pc := 42) 54 dX12_readStep_42 rfl (fun c3 => ?_) (fun c3 => ?_)
      · replace hf := am_ifT c3 hf
        refine g_aload_n (pc := 45) 1 rfl dX12_readStep_45 rfl ?_
        refine g_iconst (pc := 46) (v := 5) dX12_readStep_46 (by decide) ?_
        refine g_aload_n (pc := 47) 1 rfl dX12_readStep_47 rfl ?_
        refine g_getI (pc := 48) (in_12 hX (by omega)) fr_X12_161 dX12_readStep_48 ?_
        obtain ⟨p4, hp4, hf⟩ := am_bd hf
        refine g_cV (pc := 51) (As := [.int 5, .int (σ.1 12 0 15)]) (st := []) (st1 := []) (in_12 hX (by omega)) kk_12 mV_X12_fail ln_X12_229 rfl (by first | exact Nat.le_of_ble_eq_true rfl | (show _ + 1 ≤ _; simp only []; omega)) (Nat.le_of_ble_eq_true rfl) (k_X12_fail hX 5 (σ.1 12 0 15) σ hp4) dX12_readStep_51 rfl rfl ?_
        exact am_sub [1, 2, 3, 0] rfl (q_X12_readStep_54 hX n rc hrc v1 v2 k0 p4 hf hk)
      replace hf := am_ifF c3 hf
      exact am_sub [1, 2, 3, 0] rfl (q_X12_readStep_54 hX n rc hrc v1 v2 k0 σ hf hk)
    replace hf := am_ifF c2 hf
    exact am_sub [1, 2, 3, 0] rfl (q_X12_readStep_54 hX n rc hrc v1 v2 k0 σ hf hk)
  replace hf := am_ifF c1 hf
  exact am_sub [1, 2, 3, 0] rfl (q_X12_readStep_54 hX n rc hrc v1 v2 k0 σ hf hk)
noncomputable def f_X12_readStep_13 (rc : Int32 → am_H → Option (am_H)) (v1 : Int32) (v2 : Int32) (σ : am_H) : Option (am_H) :=
  if v2 = 4 then
   (f_X12_readStep_28 rc v1 v2 true σ)
  else
  if v2 = 5 then
   (f_X12_readStep_28 rc v1 v2 true σ)
  else
  f_X12_readStep_28 rc v1 v2 false σ
set_option maxRecDepth 100000 in
set_option maxHeartbeats 4000000 in
theorem q_X12_readStep_13 {X : am_X} (hX : am_ks X = am_ksM) {Q : Option Value → am_H → Prop} (n : Nat) (rc : Int32 → am_H → Option (am_H)) (hrc : ∀ (v1 : Int32) (σ : am_H) (o : am_H), rc v1 σ = some o → am_C X (gm_X12_readStep n) [.ref (am_ad X 12 0), .int v1] σ (am_is none o)) (v1 : Int32) (v2 : Int32) (σ : am_H) {o : am_H} (hf : f_X12_readStep_13 rc v1 v2 σ = some o) (hk : Q none o) : am_G X (gm_X12_readStep (n + 1)) Q 13 [(0, .ref (am_ad X 12 0)), (1, .int v1), (2, .int v2)] [] σ := by
  unfold f_X12_readStep_13 at hf
  refine g_iload_n (pc := 13) 2 rfl dX12_readStep_13 rfl ?_
  refine g_iconst (pc := 14) (v := 4) dX12_readStep_14 (by decide) ?_
  refine bi_eq (pc := 15) 23 dX12_readStep_15 rfl (fun c1 => ?_) (fun c1 => ?_)
  · replace hf := am_ifT c1 hf
    refine g_iconst (pc := 23) (v := 1) dX12_readStep_23 (by decide) ?_
    refine g_goto (pc := 24) 28 dX12_readStep_24 rfl ?_
    exact q_X12_readStep_28 hX n rc hrc v1 v2 true σ hf hk
  replace hf := am_ifF c1 hf
  refine g_iload_n (pc := 18) 2 rfl dX12_readStep_18 rfl ?_
  refine g_iconst (pc := 19) (v := 5) dX12_readStep_19 (by decide) ?_
  refine bi_ne (pc := 20) 27 dX12_readStep_20 rfl (fun c2 => ?_) (fun c2 => ?_)
  · replace hf := am_ifT c2 hf
    refine g_iconst (pc := 23) (v := 1) dX12_readStep_23 (by decide) ?_
    refine g_goto (pc := 24) 28 dX12_readStep_24 rfl ?_
    exact q_X12_readStep_28 hX n rc hrc v1 v2 true σ hf hk
  replace hf := am_ifF c2 hf
  refine g_iconst (pc := 27) (v := 0) dX12_readStep_27 (by decide) ?_
  exact q_X12_readStep_28 hX n rc hrc v1 v2 false σ hf hk
noncomputable def f_X12_readStep_0 (rc : Int32 → am_H → Option (am_H)) (v1 : Int32) (σ : am_H) : Option (am_H) :=
  (f_X12_stepWord σ).bind fun p1 =>
  if p1 < 0 then
   ((f_X12_wrong σ).bind fun p3 =>
   f_X12_readStep_13 rc v1 p1 p3)
  else
  f_X12_readStep_13 rc v1 p1 σ
set_option maxRecDepth 100000 in
set_option maxHeartbeats 4000000 in
theorem q_X12_readStep_0 {X : am_X} (hX : am_ks X = am_ksM) {Q : Option Value → am_H → Prop} (n : Nat) (rc : Int32 → am_H → Option (am_H)) (hrc : ∀ (v1 : Int32) (σ : am_H) (o : am_H), rc v1 σ = some o → am_C X (gm_X12_readStep n) [.ref (am_ad X 12 0), .int v1] σ (am_is none o)) (v1 : Int32) (σ : am_H) {o : am_H} (hf : f_X12_readStep_0 rc v1 σ = some o) (hk : Q none o) : am_G X (gm_X12_readStep (n + 1)) Q 0 [(0, .ref (am_ad X 12 0)), (1, .int v1)] [] σ := by
  unfold f_X12_readStep_0 at hf
  refine g_aload_n (pc := 0) 0 rfl dX12_readStep_0 rfl ?_
  obtain ⟨p1, hp1, hf⟩ := am_bd hf
  refine g_cV (pc := 1) (As := []) (st := []) (st1 := [.int p1]) (in_12 hX (by omega)) kk_12 mV_X12_stepWord ln_X12_576 rfl (by first | exact Nat.le_of_ble_eq_true rfl | (show _ + 1 ≤ _; simp only []; omega)) (Nat.le_of_ble_eq_true rfl) (k_X12_stepWord hX σ hp1) dX12_readStep_1 rfl rfl ?_
  refine g_istore_n (pc := 4) [(2, .int p1), (0, .ref (am_ad X 12 0)), (1, .int v1)] dX12_readStep_4 rfl (Nat.le_of_ble_eq_true rfl) rfl ?_
  refine g_iload_n (pc := 5) 0 rfl dX12_readStep_5 rfl ?_
  refine bz_ge (pc := 6) 13 dX12_readStep_6 rfl (fun c2 => ?_) (fun c2 => ?_)
  · replace hf := am_ifT c2 hf
    refine g_aload_n (pc := 9) 1 rfl dX12_readStep_9 rfl ?_
    obtain ⟨p3, hp3, hf⟩ := am_bd hf
    refine g_cV (pc := 10) (As := []) (st := []) (st1 := []) (in_12 hX (by omega)) kk_12 mV_X12_wrong ln_X12_236 rfl (by first | exact Nat.le_of_ble_eq_true rfl | (show _ + 1 ≤ _; simp only []; omega)) (Nat.le_of_ble_eq_true rfl) (k_X12_wrong hX σ hp3) dX12_readStep_10 rfl rfl ?_
    exact am_sub [1, 2, 0] rfl (q_X12_readStep_13 hX n rc hrc v1 p1 p3 hf hk)
  replace hf := am_ifF c2 hf
  exact am_sub [1, 2, 0] rfl (q_X12_readStep_13 hX n rc hrc v1 p1 σ hf hk)
noncomputable def f_X12_readStep : Nat → Int32 → am_H → Option (am_H)
  | 0 => fun _ _ => none
  | n + 1 => fun v1 σ => f_X12_readStep_0 (f_X12_readStep n) v1 σ
theorem k_X12_readStep {X : am_X} (hX : am_ks X = am_ksM) (n : Nat) : ∀ (v1 : Int32) (σ : am_H) {o : am_H}, f_X12_readStep n v1 σ = some o → am_C X (gm_X12_readStep n) [.ref (am_ad X 12 0), .int v1] σ (am_is none o) := by
  induction n with
  | zero => intro v1 σ o hf; exact absurd hf (by simp [f_X12_readStep])
  | succ n ih =>
    intro v1 σ o hf
    exact am_ofG rfl (Nat.le_of_ble_eq_true rfl) rfl (q_X12_readStep_0 hX n (f_X12_readStep n) (fun v1 σ o h => ih v1 σ h) v1 σ hf ⟨rfl, rfl⟩)
