theorem dX3_readsTrain_0 : decode cX3_readsTrain 0 = .ok (.iconst 0, 1) := by decide +kernel
theorem dX3_readsTrain_1 : decode cX3_readsTrain 1 = .ok (.istore_n 2, 1) := by decide +kernel
theorem dX3_readsTrain_2 : decode cX3_readsTrain 2 = .ok (.iload_n 2, 1) := by decide +kernel
theorem dX3_readsTrain_3 : decode cX3_readsTrain 3 = .ok (.iconst 4, 1) := by decide +kernel
theorem dX3_readsTrain_4 : decode cX3_readsTrain 4 = .ok (.if_icmp .ge 60, 3) := by decide +kernel
theorem dX3_readsTrain_7 : decode cX3_readsTrain 7 = .ok (.iload_n 2, 1) := by decide +kernel
theorem dX3_readsTrain_8 : decode cX3_readsTrain 8 = .ok (.iconst 2, 1) := by decide +kernel
theorem dX3_readsTrain_9 : decode cX3_readsTrain 9 = .ok (.if_icmp .ne 13, 3) := by decide +kernel
theorem dX3_readsTrain_12 : decode cX3_readsTrain 12 = .ok (.aload_n 0, 1) := by decide +kernel
theorem dX3_readsTrain_13 : decode cX3_readsTrain 13 = .ok (.invokevirtual 146, 3) := by decide +kernel
theorem dX3_readsTrain_16 : decode cX3_readsTrain 16 = .ok (.ifCond .ne 6, 3) := by decide +kernel
theorem dX3_readsTrain_19 : decode cX3_readsTrain 19 = .ok (.goto 45, 3) := by decide +kernel
theorem dX3_readsTrain_22 : decode cX3_readsTrain 22 = .ok (.aload_n 0, 1) := by decide +kernel
theorem dX3_readsTrain_23 : decode cX3_readsTrain 23 = .ok (.iconst 5, 1) := by decide +kernel
theorem dX3_readsTrain_24 : decode cX3_readsTrain 24 = .ok (.sipush 200, 3) := by decide +kernel
theorem dX3_readsTrain_27 : decode cX3_readsTrain 27 = .ok (.invokevirtual 108, 3) := by decide +kernel
theorem dX3_readsTrain_30 : decode cX3_readsTrain 30 = .ok (.ifCond .ne 5, 3) := by decide +kernel
theorem dX3_readsTrain_33 : decode cX3_readsTrain 33 = .ok (.iconst 0, 1) := by decide +kernel
theorem dX3_readsTrain_34 : decode cX3_readsTrain 34 = .ok (.ireturn, 1) := by decide +kernel
theorem dX3_readsTrain_35 : decode cX3_readsTrain 35 = .ok (.aload_n 1, 1) := by decide +kernel
theorem dX3_readsTrain_36 : decode cX3_readsTrain 36 = .ok (.getfield 149, 3) := by decide +kernel
theorem dX3_readsTrain_39 : decode cX3_readsTrain 39 = .ok (.iload_n 2, 1) := by decide +kernel
theorem dX3_readsTrain_40 : decode cX3_readsTrain 40 = .ok (.aload_n 0, 1) := by decide +kernel
theorem dX3_readsTrain_41 : decode cX3_readsTrain 41 = .ok (.getfield 112, 3) := by decide +kernel
theorem dX3_readsTrain_44 : decode cX3_readsTrain 44 = .ok (.iastore, 1) := by decide +kernel
theorem dX3_readsTrain_45 : decode cX3_readsTrain 45 = .ok (.aload_n 1, 1) := by decide +kernel
theorem dX3_readsTrain_46 : decode cX3_readsTrain 46 = .ok (.iload_n 2, 1) := by decide +kernel
theorem dX3_readsTrain_47 : decode cX3_readsTrain 47 = .ok (.iconst 2, 1) := by decide +kernel
theorem dX3_readsTrain_48 : decode cX3_readsTrain 48 = .ok (.idiv, 1) := by decide +kernel
theorem dX3_readsTrain_49 : decode cX3_readsTrain 49 = .ok (.iconst 1, 1) := by decide +kernel
theorem dX3_readsTrain_50 : decode cX3_readsTrain 50 = .ok (.iadd, 1) := by decide +kernel
theorem dX3_readsTrain_51 : decode cX3_readsTrain 51 = .ok (.putfield 152, 3) := by decide +kernel
theorem dX3_readsTrain_54 : decode cX3_readsTrain 54 = .ok (.aload_n 0, 1) := by decide +kernel
theorem dX3_readsTrain_55 : decode cX3_readsTrain 55 = .ok (.invokevirtual 74, 3) := by decide +kernel
theorem dX3_readsTrain_58 : decode cX3_readsTrain 58 = .ok (.iinc 2 1, 3) := by decide +kernel
theorem dX3_readsTrain_61 : decode cX3_readsTrain 61 = .ok (.goto (-59), 3) := by decide +kernel
theorem dX3_readsTrain_64 : decode cX3_readsTrain 64 = .ok (.aload_n 1, 1) := by decide +kernel
theorem dX3_readsTrain_65 : decode cX3_readsTrain 65 = .ok (.invokevirtual 155, 3) := by decide +kernel
theorem dX3_readsTrain_68 : decode cX3_readsTrain 68 = .ok (.iconst 1, 1) := by decide +kernel
theorem dX3_readsTrain_69 : decode cX3_readsTrain 69 = .ok (.ireturn, 1) := by decide +kernel
noncomputable def f_X3_readsTrain_22 (r1 : Nat) (v2 : Int32) (σ : am_H) : Option ((Int32 × am_H) ⊕ ((am_H) ⊕ ((am_H) ⊕ (am_H)))) :=
  (f_X5_standsNumber 5 200 σ).bind fun p1 =>
  if p1.1 = true then
   ((am_ix 4 v2).bind fun j3 =>
   (some (am_wI p1.2 1106 r1 j3 (p1.2.1 5 0 6))).bind fun s4 =>
   (some (am_wI s4 10 r1 5 ((v2 / 2) + 1))).bind fun s5 =>
   (f_X5_advance s5).bind fun p6 =>
   some (.inl ((v2 + 1), p6)))
  else
  some (.inr (.inr (.inl p1.2)))
set_option maxRecDepth 100000 in
set_option maxHeartbeats 4000000 in
theorem q_X3_readsTrain_22 {X : am_X} (hX : am_wC X) {Q : Option Value → am_H → Prop} (r1 : Nat) (v2 : Int32) (hr1 : r1 < 18) (σ : am_H) {o : (Int32 × am_H) ⊕ ((am_H) ⊕ ((am_H) ⊕ (am_H)))} (hf : f_X3_readsTrain_22 r1 v2 σ = some o) (hk0 : ∀ s, o = .inl s → am_G X gm_X3_readsTrain Q 2 [(0, .ref (am_ad X 5 0)), (1, .ref (am_ad X 10 r1)), (2, .int s.1)] [] s.2) (hk1 : ∀ t, o = .inr (.inl t) → am_G X gm_X3_readsTrain Q 19 [(1, .ref (am_ad X 10 r1))] [] t) (hk2 : ∀ t, o = .inr (.inr (.inl t)) → am_G X gm_X3_readsTrain Q 33 [] [] t) (hk3 : ∀ t, o = .inr (.inr (.inr t)) → am_G X gm_X3_readsTrain Q 64 [(1, .ref (am_ad X 10 r1))] [] t) : am_G X gm_X3_readsTrain Q 22 [(0, .ref (am_ad X 5 0)), (1, .ref (am_ad X 10 r1)), (2, .int v2)] [] σ := by
  unfold f_X3_readsTrain_22 at hf
  refine g_aload_n (pc := 22) 0 rfl dX3_readsTrain_22 rfl ?_
  refine g_iconst (pc := 23) (v := 5) dX3_readsTrain_23 (by decide) ?_
  refine g_sipush (pc := 24) (v := 200) dX3_readsTrain_24 (by decide) ?_
  obtain ⟨p1, hp1, hf⟩ := am_bd hf
  refine g_cV (pc := 27) (As := [.int 5, .int 200]) (st := []) (st1 := [.int (am_b p1.1)]) (in_5 hX.1 (by omega)) kk_5 mV_X5_standsNumber ln_X3_108 rfl (Nat.le_of_ble_eq_true rfl) (Nat.le_of_ble_eq_true rfl) (k_X5_standsNumber hX 5 200 σ hp1) dX3_readsTrain_27 rfl rfl ?_
  refine bt_ne (pc := 30) 35 dX3_readsTrain_30 rfl (fun c2 => ?_) (fun c2 => ?_)
  · replace hf := am_ifT c2 hf
    refine g_aload_n (pc := 35) 1 rfl dX3_readsTrain_35 rfl ?_
    refine g_getC (pc := 36) (e := r1) (in_10 hX.1 (by omega)) fr_X3_149 dX3_readsTrain_36 rfl ?_
    refine g_iload_n (pc := 39) 2 rfl dX3_readsTrain_39 rfl ?_
    refine g_aload_n (pc := 40) 0 rfl dX3_readsTrain_40 rfl ?_
    refine g_getI (pc := 41) (in_5 hX.1 (by omega)) fr_X3_112 dX3_readsTrain_41 ?_
    obtain ⟨j3, hj3, hf⟩ := am_bd hf
    have gj3 := am_ix_lt hj3
    obtain ⟨s4, hs4, hf⟩ := am_bd hf
    refine g_sI (pc := 44) (in_1106 hX.1 (by omega)) ak_1106 hj3 dX3_readsTrain_44 (Option.some.inj hs4) ?_
    refine g_aload_n (pc := 45) 1 rfl dX3_readsTrain_45 rfl ?_
    refine g_iload_n (pc := 46) 2 rfl dX3_readsTrain_46 rfl ?_
    refine g_iconst (pc := 47) (v := 2) dX3_readsTrain_47 (by decide) ?_
    refine g_idiv (pc := 48) dX3_readsTrain_48 (by decide) ?_
    refine g_iconst (pc := 49) (v := 1) dX3_readsTrain_49 (by decide) ?_
    refine g_iadd (pc := 50) dX3_readsTrain_50 ?_
    obtain ⟨s5, hs5, hf⟩ := am_bd hf
    refine g_setI (pc := 51) (in_10 hX.1 (by omega)) fr_X3_152 dX3_readsTrain_51 (Option.some.inj hs5) ?_
    refine g_aload_n (pc := 54) 0 rfl dX3_readsTrain_54 rfl ?_
    obtain ⟨p6, hp6, hf⟩ := am_bd hf
    refine g_cV (pc := 55) (As := []) (st := []) (st1 := []) (in_5 hX.1 (by omega)) kk_5 mV_X5_advance ln_X3_74 rfl (Nat.le_of_ble_eq_true rfl) (Nat.le_of_ble_eq_true rfl) (k_X5_advance hX s5 hp6) dX3_readsTrain_55 rfl rfl ?_
    refine g_iinc (pc := 58) (v := (v2 + 1)) 2 [(2, .int (v2 + 1)), (0, .ref (am_ad X 5 0)), (1, .ref (am_ad X 10 r1))] dX3_readsTrain_58 rfl rfl (Nat.le_of_ble_eq_true rfl) rfl ?_
    refine g_goto (pc := 61) 2 dX3_readsTrain_61 rfl ?_
    have hz := hk0 _ (Option.some.inj hf).symm
    exact am_sub [1, 2, 0] rfl hz
  replace hf := am_ifF c2 hf
  have hz := hk2 _ (Option.some.inj hf).symm
  exact am_sub [] rfl hz
noncomputable def f_X3_readsTrain_2 (r1 : Nat) (v2 : Int32) (σ : am_H) : Option ((Int32 × am_H) ⊕ ((am_H) ⊕ ((am_H) ⊕ (am_H)))) :=
  if v2 < 4 then
   (if v2 = 2 then
    ((f_X5_isNumber σ).bind fun p3 =>
    if p3 = true then
     (f_X3_readsTrain_22 r1 v2 σ)
    else
    some (.inr (.inl σ)))
   else
   f_X3_readsTrain_22 r1 v2 σ)
  else
  some (.inr (.inr (.inr σ)))
set_option maxRecDepth 100000 in
set_option maxHeartbeats 4000000 in
theorem q_X3_readsTrain_2 {X : am_X} (hX : am_wC X) {Q : Option Value → am_H → Prop} (r1 : Nat) (v2 : Int32) (hr1 : r1 < 18) (σ : am_H) {o : (Int32 × am_H) ⊕ ((am_H) ⊕ ((am_H) ⊕ (am_H)))} (hf : f_X3_readsTrain_2 r1 v2 σ = some o) (hk0 : ∀ s, o = .inl s → am_G X gm_X3_readsTrain Q 2 [(0, .ref (am_ad X 5 0)), (1, .ref (am_ad X 10 r1)), (2, .int s.1)] [] s.2) (hk1 : ∀ t, o = .inr (.inl t) → am_G X gm_X3_readsTrain Q 19 [(1, .ref (am_ad X 10 r1))] [] t) (hk2 : ∀ t, o = .inr (.inr (.inl t)) → am_G X gm_X3_readsTrain Q 33 [] [] t) (hk3 : ∀ t, o = .inr (.inr (.inr t)) → am_G X gm_X3_readsTrain Q 64 [(1, .ref (am_ad X 10 r1))] [] t) : am_G X gm_X3_readsTrain Q 2 [(0, .ref (am_ad X 5 0)), (1, .ref (am_ad X 10 r1)), (2, .int v2)] [] σ := by
  unfold f_X3_readsTrain_2 at hf
  refine g_iload_n (pc := 2) 2 rfl dX3_readsTrain_2 rfl ?_
  refine g_iconst (pc := 3) (v := 4) dX3_readsTrain_3 (by decide) ?_
  refine bi_ge (pc := 4) 64 dX3_readsTrain_4 rfl (fun c1 => ?_) (fun c1 => ?_)
  · replace hf := am_ifT c1 hf
    refine g_iload_n (pc := 7) 2 rfl dX3_readsTrain_7 rfl ?_
    refine g_iconst (pc := 8) (v := 2) dX3_readsTrain_8 (by decide) ?_
    refine bi_ne (pc := 9) 22 dX3_readsTrain_9 rfl (fun c2 => ?_) (fun c2 => ?_)
    · replace hf := am_ifT c2 hf
      refine g_aload_n (pc := 12) 0 rfl dX3_readsTrain_12 rfl ?_
      obtain ⟨p3, hp3, hf⟩ := am_bd hf
      refine g_cV (pc := 13) (As := []) (st := []) (st1 := [.int (am_b p3)]) (in_5 hX.1 (by omega)) kk_5 mV_X5_isNumber ln_X3_146 rfl (Nat.le_of_ble_eq_true rfl) (Nat.le_of_ble_eq_true rfl) (k_X5_isNumber hX σ hp3) dX3_readsTrain_13 rfl rfl ?_
      refine bt_ne (pc := 16) 22 dX3_readsTrain_16 rfl (fun c4 => ?_) (fun c4 => ?_)
      · replace hf := am_ifT c4 hf
        exact q_X3_readsTrain_22 hX r1 v2 (by omega) σ hf hk0 hk1 hk2 hk3
      replace hf := am_ifF c4 hf
      have hz := hk1 _ (Option.some.inj hf).symm
      exact am_sub [1] rfl hz
    replace hf := am_ifF c2 hf
    exact q_X3_readsTrain_22 hX r1 v2 (by omega) σ hf hk0 hk1 hk2 hk3
  replace hf := am_ifF c1 hf
  have hz := hk3 _ (Option.some.inj hf).symm
  exact am_sub [1] rfl hz
set_option maxRecDepth 100000 in
set_option maxHeartbeats 4000000 in
theorem l_X3_readsTrain_2 {X : am_X} (hX : am_wC X) {Q : Option Value → am_H → Prop} (r1 : Nat) (hr1 : r1 < 18) (σ : am_H) (s : Int32 × am_H) {o : (am_H) ⊕ ((am_H) ⊕ (am_H))} (hf : am_loop (fun s => f_X3_readsTrain_2 r1 s.1 s.2) s = some o) (hk1 : ∀ t, o = (.inl t) → am_G X gm_X3_readsTrain Q 19 [(1, .ref (am_ad X 10 r1))] [] t) (hk2 : ∀ t, o = (.inr (.inl t)) → am_G X gm_X3_readsTrain Q 33 [] [] t) (hk3 : ∀ t, o = (.inr (.inr t)) → am_G X gm_X3_readsTrain Q 64 [(1, .ref (am_ad X 10 r1))] [] t) : am_G X gm_X3_readsTrain Q 2 [(0, .ref (am_ad X 5 0)), (1, .ref (am_ad X 10 r1)), (2, .int s.1)] [] s.2 := by
  refine am_loop_ind (P := fun s => am_G X gm_X3_readsTrain Q 2 [(0, .ref (am_ad X 5 0)), (1, .ref (am_ad X 10 r1)), (2, .int s.1)] [] s.2) (K := fun r => r = o) ?_ hf rfl
  intro s o1 hb hi hr
  exact q_X3_readsTrain_2 hX r1 s.1  hr1 s.2 hb hi (fun t e => hk1 t (hr _ e).symm) (fun t e => hk2 t (hr _ e).symm) (fun t e => hk3 t (hr _ e).symm)
noncomputable def f_X3_readsTrain_64 (r1 : Nat) (σ : am_H) : Option (Bool × am_H) :=
  (f_X10_multiplyTeeth r1 σ).bind fun p1 =>
  some (true, p1)
set_option maxRecDepth 100000 in
set_option maxHeartbeats 4000000 in
theorem q_X3_readsTrain_64 {X : am_X} (hX : am_wC X) {Q : Option Value → am_H → Prop} (r1 : Nat) (hr1 : r1 < 18) (σ : am_H) {o : Bool × am_H} (hf : f_X3_readsTrain_64 r1 σ = some o) (hk : Q (some (.int (am_b o.1))) o.2) : am_G X gm_X3_readsTrain Q 64 [(1, .ref (am_ad X 10 r1))] [] σ := by
  unfold f_X3_readsTrain_64 at hf
  refine g_aload_n (pc := 64) 0 rfl dX3_readsTrain_64 rfl ?_
  obtain ⟨p1, hp1, hf⟩ := am_bd hf
  refine g_cV (pc := 65) (As := []) (st := []) (st1 := []) (in_10 hX.1 (by omega)) kk_10 mV_X10_multiplyTeeth ln_X3_155 rfl (Nat.le_of_ble_eq_true rfl) (Nat.le_of_ble_eq_true rfl) (k_X10_multiplyTeeth hX r1 (by omega) σ hp1) dX3_readsTrain_65 rfl rfl ?_
  refine g_iconst (pc := 68) (v := 1) dX3_readsTrain_68 (by decide) ?_
  have ho := Option.some.inj hf
  subst ho
  exact g_zreturn (pc := 69) (st := []) (x := true) rfl dX3_readsTrain_69 hk
noncomputable def f_X3_readsTrain (r1 : Nat) (σ : am_H) : Option (Bool × am_H) :=
  (am_loop (fun s => f_X3_readsTrain_2 r1 s.1 s.2) (0, σ)).bind fun w1 =>
  Sum.elim (fun t1_0 =>
   f_X3_readsTrain_64 r1 t1_0) (fun u1_0 =>
   Sum.elim (fun t1_1 =>
    some (false, t1_1)) (fun u1_1 =>
    f_X3_readsTrain_64 r1 u1_1) u1_0) w1
set_option maxRecDepth 100000 in
set_option maxHeartbeats 4000000 in
theorem q_X3_readsTrain {X : am_X} (hX : am_wC X) {Q : Option Value → am_H → Prop} (r1 : Nat) (hr1 : r1 < 18) (σ : am_H) {o : Bool × am_H} (hf : f_X3_readsTrain r1 σ = some o) (hk : Q (some (.int (am_b o.1))) o.2) : am_G X gm_X3_readsTrain Q 0 [(0, .ref (am_ad X 5 0)), (1, .ref (am_ad X 10 r1))] [] σ := by
  unfold f_X3_readsTrain at hf
  refine g_iconst (pc := 0) (v := 0) dX3_readsTrain_0 (by decide) ?_
  refine g_istore_n (pc := 1) [(2, .int 0), (0, .ref (am_ad X 5 0)), (1, .ref (am_ad X 10 r1))] dX3_readsTrain_1 rfl (Nat.le_of_ble_eq_true rfl) rfl ?_
  obtain ⟨w1, hw1, hf⟩ := am_bd hf
  refine am_sub [1, 2, 0] rfl (l_X3_readsTrain_2 hX r1 (by omega) σ (0, σ) hw1 ?_ ?_ ?_)
  · intro t1_0 e
    subst e
    replace hf := am_elL hf
    refine g_goto (pc := 19) 64 dX3_readsTrain_19 rfl ?_
    exact q_X3_readsTrain_64 hX r1 (by omega) t1_0 hf hk
  · intro t1_1 e
    subst e
    replace hf := am_elR hf
    replace hf := am_elL hf
    refine g_iconst (pc := 33) (v := 0) dX3_readsTrain_33 (by decide) ?_
    have ho := Option.some.inj hf
    subst ho
    exact g_zreturn (pc := 34) (st := []) (x := false) rfl dX3_readsTrain_34 hk
  · intro u1_1 e
    subst e
    replace hf := am_elR hf
    replace hf := am_elR hf
    exact q_X3_readsTrain_64 hX r1 (by omega) u1_1 hf hk
theorem k_X3_readsTrain {X : am_X} (hX : am_wC X) (r1 : Nat) (hr1 : r1 < 18) (σ : am_H) {o : Bool × am_H} (hf : f_X3_readsTrain r1 σ = some o) : am_C X gm_X3_readsTrain [.ref (am_ad X 5 0), .ref (am_ad X 10 r1)] σ (am_is (some (.int (am_b o.1))) o.2) :=
  am_ofG rfl (Nat.le_of_ble_eq_true rfl) rfl (q_X3_readsTrain hX r1 hr1 σ hf ⟨rfl, rfl⟩)
theorem dX3_readsNumber_0 : decode cX3_readsNumber 0 = .ok (.aload_n 0, 1) := by decide +kernel
theorem dX3_readsNumber_1 : decode cX3_readsNumber 1 = .ok (.iconst 0, 1) := by decide +kernel
theorem dX3_readsNumber_2 : decode cX3_readsNumber 2 = .ok (.iload_n 2, 1) := by decide +kernel
theorem dX3_readsNumber_3 : decode cX3_readsNumber 3 = .ok (.iconst 1, 1) := by decide +kernel
theorem dX3_readsNumber_4 : decode cX3_readsNumber 4 = .ok (.if_icmp .ne 8, 3) := by decide +kernel
theorem dX3_readsNumber_7 : decode cX3_readsNumber 7 = .ok (.bipush 99, 2) := by decide +kernel
theorem dX3_readsNumber_9 : decode cX3_readsNumber 9 = .ok (.goto 5, 3) := by decide +kernel
theorem dX3_readsNumber_12 : decode cX3_readsNumber 12 = .ok (.bipush 23, 2) := by decide +kernel
theorem dX3_readsNumber_14 : decode cX3_readsNumber 14 = .ok (.invokevirtual 108, 3) := by decide +kernel
theorem dX3_readsNumber_17 : decode cX3_readsNumber 17 = .ok (.ifCond .ne 5, 3) := by decide +kernel
theorem dX3_readsNumber_20 : decode cX3_readsNumber 20 = .ok (.iconst 0, 1) := by decide +kernel
theorem dX3_readsNumber_21 : decode cX3_readsNumber 21 = .ok (.ireturn, 1) := by decide +kernel
theorem dX3_readsNumber_22 : decode cX3_readsNumber 22 = .ok (.iload_n 2, 1) := by decide +kernel
theorem dX3_readsNumber_23 : decode cX3_readsNumber 23 = .ok (.iconst 1, 1) := by decide +kernel
theorem dX3_readsNumber_24 : decode cX3_readsNumber 24 = .ok (.if_icmp .ne 14, 3) := by decide +kernel
theorem dX3_readsNumber_27 : decode cX3_readsNumber 27 = .ok (.aload_n 1, 1) := by decide +kernel
theorem dX3_readsNumber_28 : decode cX3_readsNumber 28 = .ok (.aload_n 0, 1) := by decide +kernel
theorem dX3_readsNumber_29 : decode cX3_readsNumber 29 = .ok (.getfield 112, 3) := by decide +kernel
theorem dX3_readsNumber_32 : decode cX3_readsNumber 32 = .ok (.putfield 142, 3) := by decide +kernel
theorem dX3_readsNumber_35 : decode cX3_readsNumber 35 = .ok (.goto 11, 3) := by decide +kernel
theorem dX3_readsNumber_38 : decode cX3_readsNumber 38 = .ok (.aload_n 1, 1) := by decide +kernel
theorem dX3_readsNumber_39 : decode cX3_readsNumber 39 = .ok (.aload_n 0, 1) := by decide +kernel
theorem dX3_readsNumber_40 : decode cX3_readsNumber 40 = .ok (.getfield 112, 3) := by decide +kernel
theorem dX3_readsNumber_43 : decode cX3_readsNumber 43 = .ok (.putfield 144, 3) := by decide +kernel
theorem dX3_readsNumber_46 : decode cX3_readsNumber 46 = .ok (.aload_n 0, 1) := by decide +kernel
theorem dX3_readsNumber_47 : decode cX3_readsNumber 47 = .ok (.invokevirtual 74, 3) := by decide +kernel
theorem dX3_readsNumber_50 : decode cX3_readsNumber 50 = .ok (.iconst 1, 1) := by decide +kernel
theorem dX3_readsNumber_51 : decode cX3_readsNumber 51 = .ok (.ireturn, 1) := by decide +kernel
noncomputable def f_X3_readsNumber_46 (σ : am_H) : Option (Bool × am_H) :=
  (f_X5_advance σ).bind fun p1 =>
  some (true, p1)
set_option maxRecDepth 100000 in
set_option maxHeartbeats 4000000 in
theorem q_X3_readsNumber_46 {X : am_X} (hX : am_wC X) {Q : Option Value → am_H → Prop} (σ : am_H) {o : Bool × am_H} (hf : f_X3_readsNumber_46 σ = some o) (hk : Q (some (.int (am_b o.1))) o.2) : am_G X gm_X3_readsNumber Q 46 [(0, .ref (am_ad X 5 0))] [] σ := by
  unfold f_X3_readsNumber_46 at hf
  refine g_aload_n (pc := 46) 0 rfl dX3_readsNumber_46 rfl ?_
  obtain ⟨p1, hp1, hf⟩ := am_bd hf
  refine g_cV (pc := 47) (As := []) (st := []) (st1 := []) (in_5 hX.1 (by omega)) kk_5 mV_X5_advance ln_X3_74 rfl (Nat.le_of_ble_eq_true rfl) (Nat.le_of_ble_eq_true rfl) (k_X5_advance hX σ hp1) dX3_readsNumber_47 rfl rfl ?_
  refine g_iconst (pc := 50) (v := 1) dX3_readsNumber_50 (by decide) ?_
  have ho := Option.some.inj hf
  subst ho
  exact g_zreturn (pc := 51) (st := []) (x := true) rfl dX3_readsNumber_51 hk
noncomputable def f_X3_readsNumber_14 (r1 : Nat) (v2 : Int32) (k2 : Int32) (σ : am_H) : Option (Bool × am_H) :=
  (f_X5_standsNumber 0 k2 σ).bind fun p1 =>
  if p1.1 = true then
   (if v2 = 1 then
    ((some (am_wI p1.2 10 r1 3 (p1.2.1 5 0 6))).bind fun s4 =>
    f_X3_readsNumber_46 s4)
   else
   (some (am_wI p1.2 10 r1 4 (p1.2.1 5 0 6))).bind fun s5 =>
   f_X3_readsNumber_46 s5)
  else
  some (false, p1.2)
set_option maxRecDepth 100000 in
set_option maxHeartbeats 4000000 in
theorem q_X3_readsNumber_14 {X : am_X} (hX : am_wC X) {Q : Option Value → am_H → Prop} (r1 : Nat) (v2 : Int32) (k2 : Int32) (hr1 : r1 < 18) (σ : am_H) {o : Bool × am_H} (hf : f_X3_readsNumber_14 r1 v2 k2 σ = some o) (hk : Q (some (.int (am_b o.1))) o.2) : am_G X gm_X3_readsNumber Q 14 [(0, .ref (am_ad X 5 0)), (1, .ref (am_ad X 10 r1)), (2, .int v2)] [.int k2, .int 0, .ref (am_ad X 5 0)] σ := by
  unfold f_X3_readsNumber_14 at hf
  obtain ⟨p1, hp1, hf⟩ := am_bd hf
  refine g_cV (pc := 14) (As := [.int 0, .int k2]) (st := []) (st1 := [.int (am_b p1.1)]) (in_5 hX.1 (by omega)) kk_5 mV_X5_standsNumber ln_X3_108 rfl (Nat.le_of_ble_eq_true rfl) (Nat.le_of_ble_eq_true rfl) (k_X5_standsNumber hX 0 k2 σ hp1) dX3_readsNumber_14 rfl rfl ?_
  refine bt_ne (pc := 17) 22 dX3_readsNumber_17 rfl (fun c2 => ?_) (fun c2 => ?_)
  · replace hf := am_ifT c2 hf
    refine g_iload_n (pc := 22) 2 rfl dX3_readsNumber_22 rfl ?_
    refine g_iconst (pc := 23) (v := 1) dX3_readsNumber_23 (by decide) ?_
    refine bi_ne (pc := 24) 38 dX3_readsNumber_24 rfl (fun c3 => ?_) (fun c3 => ?_)
    · replace hf := am_ifT c3 hf
      refine g_aload_n (pc := 27) 1 rfl dX3_readsNumber_27 rfl ?_
      refine g_aload_n (pc := 28) 0 rfl dX3_readsNumber_28 rfl ?_
      refine g_getI (pc := 29) (in_5 hX.1 (by omega)) fr_X3_112 dX3_readsNumber_29 ?_
      obtain ⟨s4, hs4, hf⟩ := am_bd hf
      refine g_setI (pc := 32) (in_10 hX.1 (by omega)) fr_X3_142 dX3_readsNumber_32 (Option.some.inj hs4) ?_
      refine g_goto (pc := 35) 46 dX3_readsNumber_35 rfl ?_
      exact am_sub [0] rfl (q_X3_readsNumber_46 hX s4 hf hk)
    replace hf := am_ifF c3 hf
    refine g_aload_n (pc := 38) 1 rfl dX3_readsNumber_38 rfl ?_
    refine g_aload_n (pc := 39) 0 rfl dX3_readsNumber_39 rfl ?_
    refine g_getI (pc := 40) (in_5 hX.1 (by omega)) fr_X3_112 dX3_readsNumber_40 ?_
    obtain ⟨s5, hs5, hf⟩ := am_bd hf
    refine g_setI (pc := 43) (in_10 hX.1 (by omega)) fr_X3_144 dX3_readsNumber_43 (Option.some.inj hs5) ?_
    exact am_sub [0] rfl (q_X3_readsNumber_46 hX s5 hf hk)
  replace hf := am_ifF c2 hf
  refine g_iconst (pc := 20) (v := 0) dX3_readsNumber_20 (by decide) ?_
  have ho := Option.some.inj hf
  subst ho
  exact g_zreturn (pc := 21) (st := []) (x := false) rfl dX3_readsNumber_21 hk
noncomputable def f_X3_readsNumber (r1 : Nat) (v2 : Int32) (σ : am_H) : Option (Bool × am_H) :=
  if v2 = 1 then
   (f_X3_readsNumber_14 r1 v2 99 σ)
  else
  f_X3_readsNumber_14 r1 v2 23 σ
set_option maxRecDepth 100000 in
set_option maxHeartbeats 4000000 in
theorem q_X3_readsNumber {X : am_X} (hX : am_wC X) {Q : Option Value → am_H → Prop} (r1 : Nat) (v2 : Int32) (hr1 : r1 < 18) (σ : am_H) {o : Bool × am_H} (hf : f_X3_readsNumber r1 v2 σ = some o) (hk : Q (some (.int (am_b o.1))) o.2) : am_G X gm_X3_readsNumber Q 0 [(0, .ref (am_ad X 5 0)), (1, .ref (am_ad X 10 r1)), (2, .int v2)] [] σ := by
  unfold f_X3_readsNumber at hf
  refine g_aload_n (pc := 0) 0 rfl dX3_readsNumber_0 rfl ?_
  refine g_iconst (pc := 1) (v := 0) dX3_readsNumber_1 (by decide) ?_
  refine g_iload_n (pc := 2) 2 rfl dX3_readsNumber_2 rfl ?_
  refine g_iconst (pc := 3) (v := 1) dX3_readsNumber_3 (by decide) ?_
  refine bi_ne (pc := 4) 12 dX3_readsNumber_4 rfl (fun c1 => ?_) (fun c1 => ?_)
  · replace hf := am_ifT c1 hf
    refine g_bipush (pc := 7) (v := 99) dX3_readsNumber_7 (by decide) ?_
    refine g_goto (pc := 9) 14 dX3_readsNumber_9 rfl ?_
    exact q_X3_readsNumber_14 hX r1 v2 99 (by omega) σ hf hk
  replace hf := am_ifF c1 hf
  refine g_bipush (pc := 12) (v := 23) dX3_readsNumber_12 (by decide) ?_
  exact q_X3_readsNumber_14 hX r1 v2 23 (by omega) σ hf hk
theorem k_X3_readsNumber {X : am_X} (hX : am_wC X) (r1 : Nat) (v2 : Int32) (hr1 : r1 < 18) (σ : am_H) {o : Bool × am_H} (hf : f_X3_readsNumber r1 v2 σ = some o) : am_C X gm_X3_readsNumber [.ref (am_ad X 5 0), .ref (am_ad X 10 r1), .int v2] σ (am_is (some (.int (am_b o.1))) o.2) :=
  am_ofG rfl (Nat.le_of_ble_eq_true rfl) rfl (q_X3_readsNumber hX r1 v2 hr1 σ hf ⟨rfl, rfl⟩)
theorem dX3_readsSettings_0 : decode cX3_readsSettings 0 = .ok (.iconst 0, 1) := by decide +kernel
theorem dX3_readsSettings_1 : decode cX3_readsSettings 1 = .ok (.istore_n 2, 1) := by decide +kernel
theorem dX3_readsSettings_2 : decode cX3_readsSettings 2 = .ok (.iconst 0, 1) := by decide +kernel
theorem dX3_readsSettings_3 : decode cX3_readsSettings 3 = .ok (.istore_n 3, 1) := by decide +kernel
theorem dX3_readsSettings_4 : decode cX3_readsSettings 4 = .ok (.iload_n 3, 1) := by decide +kernel
theorem dX3_readsSettings_5 : decode cX3_readsSettings 5 = .ok (.sipush 600, 3) := by decide +kernel
theorem dX3_readsSettings_8 : decode cX3_readsSettings 8 = .ok (.if_icmp .gt 77, 3) := by decide +kernel
theorem dX3_readsSettings_11 : decode cX3_readsSettings 11 = .ok (.aload_n 0, 1) := by decide +kernel
theorem dX3_readsSettings_12 : decode cX3_readsSettings 12 = .ok (.invokestatic 122, 3) := by decide +kernel
theorem dX3_readsSettings_15 : decode cX3_readsSettings 15 = .ok (.istore 4, 2) := by decide +kernel
theorem dX3_readsSettings_17 : decode cX3_readsSettings 17 = .ok (.iload 4, 2) := by decide +kernel
theorem dX3_readsSettings_19 : decode cX3_readsSettings 19 = .ok (.ifCond .ne 8, 3) := by decide +kernel
theorem dX3_readsSettings_22 : decode cX3_readsSettings 22 = .ok (.aload_n 0, 1) := by decide +kernel
theorem dX3_readsSettings_23 : decode cX3_readsSettings 23 = .ok (.invokevirtual 126, 3) := by decide +kernel
theorem dX3_readsSettings_26 : decode cX3_readsSettings 26 = .ok (.ireturn, 1) := by decide +kernel
theorem dX3_readsSettings_27 : decode cX3_readsSettings 27 = .ok (.iload_n 2, 1) := by decide +kernel
theorem dX3_readsSettings_28 : decode cX3_readsSettings 28 = .ok (.iload 4, 2) := by decide +kernel
theorem dX3_readsSettings_30 : decode cX3_readsSettings 30 = .ok (.iand, 1) := by decide +kernel
theorem dX3_readsSettings_31 : decode cX3_readsSettings 31 = .ok (.ifCond .eq 9, 3) := by decide +kernel
theorem dX3_readsSettings_34 : decode cX3_readsSettings 34 = .ok (.aload_n 0, 1) := by decide +kernel
theorem dX3_readsSettings_35 : decode cX3_readsSettings 35 = .ok (.iconst 5, 1) := by decide +kernel
theorem dX3_readsSettings_36 : decode cX3_readsSettings 36 = .ok (.invokevirtual 48, 3) := by decide +kernel
theorem dX3_readsSettings_39 : decode cX3_readsSettings 39 = .ok (.ireturn, 1) := by decide +kernel
theorem dX3_readsSettings_40 : decode cX3_readsSettings 40 = .ok (.iload_n 2, 1) := by decide +kernel
theorem dX3_readsSettings_41 : decode cX3_readsSettings 41 = .ok (.iload 4, 2) := by decide +kernel
theorem dX3_readsSettings_43 : decode cX3_readsSettings 43 = .ok (.ior, 1) := by decide +kernel
theorem dX3_readsSettings_44 : decode cX3_readsSettings 44 = .ok (.istore_n 2, 1) := by decide +kernel
theorem dX3_readsSettings_45 : decode cX3_readsSettings 45 = .ok (.aload_n 0, 1) := by decide +kernel
theorem dX3_readsSettings_46 : decode cX3_readsSettings 46 = .ok (.invokevirtual 74, 3) := by decide +kernel
theorem dX3_readsSettings_49 : decode cX3_readsSettings 49 = .ok (.iload 4, 2) := by decide +kernel
theorem dX3_readsSettings_51 : decode cX3_readsSettings 51 = .ok (.iconst 4, 1) := by decide +kernel
theorem dX3_readsSettings_52 : decode cX3_readsSettings 52 = .ok (.if_icmp .ne 11, 3) := by decide +kernel
theorem dX3_readsSettings_55 : decode cX3_readsSettings 55 = .ok (.aload_n 0, 1) := by decide +kernel
theorem dX3_readsSettings_56 : decode cX3_readsSettings 56 = .ok (.aload_n 1, 1) := by decide +kernel
theorem dX3_readsSettings_57 : decode cX3_readsSettings 57 = .ok (.invokestatic 129, 3) := by decide +kernel
theorem dX3_readsSettings_60 : decode cX3_readsSettings 60 = .ok (.goto 10, 3) := by decide +kernel
theorem dX3_readsSettings_63 : decode cX3_readsSettings 63 = .ok (.aload_n 0, 1) := by decide +kernel
theorem dX3_readsSettings_64 : decode cX3_readsSettings 64 = .ok (.aload_n 1, 1) := by decide +kernel
theorem dX3_readsSettings_65 : decode cX3_readsSettings 65 = .ok (.iload 4, 2) := by decide +kernel
theorem dX3_readsSettings_67 : decode cX3_readsSettings 67 = .ok (.invokestatic 132, 3) := by decide +kernel
theorem dX3_readsSettings_70 : decode cX3_readsSettings 70 = .ok (.istore 5, 2) := by decide +kernel
theorem dX3_readsSettings_72 : decode cX3_readsSettings 72 = .ok (.iload 5, 2) := by decide +kernel
theorem dX3_readsSettings_74 : decode cX3_readsSettings 74 = .ok (.ifCond .ne 5, 3) := by decide +kernel
theorem dX3_readsSettings_77 : decode cX3_readsSettings 77 = .ok (.iconst 0, 1) := by decide +kernel
theorem dX3_readsSettings_78 : decode cX3_readsSettings 78 = .ok (.ireturn, 1) := by decide +kernel
theorem dX3_readsSettings_79 : decode cX3_readsSettings 79 = .ok (.iinc 3 1, 3) := by decide +kernel
theorem dX3_readsSettings_82 : decode cX3_readsSettings 82 = .ok (.goto (-78), 3) := by decide +kernel
theorem dX3_readsSettings_85 : decode cX3_readsSettings 85 = .ok (.aload_n 0, 1) := by decide +kernel
theorem dX3_readsSettings_86 : decode cX3_readsSettings 86 = .ok (.iconst 2, 1) := by decide +kernel
theorem dX3_readsSettings_87 : decode cX3_readsSettings 87 = .ok (.invokevirtual 48, 3) := by decide +kernel
theorem dX3_readsSettings_90 : decode cX3_readsSettings 90 = .ok (.ireturn, 1) := by decide +kernel
noncomputable def f_X3_readsSettings_70 (r1 : Nat) (v2 : Int32) (v3 : Int32) (k0 : Bool) (σ : am_H) : Option ((Int32 × Int32 × am_H) ⊕ ((am_H) ⊕ ((am_H) ⊕ ((am_H) ⊕ (am_H))))) :=
  if k0 = true then
   (some (.inl (v2, (v3 + 1), σ)))
  else
  some (.inr (.inr (.inr (.inl σ))))
set_option maxRecDepth 100000 in
set_option maxHeartbeats 4000000 in
theorem q_X3_readsSettings_70 {X : am_X} (hX : am_wC X) {Q : Option Value → am_H → Prop} (r1 : Nat) (v2 : Int32) (v3 : Int32) (k0 : Bool) (hr1 : r1 < 18) (σ : am_H) {o : (Int32 × Int32 × am_H) ⊕ ((am_H) ⊕ ((am_H) ⊕ ((am_H) ⊕ (am_H))))} (hf : f_X3_readsSettings_70 r1 v2 v3 k0 σ = some o) (hk0 : ∀ s, o = .inl s → am_G X gm_X3_readsSettings Q 4 [(0, .ref (am_ad X 5 0)), (1, .ref (am_ad X 10 r1)), (2, .int s.1), (3, .int s.2.1)] [] s.2.2) (hk1 : ∀ t, o = .inr (.inl t) → am_G X gm_X3_readsSettings Q 22 [(0, .ref (am_ad X 5 0))] [] t) (hk2 : ∀ t, o = .inr (.inr (.inl t)) → am_G X gm_X3_readsSettings Q 34 [(0, .ref (am_ad X 5 0))] [] t) (hk3 : ∀ t, o = .inr (.inr (.inr (.inl t))) → am_G X gm_X3_readsSettings Q 77 [] [] t) (hk4 : ∀ t, o = .inr (.inr (.inr (.inr t))) → am_G X gm_X3_readsSettings Q 85 [(0, .ref (am_ad X 5 0))] [] t) : am_G X gm_X3_readsSettings Q 70 [(0, .ref (am_ad X 5 0)), (1, .ref (am_ad X 10 r1)), (2, .int v2), (3, .int v3)] [.int (am_b k0)] σ := by
  unfold f_X3_readsSettings_70 at hf
  refine g_istore (pc := 70) [(5, .int (am_b k0)), (0, .ref (am_ad X 5 0)), (1, .ref (am_ad X 10 r1)), (2, .int v2), (3, .int v3)] dX3_readsSettings_70 (Nat.le_of_ble_eq_true rfl) rfl ?_
  refine g_iload (pc := 72) 0 rfl dX3_readsSettings_72 ?_
  refine bt_ne (pc := 74) 79 dX3_readsSettings_74 rfl (fun c1 => ?_) (fun c1 => ?_)
  · replace hf := am_ifT c1 hf
    refine g_iinc (pc := 79) (v := (v3 + 1)) 4 [(3, .int (v3 + 1)), (5, .int (am_b k0)), (0, .ref (am_ad X 5 0)), (1, .ref (am_ad X 10 r1)), (2, .int v2)] dX3_readsSettings_79 rfl rfl (Nat.le_of_ble_eq_true rfl) rfl ?_
    refine g_goto (pc := 82) 4 dX3_readsSettings_82 rfl ?_
    have hz := hk0 _ (Option.some.inj hf).symm
    exact am_sub [2, 3, 4, 0] rfl hz
  replace hf := am_ifF c1 hf
  have hz := hk3 _ (Option.some.inj hf).symm
  exact am_sub [] rfl hz
noncomputable def f_X3_readsSettings_4 (r1 : Nat) (v2 : Int32) (v3 : Int32) (σ : am_H) : Option ((Int32 × Int32 × am_H) ⊕ ((am_H) ⊕ ((am_H) ⊕ ((am_H) ⊕ (am_H))))) :=
  if 600 < v3 then
   (some (.inr (.inr (.inr (.inr σ)))))
  else
  (f_X3_settingOf σ).bind fun p2 =>
  if p2 = 0 then
   (some (.inr (.inl σ)))
  else
  if (v2 &&& p2) = 0 then
   ((f_X5_advance σ).bind fun p5 =>
   if p2 = 4 then
    ((f_X3_readsTrain r1 p5).bind fun p7 =>
    f_X3_readsSettings_70 r1 (v2 ||| p2) v3 p7.1 p7.2)
   else
   (f_X3_readsNumber r1 p2 p5).bind fun p8 =>
   f_X3_readsSettings_70 r1 (v2 ||| p2) v3 p8.1 p8.2)
  else
  some (.inr (.inr (.inl σ)))
set_option maxRecDepth 100000 in
set_option maxHeartbeats 4000000 in
theorem q_X3_readsSettings_4 {X : am_X} (hX : am_wC X) {Q : Option Value → am_H → Prop} (r1 : Nat) (v2 : Int32) (v3 : Int32) (hr1 : r1 < 18) (σ : am_H) {o : (Int32 × Int32 × am_H) ⊕ ((am_H) ⊕ ((am_H) ⊕ ((am_H) ⊕ (am_H))))} (hf : f_X3_readsSettings_4 r1 v2 v3 σ = some o) (hk0 : ∀ s, o = .inl s → am_G X gm_X3_readsSettings Q 4 [(0, .ref (am_ad X 5 0)), (1, .ref (am_ad X 10 r1)), (2, .int s.1), (3, .int s.2.1)] [] s.2.2) (hk1 : ∀ t, o = .inr (.inl t) → am_G X gm_X3_readsSettings Q 22 [(0, .ref (am_ad X 5 0))] [] t) (hk2 : ∀ t, o = .inr (.inr (.inl t)) → am_G X gm_X3_readsSettings Q 34 [(0, .ref (am_ad X 5 0))] [] t) (hk3 : ∀ t, o = .inr (.inr (.inr (.inl t))) → am_G X gm_X3_readsSettings Q 77 [] [] t) (hk4 : ∀ t, o = .inr (.inr (.inr (.inr t))) → am_G X gm_X3_readsSettings Q 85 [(0, .ref (am_ad X 5 0))] [] t) : am_G X gm_X3_readsSettings Q 4 [(0, .ref (am_ad X 5 0)), (1, .ref (am_ad X 10 r1)), (2, .int v2), (3, .int v3)] [] σ := by
  unfold f_X3_readsSettings_4 at hf
  refine g_iload_n (pc := 4) 3 rfl dX3_readsSettings_4 rfl ?_
  refine g_sipush (pc := 5) (v := 600) dX3_readsSettings_5 (by decide) ?_
  refine bi_gt (pc := 8) 85 dX3_readsSettings_8 rfl (fun c1 => ?_) (fun c1 => ?_)
  · replace hf := am_ifT c1 hf
    have hz := hk4 _ (Option.some.inj hf).symm
    exact am_sub [0] rfl hz
  replace hf := am_ifF c1 hf
  refine g_aload_n (pc := 11) 0 rfl dX3_readsSettings_11 rfl ?_
  obtain ⟨p2, hp2, hf⟩ := am_bd hf
  refine g_cS (pc := 12) (As := [.ref (am_ad X 5 0)]) (st := []) (st1 := [.int p2]) mS_X3_settingOf ln_X3_122 rfl (Nat.le_of_ble_eq_true rfl) (Nat.le_of_ble_eq_true rfl) (k_X3_settingOf hX σ hp2) dX3_readsSettings_12 rfl rfl ?_
  refine g_istore (pc := 15) [(4, .int p2), (0, .ref (am_ad X 5 0)), (1, .ref (am_ad X 10 r1)), (2, .int v2), (3, .int v3)] dX3_readsSettings_15 (Nat.le_of_ble_eq_true rfl) rfl ?_
  refine g_iload (pc := 17) 0 rfl dX3_readsSettings_17 ?_
  refine bz_ne (pc := 19) 27 dX3_readsSettings_19 rfl (fun c3 => ?_) (fun c3 => ?_)
  · replace hf := am_ifT c3 hf
    have hz := hk1 _ (Option.some.inj hf).symm
    exact am_sub [1] rfl hz
  replace hf := am_ifF c3 hf
  refine g_iload_n (pc := 27) 3 rfl dX3_readsSettings_27 rfl ?_
  refine g_iload (pc := 28) 0 rfl dX3_readsSettings_28 ?_
  refine g_iand (pc := 30) dX3_readsSettings_30 ?_
  refine bz_eq (pc := 31) 40 dX3_readsSettings_31 rfl (fun c4 => ?_) (fun c4 => ?_)
  · replace hf := am_ifT c4 hf
    refine g_iload_n (pc := 40) 3 rfl dX3_readsSettings_40 rfl ?_
    refine g_iload (pc := 41) 0 rfl dX3_readsSettings_41 ?_
    refine g_ior (pc := 43) dX3_readsSettings_43 ?_
    refine g_istore_n (pc := 44) [(2, .int (v2 ||| p2)), (4, .int p2), (0, .ref (am_ad X 5 0)), (1, .ref (am_ad X 10 r1)), (3, .int v3)] dX3_readsSettings_44 rfl (Nat.le_of_ble_eq_true rfl) rfl ?_
    refine g_aload_n (pc := 45) 2 rfl dX3_readsSettings_45 rfl ?_
    obtain ⟨p5, hp5, hf⟩ := am_bd hf
    refine g_cV (pc := 46) (As := []) (st := []) (st1 := []) (in_5 hX.1 (by omega)) kk_5 mV_X5_advance ln_X3_74 rfl (Nat.le_of_ble_eq_true rfl) (Nat.le_of_ble_eq_true rfl) (k_X5_advance hX σ hp5) dX3_readsSettings_46 rfl rfl ?_
    refine g_iload (pc := 49) 1 rfl dX3_readsSettings_49 ?_
    refine g_iconst (pc := 51) (v := 4) dX3_readsSettings_51 (by decide) ?_
    refine bi_ne (pc := 52) 63 dX3_readsSettings_52 rfl (fun c6 => ?_) (fun c6 => ?_)
    · replace hf := am_ifT c6 hf
      refine g_aload_n (pc := 55) 2 rfl dX3_readsSettings_55 rfl ?_
      refine g_aload_n (pc := 56) 3 rfl dX3_readsSettings_56 rfl ?_
      obtain ⟨p7, hp7, hf⟩ := am_bd hf
      refine g_cS (pc := 57) (As := [.ref (am_ad X 5 0), .ref (am_ad X 10 r1)]) (st := []) (st1 := [.int (am_b p7.1)]) mS_X3_readsTrain ln_X3_129 rfl (Nat.le_of_ble_eq_true rfl) (Nat.le_of_ble_eq_true rfl) (k_X3_readsTrain hX r1 (by omega) p5 hp7) dX3_readsSettings_57 rfl rfl ?_
      refine g_goto (pc := 60) 70 dX3_readsSettings_60 rfl ?_
      exact am_sub [2, 3, 0, 4] rfl (q_X3_readsSettings_70 hX r1 (v2 ||| p2) v3 p7.1 (by omega) p7.2 hf hk0 hk1 hk2 hk3 hk4)
    replace hf := am_ifF c6 hf
    refine g_aload_n (pc := 63) 2 rfl dX3_readsSettings_63 rfl ?_
    refine g_aload_n (pc := 64) 3 rfl dX3_readsSettings_64 rfl ?_
    refine g_iload (pc := 65) 1 rfl dX3_readsSettings_65 ?_
    obtain ⟨p8, hp8, hf⟩ := am_bd hf
    refine g_cS (pc := 67) (As := [.ref (am_ad X 5 0), .ref (am_ad X 10 r1), .int p2]) (st := []) (st1 := [.int (am_b p8.1)]) mS_X3_readsNumber ln_X3_132 rfl (Nat.le_of_ble_eq_true rfl) (Nat.le_of_ble_eq_true rfl) (k_X3_readsNumber hX r1 p2 (by omega) p5 hp8) dX3_readsSettings_67 rfl rfl ?_
    exact am_sub [2, 3, 0, 4] rfl (q_X3_readsSettings_70 hX r1 (v2 ||| p2) v3 p8.1 (by omega) p8.2 hf hk0 hk1 hk2 hk3 hk4)
  replace hf := am_ifF c4 hf
  have hz := hk2 _ (Option.some.inj hf).symm
  exact am_sub [1] rfl hz
set_option maxRecDepth 100000 in
set_option maxHeartbeats 4000000 in
theorem l_X3_readsSettings_4 {X : am_X} (hX : am_wC X) {Q : Option Value → am_H → Prop} (r1 : Nat) (hr1 : r1 < 18) (σ : am_H) (s : Int32 × Int32 × am_H) {o : (am_H) ⊕ ((am_H) ⊕ ((am_H) ⊕ (am_H)))} (hf : am_loop (fun s => f_X3_readsSettings_4 r1 s.1 s.2.1 s.2.2) s = some o) (hk1 : ∀ t, o = (.inl t) → am_G X gm_X3_readsSettings Q 22 [(0, .ref (am_ad X 5 0))] [] t) (hk2 : ∀ t, o = (.inr (.inl t)) → am_G X gm_X3_readsSettings Q 34 [(0, .ref (am_ad X 5 0))] [] t) (hk3 : ∀ t, o = (.inr (.inr (.inl t))) → am_G X gm_X3_readsSettings Q 77 [] [] t) (hk4 : ∀ t, o = (.inr (.inr (.inr t))) → am_G X gm_X3_readsSettings Q 85 [(0, .ref (am_ad X 5 0))] [] t) : am_G X gm_X3_readsSettings Q 4 [(0, .ref (am_ad X 5 0)), (1, .ref (am_ad X 10 r1)), (2, .int s.1), (3, .int s.2.1)] [] s.2.2 := by
  refine am_loop_ind (P := fun s => am_G X gm_X3_readsSettings Q 4 [(0, .ref (am_ad X 5 0)), (1, .ref (am_ad X 10 r1)), (2, .int s.1), (3, .int s.2.1)] [] s.2.2) (K := fun r => r = o) ?_ hf rfl
  intro s o1 hb hi hr
  exact q_X3_readsSettings_4 hX r1 s.1 s.2.1  hr1 s.2.2 hb hi (fun t e => hk1 t (hr _ e).symm) (fun t e => hk2 t (hr _ e).symm) (fun t e => hk3 t (hr _ e).symm) (fun t e => hk4 t (hr _ e).symm)
noncomputable def f_X3_readsSettings (r1 : Nat) (σ : am_H) : Option (Bool × am_H) :=
  (am_loop (fun s => f_X3_readsSettings_4 r1 s.1 s.2.1 s.2.2) (0, 0, σ)).bind fun w1 =>
  Sum.elim (fun t1_0 =>
   (f_X5_takesSign t1_0).bind fun p2 =>
   some (p2.1, p2.2)) (fun u1_0 =>
   Sum.elim (fun t1_1 =>
    (f_X5_refuse 5 t1_1).bind fun p3 =>
    some (p3.1, p3.2)) (fun u1_1 =>
    Sum.elim (fun t1_2 =>
     some (false, t1_2)) (fun u1_2 =>
     (f_X5_refuse 2 u1_2).bind fun p4 =>
     some (p4.1, p4.2)) u1_1) u1_0) w1
set_option maxRecDepth 100000 in
set_option maxHeartbeats 4000000 in
theorem q_X3_readsSettings {X : am_X} (hX : am_wC X) {Q : Option Value → am_H → Prop} (r1 : Nat) (hr1 : r1 < 18) (σ : am_H) {o : Bool × am_H} (hf : f_X3_readsSettings r1 σ = some o) (hk : Q (some (.int (am_b o.1))) o.2) : am_G X gm_X3_readsSettings Q 0 [(0, .ref (am_ad X 5 0)), (1, .ref (am_ad X 10 r1))] [] σ := by
  unfold f_X3_readsSettings at hf
  refine g_iconst (pc := 0) (v := 0) dX3_readsSettings_0 (by decide) ?_
  refine g_istore_n (pc := 1) [(2, .int 0), (0, .ref (am_ad X 5 0)), (1, .ref (am_ad X 10 r1))] dX3_readsSettings_1 rfl (Nat.le_of_ble_eq_true rfl) rfl ?_
  refine g_iconst (pc := 2) (v := 0) dX3_readsSettings_2 (by decide) ?_
  refine g_istore_n (pc := 3) [(3, .int 0), (2, .int 0), (0, .ref (am_ad X 5 0)), (1, .ref (am_ad X 10 r1))] dX3_readsSettings_3 rfl (Nat.le_of_ble_eq_true rfl) rfl ?_
  obtain ⟨w1, hw1, hf⟩ := am_bd hf
  refine am_sub [2, 3, 1, 0] rfl (l_X3_readsSettings_4 hX r1 (by omega) σ (0, 0, σ) hw1 ?_ ?_ ?_ ?_)
  · intro t1_0 e
    subst e
    replace hf := am_elL hf
    refine g_aload_n (pc := 22) 0 rfl dX3_readsSettings_22 rfl ?_
    obtain ⟨p2, hp2, hf⟩ := am_bd hf
    refine g_cV (pc := 23) (As := []) (st := []) (st1 := [.int (am_b p2.1)]) (in_5 hX.1 (by omega)) kk_5 mV_X5_takesSign ln_X3_126 rfl (Nat.le_of_ble_eq_true rfl) (Nat.le_of_ble_eq_true rfl) (k_X5_takesSign hX t1_0 hp2) dX3_readsSettings_23 rfl rfl ?_
    have ho := Option.some.inj hf
    subst ho
    exact g_zreturn (pc := 26) (st := []) (x := p2.1) rfl dX3_readsSettings_26 hk
  · intro t1_1 e
    subst e
    replace hf := am_elR hf
    replace hf := am_elL hf
    refine g_aload_n (pc := 34) 0 rfl dX3_readsSettings_34 rfl ?_
    refine g_iconst (pc := 35) (v := 5) dX3_readsSettings_35 (by decide) ?_
    obtain ⟨p3, hp3, hf⟩ := am_bd hf
    refine g_cV (pc := 36) (As := [.int 5]) (st := []) (st1 := [.int (am_b p3.1)]) (in_5 hX.1 (by omega)) kk_5 mV_X5_refuse ln_X3_48 rfl (Nat.le_of_ble_eq_true rfl) (Nat.le_of_ble_eq_true rfl) (k_X5_refuse hX 5 t1_1 hp3) dX3_readsSettings_36 rfl rfl ?_
    have ho := Option.some.inj hf
    subst ho
    exact g_zreturn (pc := 39) (st := []) (x := p3.1) rfl dX3_readsSettings_39 hk
  · intro t1_2 e
    subst e
    replace hf := am_elR hf
    replace hf := am_elR hf
    replace hf := am_elL hf
    refine g_iconst (pc := 77) (v := 0) dX3_readsSettings_77 (by decide) ?_
    have ho := Option.some.inj hf
    subst ho
    exact g_zreturn (pc := 78) (st := []) (x := false) rfl dX3_readsSettings_78 hk
  · intro u1_2 e
    subst e
    replace hf := am_elR hf
    replace hf := am_elR hf
    replace hf := am_elR hf
    refine g_aload_n (pc := 85) 0 rfl dX3_readsSettings_85 rfl ?_
    refine g_iconst (pc := 86) (v := 2) dX3_readsSettings_86 (by decide) ?_
    obtain ⟨p4, hp4, hf⟩ := am_bd hf
    refine g_cV (pc := 87) (As := [.int 2]) (st := []) (st1 := [.int (am_b p4.1)]) (in_5 hX.1 (by omega)) kk_5 mV_X5_refuse ln_X3_48 rfl (Nat.le_of_ble_eq_true rfl) (Nat.le_of_ble_eq_true rfl) (k_X5_refuse hX 2 u1_2 hp4) dX3_readsSettings_87 rfl rfl ?_
    have ho := Option.some.inj hf
    subst ho
    exact g_zreturn (pc := 90) (st := []) (x := p4.1) rfl dX3_readsSettings_90 hk
theorem k_X3_readsSettings {X : am_X} (hX : am_wC X) (r1 : Nat) (hr1 : r1 < 18) (σ : am_H) {o : Bool × am_H} (hf : f_X3_readsSettings r1 σ = some o) : am_C X gm_X3_readsSettings [.ref (am_ad X 5 0), .ref (am_ad X 10 r1)] σ (am_is (some (.int (am_b o.1))) o.2) :=
  am_ofG rfl (Nat.le_of_ble_eq_true rfl) rfl (q_X3_readsSettings hX r1 hr1 σ hf ⟨rfl, rfl⟩)
theorem dX3_readsWave_0 : decode cX3_readsWave 0 = .ok (.aload_n 1, 1) := by decide +kernel
theorem dX3_readsWave_1 : decode cX3_readsWave 1 = .ok (.invokevirtual 74, 3) := by decide +kernel
theorem dX3_readsWave_4 : decode cX3_readsWave 4 = .ok (.aload_n 1, 1) := by decide +kernel
theorem dX3_readsWave_5 : decode cX3_readsWave 5 = .ok (.invokevirtual 77, 3) := by decide +kernel
theorem dX3_readsWave_8 : decode cX3_readsWave 8 = .ok (.ifCond .ne 9, 3) := by decide +kernel
theorem dX3_readsWave_11 : decode cX3_readsWave 11 = .ok (.aload_n 1, 1) := by decide +kernel
theorem dX3_readsWave_12 : decode cX3_readsWave 12 = .ok (.iconst 2, 1) := by decide +kernel
theorem dX3_readsWave_13 : decode cX3_readsWave 13 = .ok (.invokevirtual 48, 3) := by decide +kernel
theorem dX3_readsWave_16 : decode cX3_readsWave 16 = .ok (.ireturn, 1) := by decide +kernel
theorem dX3_readsWave_17 : decode cX3_readsWave 17 = .ok (.aload_n 1, 1) := by decide +kernel
theorem dX3_readsWave_18 : decode cX3_readsWave 18 = .ok (.invokevirtual 80, 3) := by decide +kernel
theorem dX3_readsWave_21 : decode cX3_readsWave 21 = .ok (.lstore_n 2, 1) := by decide +kernel
theorem dX3_readsWave_22 : decode cX3_readsWave 22 = .ok (.aload_n 0, 1) := by decide +kernel
theorem dX3_readsWave_23 : decode cX3_readsWave 23 = .ok (.lload_n 2, 1) := by decide +kernel
theorem dX3_readsWave_24 : decode cX3_readsWave 24 = .ok (.invokevirtual 84, 3) := by decide +kernel
theorem dX3_readsWave_27 : decode cX3_readsWave 27 = .ok (.ifCond .eq 9, 3) := by decide +kernel
theorem dX3_readsWave_30 : decode cX3_readsWave 30 = .ok (.aload_n 1, 1) := by decide +kernel
theorem dX3_readsWave_31 : decode cX3_readsWave 31 = .ok (.iconst 3, 1) := by decide +kernel
theorem dX3_readsWave_32 : decode cX3_readsWave 32 = .ok (.invokevirtual 48, 3) := by decide +kernel
theorem dX3_readsWave_35 : decode cX3_readsWave 35 = .ok (.ireturn, 1) := by decide +kernel
theorem dX3_readsWave_36 : decode cX3_readsWave 36 = .ok (.aload_n 0, 1) := by decide +kernel
theorem dX3_readsWave_37 : decode cX3_readsWave 37 = .ok (.getfield 32, 3) := by decide +kernel
theorem dX3_readsWave_40 : decode cX3_readsWave 40 = .ok (.bipush 6, 2) := by decide +kernel
theorem dX3_readsWave_42 : decode cX3_readsWave 42 = .ok (.if_icmp .lt 10, 3) := by decide +kernel
theorem dX3_readsWave_45 : decode cX3_readsWave 45 = .ok (.aload_n 1, 1) := by decide +kernel
theorem dX3_readsWave_46 : decode cX3_readsWave 46 = .ok (.bipush 6, 2) := by decide +kernel
theorem dX3_readsWave_48 : decode cX3_readsWave 48 = .ok (.invokevirtual 48, 3) := by decide +kernel
theorem dX3_readsWave_51 : decode cX3_readsWave 51 = .ok (.ireturn, 1) := by decide +kernel
theorem dX3_readsWave_52 : decode cX3_readsWave 52 = .ok (.aload_n 1, 1) := by decide +kernel
theorem dX3_readsWave_53 : decode cX3_readsWave 53 = .ok (.invokevirtual 74, 3) := by decide +kernel
theorem dX3_readsWave_56 : decode cX3_readsWave 56 = .ok (.aload_n 0, 1) := by decide +kernel
theorem dX3_readsWave_57 : decode cX3_readsWave 57 = .ok (.getfield 27, 3) := by decide +kernel
theorem dX3_readsWave_60 : decode cX3_readsWave 60 = .ok (.aload_n 0, 1) := by decide +kernel
theorem dX3_readsWave_61 : decode cX3_readsWave 61 = .ok (.getfield 32, 3) := by decide +kernel
theorem dX3_readsWave_64 : decode cX3_readsWave 64 = .ok (.aaload, 1) := by decide +kernel
theorem dX3_readsWave_65 : decode cX3_readsWave 65 = .ok (.astore 4, 2) := by decide +kernel
theorem dX3_readsWave_67 : decode cX3_readsWave 67 = .ok (.aload 4, 2) := by decide +kernel
theorem dX3_readsWave_69 : decode cX3_readsWave 69 = .ok (.lload_n 2, 1) := by decide +kernel
theorem dX3_readsWave_70 : decode cX3_readsWave 70 = .ok (.invokevirtual 88, 3) := by decide +kernel
theorem dX3_readsWave_73 : decode cX3_readsWave 73 = .ok (.aload_n 1, 1) := by decide +kernel
theorem dX3_readsWave_74 : decode cX3_readsWave 74 = .ok (.aload 4, 2) := by decide +kernel
theorem dX3_readsWave_76 : decode cX3_readsWave 76 = .ok (.invokestatic 92, 3) := by decide +kernel
theorem dX3_readsWave_79 : decode cX3_readsWave 79 = .ok (.ifCond .eq 12, 3) := by decide +kernel
theorem dX3_readsWave_82 : decode cX3_readsWave 82 = .ok (.aload_n 1, 1) := by decide +kernel
theorem dX3_readsWave_83 : decode cX3_readsWave 83 = .ok (.aload 4, 2) := by decide +kernel
theorem dX3_readsWave_85 : decode cX3_readsWave 85 = .ok (.invokestatic 96, 3) := by decide +kernel
theorem dX3_readsWave_88 : decode cX3_readsWave 88 = .ok (.ifCond .ne 5, 3) := by decide +kernel
theorem dX3_readsWave_91 : decode cX3_readsWave 91 = .ok (.iconst 0, 1) := by decide +kernel
theorem dX3_readsWave_92 : decode cX3_readsWave 92 = .ok (.ireturn, 1) := by decide +kernel
theorem dX3_readsWave_93 : decode cX3_readsWave 93 = .ok (.aload_n 0, 1) := by decide +kernel
theorem dX3_readsWave_94 : decode cX3_readsWave 94 = .ok (.dup, 1) := by decide +kernel
theorem dX3_readsWave_95 : decode cX3_readsWave 95 = .ok (.getfield 32, 3) := by decide +kernel
theorem dX3_readsWave_98 : decode cX3_readsWave 98 = .ok (.iconst 1, 1) := by decide +kernel
theorem dX3_readsWave_99 : decode cX3_readsWave 99 = .ok (.iadd, 1) := by decide +kernel
theorem dX3_readsWave_100 : decode cX3_readsWave 100 = .ok (.putfield 32, 3) := by decide +kernel
theorem dX3_readsWave_103 : decode cX3_readsWave 103 = .ok (.iconst 1, 1) := by decide +kernel
theorem dX3_readsWave_104 : decode cX3_readsWave 104 = .ok (.ireturn, 1) := by decide +kernel
noncomputable def f_X3_readsWave (r0 : Nat) (σ : am_H) : Option (Bool × am_H) :=
  (f_X5_advance σ).bind fun p1 =>
  (f_X5_isName p1).bind fun p2 =>
  if p2 = true then
   ((f_X5_nameCode p1).bind fun p4 =>
   (f_X3_hasName r0 p4 p1).bind fun p5 =>
   if p5 = true then
    ((f_X5_refuse 3 p1).bind fun p7 =>
    some (p7.1, p7.2))
   else
   if (p1.1 3 r0 1) < 6 then
    ((f_X5_advance p1).bind fun p9 =>
    (am_ix 6 (p9.1 3 r0 1)).bind fun j10 =>
    (f_X10_clear (6 * r0 + j10) p4 p9).bind fun p11 =>
    (f_X3_readsTurns (6 * r0 + j10) p11).bind fun p12 =>
    if p12.1 = true then
     ((f_X3_readsSettings (6 * r0 + j10) p12.2).bind fun p14 =>
     if p14.1 = true then
      ((some (am_wI p14.2 3 r0 1 ((p14.2.1 3 r0 1) + 1))).bind fun s16 =>
      some (true, s16))
     else
     some (false, p14.2))
    else
    some (false, p12.2))
   else
   (f_X5_refuse 6 p1).bind fun p17 =>
   some (p17.1, p17.2))
  else
  (f_X5_refuse 2 p1).bind fun p18 =>
  some (p18.1, p18.2)
set_option maxRecDepth 100000 in
set_option maxHeartbeats 4000000 in
theorem q_X3_readsWave {X : am_X} (hX : am_wC X) {Q : Option Value → am_H → Prop} (r0 : Nat) (hr0 : r0 < 3) (σ : am_H) {o : Bool × am_H} (hf : f_X3_readsWave r0 σ = some o) (hk : Q (some (.int (am_b o.1))) o.2) : am_G X gm_X3_readsWave Q 0 [(0, .ref (am_ad X 3 r0)), (1, .ref (am_ad X 5 0))] [] σ := by
  unfold f_X3_readsWave at hf
  refine g_aload_n (pc := 0) 1 rfl dX3_readsWave_0 rfl ?_
  obtain ⟨p1, hp1, hf⟩ := am_bd hf
  refine g_cV (pc := 1) (As := []) (st := []) (st1 := []) (in_5 hX.1 (by omega)) kk_5 mV_X5_advance ln_X3_74 rfl (Nat.le_of_ble_eq_true rfl) (Nat.le_of_ble_eq_true rfl) (k_X5_advance hX σ hp1) dX3_readsWave_1 rfl rfl ?_
  refine g_aload_n (pc := 4) 1 rfl dX3_readsWave_4 rfl ?_
  obtain ⟨p2, hp2, hf⟩ := am_bd hf
  refine g_cV (pc := 5) (As := []) (st := []) (st1 := [.int (am_b p2)]) (in_5 hX.1 (by omega)) kk_5 mV_X5_isName ln_X3_77 rfl (Nat.le_of_ble_eq_true rfl) (Nat.le_of_ble_eq_true rfl) (k_X5_isName hX p1 hp2) dX3_readsWave_5 rfl rfl ?_
  refine bt_ne (pc := 8) 17 dX3_readsWave_8 rfl (fun c3 => ?_) (fun c3 => ?_)
  · replace hf := am_ifT c3 hf
    refine g_aload_n (pc := 17) 1 rfl dX3_readsWave_17 rfl ?_
    obtain ⟨p4, hp4, hf⟩ := am_bd hf
    refine g_cV (pc := 18) (As := []) (st := []) (st1 := [.long p4]) (in_5 hX.1 (by omega)) kk_5 mV_X5_nameCode ln_X3_80 rfl (Nat.le_of_ble_eq_true rfl) (Nat.le_of_ble_eq_true rfl) (k_X5_nameCode hX p1 hp4) dX3_readsWave_18 rfl rfl ?_
    refine g_lstore_n (pc := 21) [(2, .long p4), (0, .ref (am_ad X 3 r0)), (1, .ref (am_ad X 5 0))] dX3_readsWave_21 rfl (Nat.le_of_ble_eq_true rfl) rfl ?_
    refine g_aload_n (pc := 22) 1 rfl dX3_readsWave_22 rfl ?_
    refine g_lload_n (pc := 23) 0 rfl dX3_readsWave_23 rfl ?_
    obtain ⟨p5, hp5, hf⟩ := am_bd hf
    refine g_cV (pc := 24) (As := [.long p4]) (st := []) (st1 := [.int (am_b p5)]) (in_3 hX.1 (by omega)) kk_3 mV_X3_hasName ln_X3_84 rfl (Nat.le_of_ble_eq_true rfl) (Nat.le_of_ble_eq_true rfl) (k_X3_hasName hX r0 p4 (by omega) p1 hp5) dX3_readsWave_24 rfl rfl ?_
    refine bt_eq (pc := 27) 36 dX3_readsWave_27 rfl (fun c6 => ?_) (fun c6 => ?_)
    · replace hf := am_ifT c6 hf
      refine g_aload_n (pc := 30) 2 rfl dX3_readsWave_30 rfl ?_
      refine g_iconst (pc := 31) (v := 3) dX3_readsWave_31 (by decide) ?_
      obtain ⟨p7, hp7, hf⟩ := am_bd hf
      refine g_cV (pc := 32) (As := [.int 3]) (st := []) (st1 := [.int (am_b p7.1)]) (in_5 hX.1 (by omega)) kk_5 mV_X5_refuse ln_X3_48 rfl (Nat.le_of_ble_eq_true rfl) (Nat.le_of_ble_eq_true rfl) (k_X5_refuse hX 3 p1 hp7) dX3_readsWave_32 rfl rfl ?_
      have ho := Option.some.inj hf
      subst ho
      exact g_zreturn (pc := 35) (st := []) (x := p7.1) rfl dX3_readsWave_35 hk
    replace hf := am_ifF c6 hf
    refine g_aload_n (pc := 36) 1 rfl dX3_readsWave_36 rfl ?_
    refine g_getI (pc := 37) (in_3 hX.1 (by omega)) fr_X3_32 dX3_readsWave_37 ?_
    refine g_bipush (pc := 40) (v := 6) dX3_readsWave_40 (by decide) ?_
    refine bi_lt (pc := 42) 52 dX3_readsWave_42 rfl (fun c8 => ?_) (fun c8 => ?_)
    · replace hf := am_ifT c8 hf
      refine g_aload_n (pc := 52) 2 rfl dX3_readsWave_52 rfl ?_
      obtain ⟨p9, hp9, hf⟩ := am_bd hf
      refine g_cV (pc := 53) (As := []) (st := []) (st1 := []) (in_5 hX.1 (by omega)) kk_5 mV_X5_advance ln_X3_74 rfl (Nat.le_of_ble_eq_true rfl) (Nat.le_of_ble_eq_true rfl) (k_X5_advance hX p1 hp9) dX3_readsWave_53 rfl rfl ?_
      refine g_aload_n (pc := 56) 1 rfl dX3_readsWave_56 rfl ?_
      refine g_getC (pc := 57) (e := r0) (in_3 hX.1 (by omega)) fr_X3_27 dX3_readsWave_57 rfl ?_
      refine g_aload_n (pc := 60) 1 rfl dX3_readsWave_60 rfl ?_
      refine g_getI (pc := 61) (in_3 hX.1 (by omega)) fr_X3_32 dX3_readsWave_61 ?_
      obtain ⟨j10, hj10, hf⟩ := am_bd hf
      have gj10 := am_ix_lt hj10
      refine g_aC (pc := 64) (e := (6 * r0 + j10)) (in_400 hX.1 (by omega)) ak_400 hj10 rfl dX3_readsWave_64 ?_
      refine g_astore (pc := 65) [(4, .ref (am_ad X 10 (6 * r0 + j10))), (2, .long p4), (0, .ref (am_ad X 3 r0)), (1, .ref (am_ad X 5 0))] dX3_readsWave_65 (Nat.le_of_ble_eq_true rfl) rfl ?_
      refine g_aload (pc := 67) 0 rfl dX3_readsWave_67 ?_
      refine g_lload_n (pc := 69) 1 rfl dX3_readsWave_69 rfl ?_
      obtain ⟨p11, hp11, hf⟩ := am_bd hf
      refine g_cV (pc := 70) (As := [.long p4]) (st := []) (st1 := []) (in_10 hX.1 (by omega)) kk_10 mV_X10_clear ln_X3_88 rfl (Nat.le_of_ble_eq_true rfl) (Nat.le_of_ble_eq_true rfl) (k_X10_clear hX (6 * r0 + j10) p4 (by omega) p9 hp11) dX3_readsWave_70 rfl rfl ?_
      refine g_aload_n (pc := 73) 3 rfl dX3_readsWave_73 rfl ?_
      refine g_aload (pc := 74) 0 rfl dX3_readsWave_74 ?_
      obtain ⟨p12, hp12, hf⟩ := am_bd hf
      refine g_cS (pc := 76) (As := [.ref (am_ad X 5 0), .ref (am_ad X 10 (6 * r0 + j10))]) (st := []) (st1 := [.int (am_b p12.1)]) mS_X3_readsTurns ln_X3_92 rfl (Nat.le_of_ble_eq_true rfl) (Nat.le_of_ble_eq_true rfl) (k_X3_readsTurns hX (6 * r0 + j10) (by omega) p11 hp12) dX3_readsWave_76 rfl rfl ?_
      refine bt_eq (pc := 79) 91 dX3_readsWave_79 rfl (fun c13 => ?_) (fun c13 => ?_)
      · replace hf := am_ifT c13 hf
        refine g_aload_n (pc := 82) 3 rfl dX3_readsWave_82 rfl ?_
        refine g_aload (pc := 83) 0 rfl dX3_readsWave_83 ?_
        obtain ⟨p14, hp14, hf⟩ := am_bd hf
        refine g_cS (pc := 85) (As := [.ref (am_ad X 5 0), .ref (am_ad X 10 (6 * r0 + j10))]) (st := []) (st1 := [.int (am_b p14.1)]) mS_X3_readsSettings ln_X3_96 rfl (Nat.le_of_ble_eq_true rfl) (Nat.le_of_ble_eq_true rfl) (k_X3_readsSettings hX (6 * r0 + j10) (by omega) p12.2 hp14) dX3_readsWave_85 rfl rfl ?_
        refine bt_ne (pc := 88) 93 dX3_readsWave_88 rfl (fun c15 => ?_) (fun c15 => ?_)
        · replace hf := am_ifT c15 hf
          refine g_aload_n (pc := 93) 2 rfl dX3_readsWave_93 rfl ?_
          refine g_dup (pc := 94) dX3_readsWave_94 rfl ?_
          refine g_getI (pc := 95) (in_3 hX.1 (by omega)) fr_X3_32 dX3_readsWave_95 ?_
          refine g_iconst (pc := 98) (v := 1) dX3_readsWave_98 (by decide) ?_
          refine g_iadd (pc := 99) dX3_readsWave_99 ?_
          obtain ⟨s16, hs16, hf⟩ := am_bd hf
          refine g_setI (pc := 100) (in_3 hX.1 (by omega)) fr_X3_32 dX3_readsWave_100 (Option.some.inj hs16) ?_
          refine g_iconst (pc := 103) (v := 1) dX3_readsWave_103 (by decide) ?_
          have ho := Option.some.inj hf
          subst ho
          exact g_zreturn (pc := 104) (st := []) (x := true) rfl dX3_readsWave_104 hk
        replace hf := am_ifF c15 hf
        refine g_iconst (pc := 91) (v := 0) dX3_readsWave_91 (by decide) ?_
        have ho := Option.some.inj hf
        subst ho
        exact g_zreturn (pc := 92) (st := []) (x := false) rfl dX3_readsWave_92 hk
      replace hf := am_ifF c13 hf
      refine g_iconst (pc := 91) (v := 0) dX3_readsWave_91 (by decide) ?_
      have ho := Option.some.inj hf
      subst ho
      exact g_zreturn (pc := 92) (st := []) (x := false) rfl dX3_readsWave_92 hk
    replace hf := am_ifF c8 hf
    refine g_aload_n (pc := 45) 2 rfl dX3_readsWave_45 rfl ?_
    refine g_bipush (pc := 46) (v := 6) dX3_readsWave_46 (by decide) ?_
    obtain ⟨p17, hp17, hf⟩ := am_bd hf
    refine g_cV (pc := 48) (As := [.int 6]) (st := []) (st1 := [.int (am_b p17.1)]) (in_5 hX.1 (by omega)) kk_5 mV_X5_refuse ln_X3_48 rfl (Nat.le_of_ble_eq_true rfl) (Nat.le_of_ble_eq_true rfl) (k_X5_refuse hX 6 p1 hp17) dX3_readsWave_48 rfl rfl ?_
    have ho := Option.some.inj hf
    subst ho
    exact g_zreturn (pc := 51) (st := []) (x := p17.1) rfl dX3_readsWave_51 hk
  replace hf := am_ifF c3 hf
  refine g_aload_n (pc := 11) 1 rfl dX3_readsWave_11 rfl ?_
  refine g_iconst (pc := 12) (v := 2) dX3_readsWave_12 (by decide) ?_
  obtain ⟨p18, hp18, hf⟩ := am_bd hf
  refine g_cV (pc := 13) (As := [.int 2]) (st := []) (st1 := [.int (am_b p18.1)]) (in_5 hX.1 (by omega)) kk_5 mV_X5_refuse ln_X3_48 rfl (Nat.le_of_ble_eq_true rfl) (Nat.le_of_ble_eq_true rfl) (k_X5_refuse hX 2 p1 hp18) dX3_readsWave_13 rfl rfl ?_
  have ho := Option.some.inj hf
  subst ho
  exact g_zreturn (pc := 16) (st := []) (x := p18.1) rfl dX3_readsWave_16 hk
theorem k_X3_readsWave {X : am_X} (hX : am_wC X) (r0 : Nat) (hr0 : r0 < 3) (σ : am_H) {o : Bool × am_H} (hf : f_X3_readsWave r0 σ = some o) : am_C X gm_X3_readsWave [.ref (am_ad X 3 r0), .ref (am_ad X 5 0)] σ (am_is (some (.int (am_b o.1))) o.2) :=
  am_ofG rfl (Nat.le_of_ble_eq_true rfl) rfl (q_X3_readsWave hX r0 hr0 σ hf ⟨rfl, rfl⟩)
theorem dX3_hasKind_0 : decode cX3_hasKind 0 = .ok (.iconst 0, 1) := by decide +kernel
theorem dX3_hasKind_1 : decode cX3_hasKind 1 = .ok (.istore_n 2, 1) := by decide +kernel
theorem dX3_hasKind_2 : decode cX3_hasKind 2 = .ok (.iload_n 2, 1) := by decide +kernel
theorem dX3_hasKind_3 : decode cX3_hasKind 3 = .ok (.aload_n 0, 1) := by decide +kernel
theorem dX3_hasKind_4 : decode cX3_hasKind 4 = .ok (.getfield 35, 3) := by decide +kernel
theorem dX3_hasKind_7 : decode cX3_hasKind 7 = .ok (.if_icmp .ge 21, 3) := by decide +kernel
theorem dX3_hasKind_10 : decode cX3_hasKind 10 = .ok (.aload_n 0, 1) := by decide +kernel
theorem dX3_hasKind_11 : decode cX3_hasKind 11 = .ok (.getfield 15, 3) := by decide +kernel
theorem dX3_hasKind_14 : decode cX3_hasKind 14 = .ok (.iload_n 2, 1) := by decide +kernel
theorem dX3_hasKind_15 : decode cX3_hasKind 15 = .ok (.iaload, 1) := by decide +kernel
theorem dX3_hasKind_16 : decode cX3_hasKind 16 = .ok (.iload_n 1, 1) := by decide +kernel
theorem dX3_hasKind_17 : decode cX3_hasKind 17 = .ok (.if_icmp .ne 5, 3) := by decide +kernel
theorem dX3_hasKind_20 : decode cX3_hasKind 20 = .ok (.iconst 1, 1) := by decide +kernel
theorem dX3_hasKind_21 : decode cX3_hasKind 21 = .ok (.ireturn, 1) := by decide +kernel
theorem dX3_hasKind_22 : decode cX3_hasKind 22 = .ok (.iinc 2 1, 3) := by decide +kernel
theorem dX3_hasKind_25 : decode cX3_hasKind 25 = .ok (.goto (-23), 3) := by decide +kernel
theorem dX3_hasKind_28 : decode cX3_hasKind 28 = .ok (.iconst 0, 1) := by decide +kernel
theorem dX3_hasKind_29 : decode cX3_hasKind 29 = .ok (.ireturn, 1) := by decide +kernel
noncomputable def f_X3_hasKind_2 (r0 : Nat) (v1 : Int32) (v2 : Int32) (σ : am_H) : Option ((Int32) ⊕ ((Unit) ⊕ (Unit))) :=
  if v2 < (σ.1 3 r0 4) then
   ((am_ix 10 v2).bind fun j2 =>
   if (σ.1 403 r0 j2) = v1 then
    (some (.inr (.inl ())))
   else
   some (.inl (v2 + 1)))
  else
  some (.inr (.inr ()))
set_option maxRecDepth 100000 in
set_option maxHeartbeats 4000000 in
theorem q_X3_hasKind_2 {X : am_X} (hX : am_wC X) {Q : Option Value → am_H → Prop} (r0 : Nat) (v1 : Int32) (v2 : Int32) (hr0 : r0 < 3) (σ : am_H) {o : (Int32) ⊕ ((Unit) ⊕ (Unit))} (hf : f_X3_hasKind_2 r0 v1 v2 σ = some o) (hk0 : ∀ s, o = .inl s → am_G X gm_X3_hasKind Q 2 [(0, .ref (am_ad X 3 r0)), (1, .int v1), (2, .int s)] [] σ) (hk1 : ∀ t, o = .inr (.inl t) → am_G X gm_X3_hasKind Q 20 [] [] σ) (hk2 : ∀ t, o = .inr (.inr t) → am_G X gm_X3_hasKind Q 28 [] [] σ) : am_G X gm_X3_hasKind Q 2 [(0, .ref (am_ad X 3 r0)), (1, .int v1), (2, .int v2)] [] σ := by
  unfold f_X3_hasKind_2 at hf
  refine g_iload_n (pc := 2) 2 rfl dX3_hasKind_2 rfl ?_
  refine g_aload_n (pc := 3) 0 rfl dX3_hasKind_3 rfl ?_
  refine g_getI (pc := 4) (in_3 hX.1 (by omega)) fr_X3_35 dX3_hasKind_4 ?_
  refine bi_ge (pc := 7) 28 dX3_hasKind_7 rfl (fun c1 => ?_) (fun c1 => ?_)
  · replace hf := am_ifT c1 hf
    refine g_aload_n (pc := 10) 0 rfl dX3_hasKind_10 rfl ?_
    refine g_getC (pc := 11) (e := r0) (in_3 hX.1 (by omega)) fr_X3_15 dX3_hasKind_11 rfl ?_
    refine g_iload_n (pc := 14) 2 rfl dX3_hasKind_14 rfl ?_
    obtain ⟨j2, hj2, hf⟩ := am_bd hf
    have gj2 := am_ix_lt hj2
    refine g_aI (pc := 15) (in_403 hX.1 (by omega)) ak_403 hj2 dX3_hasKind_15 ?_
    refine g_iload_n (pc := 16) 1 rfl dX3_hasKind_16 rfl ?_
    refine bi_ne (pc := 17) 22 dX3_hasKind_17 rfl (fun c3 => ?_) (fun c3 => ?_)
    · replace hf := am_ifT c3 hf
      have hz := hk1 _ (Option.some.inj hf).symm
      exact am_sub [] rfl hz
    replace hf := am_ifF c3 hf
    refine g_iinc (pc := 22) (v := (v2 + 1)) 2 [(2, .int (v2 + 1)), (0, .ref (am_ad X 3 r0)), (1, .int v1)] dX3_hasKind_22 rfl rfl (Nat.le_of_ble_eq_true rfl) rfl ?_
    refine g_goto (pc := 25) 2 dX3_hasKind_25 rfl ?_
    have hz := hk0 _ (Option.some.inj hf).symm
    exact am_sub [1, 2, 0] rfl hz
  replace hf := am_ifF c1 hf
  have hz := hk2 _ (Option.some.inj hf).symm
  exact am_sub [] rfl hz
set_option maxRecDepth 100000 in
set_option maxHeartbeats 4000000 in
theorem l_X3_hasKind_2 {X : am_X} (hX : am_wC X) {Q : Option Value → am_H → Prop} (r0 : Nat) (v1 : Int32) (hr0 : r0 < 3) (σ : am_H) (s : Int32) {o : (Unit) ⊕ (Unit)} (hf : am_loop (fun s => f_X3_hasKind_2 r0 v1 s σ) s = some o) (hk1 : ∀ t, o = (.inl t) → am_G X gm_X3_hasKind Q 20 [] [] σ) (hk2 : ∀ t, o = (.inr t) → am_G X gm_X3_hasKind Q 28 [] [] σ) : am_G X gm_X3_hasKind Q 2 [(0, .ref (am_ad X 3 r0)), (1, .int v1), (2, .int s)] [] σ := by
  refine am_loop_ind (P := fun s => am_G X gm_X3_hasKind Q 2 [(0, .ref (am_ad X 3 r0)), (1, .int v1), (2, .int s)] [] σ) (K := fun r => r = o) ?_ hf rfl
  intro s o1 hb hi hr
  exact q_X3_hasKind_2 hX r0 v1 s  hr0 σ hb hi (fun t e => hk1 t (hr _ e).symm) (fun t e => hk2 t (hr _ e).symm)
noncomputable def f_X3_hasKind (r0 : Nat) (v1 : Int32) (σ : am_H) : Option (Bool) :=
  (am_loop (fun s => f_X3_hasKind_2 r0 v1 s σ) 0).bind fun w1 =>
  Sum.elim (fun t1_0 =>
   some true) (fun u1_0 =>
   some false) w1
set_option maxRecDepth 100000 in
set_option maxHeartbeats 4000000 in
theorem q_X3_hasKind {X : am_X} (hX : am_wC X) {Q : Option Value → am_H → Prop} (r0 : Nat) (v1 : Int32) (hr0 : r0 < 3) (σ : am_H) {o : Bool} (hf : f_X3_hasKind r0 v1 σ = some o) (hk : Q (some (.int (am_b o))) σ) : am_G X gm_X3_hasKind Q 0 [(0, .ref (am_ad X 3 r0)), (1, .int v1)] [] σ := by
  unfold f_X3_hasKind at hf
  refine g_iconst (pc := 0) (v := 0) dX3_hasKind_0 (by decide) ?_
  refine g_istore_n (pc := 1) [(2, .int 0), (0, .ref (am_ad X 3 r0)), (1, .int v1)] dX3_hasKind_1 rfl (Nat.le_of_ble_eq_true rfl) rfl ?_
  obtain ⟨w1, hw1, hf⟩ := am_bd hf
  refine am_sub [1, 2, 0] rfl (l_X3_hasKind_2 hX r0 v1 (by omega) σ 0 hw1 ?_ ?_)
  · intro t1_0 e
    subst e
    replace hf := am_elL hf
    refine g_iconst (pc := 20) (v := 1) dX3_hasKind_20 (by decide) ?_
    have ho := Option.some.inj hf
    subst ho
    exact g_zreturn (pc := 21) (st := []) (x := true) rfl dX3_hasKind_21 hk
  · intro u1_0 e
    subst e
    replace hf := am_elR hf
    refine g_iconst (pc := 28) (v := 0) dX3_hasKind_28 (by decide) ?_
    have ho := Option.some.inj hf
    subst ho
    exact g_zreturn (pc := 29) (st := []) (x := false) rfl dX3_hasKind_29 hk
theorem k_X3_hasKind {X : am_X} (hX : am_wC X) (r0 : Nat) (v1 : Int32) (hr0 : r0 < 3) (σ : am_H) {o : Bool} (hf : f_X3_hasKind r0 v1 σ = some o) : am_C X gm_X3_hasKind [.ref (am_ad X 3 r0), .int v1] σ (am_is (some (.int (am_b o))) σ) :=
  am_ofG rfl (Nat.le_of_ble_eq_true rfl) rfl (q_X3_hasKind hX r0 v1 hr0 σ hf ⟨rfl, rfl⟩)
theorem dX3_readsBox_0 : decode cX3_readsBox 0 = .ok (.aload_n 0, 1) := by decide +kernel
theorem dX3_readsBox_1 : decode cX3_readsBox 1 = .ok (.getfield 35, 3) := by decide +kernel
theorem dX3_readsBox_4 : decode cX3_readsBox 4 = .ok (.bipush 10, 2) := by decide +kernel
theorem dX3_readsBox_6 : decode cX3_readsBox 6 = .ok (.if_icmp .lt 10, 3) := by decide +kernel
theorem dX3_readsBox_9 : decode cX3_readsBox 9 = .ok (.aload_n 1, 1) := by decide +kernel
theorem dX3_readsBox_10 : decode cX3_readsBox 10 = .ok (.bipush 6, 2) := by decide +kernel
theorem dX3_readsBox_12 : decode cX3_readsBox 12 = .ok (.invokevirtual 48, 3) := by decide +kernel
theorem dX3_readsBox_15 : decode cX3_readsBox 15 = .ok (.ireturn, 1) := by decide +kernel
theorem dX3_readsBox_16 : decode cX3_readsBox 16 = .ok (.aload_n 1, 1) := by decide +kernel
theorem dX3_readsBox_17 : decode cX3_readsBox 17 = .ok (.invokevirtual 74, 3) := by decide +kernel
theorem dX3_readsBox_20 : decode cX3_readsBox 20 = .ok (.aload_n 1, 1) := by decide +kernel
theorem dX3_readsBox_21 : decode cX3_readsBox 21 = .ok (.iconst 0, 1) := by decide +kernel
theorem dX3_readsBox_22 : decode cX3_readsBox 22 = .ok (.bipush 9, 2) := by decide +kernel
theorem dX3_readsBox_24 : decode cX3_readsBox 24 = .ok (.invokevirtual 108, 3) := by decide +kernel
theorem dX3_readsBox_27 : decode cX3_readsBox 27 = .ok (.ifCond .ne 5, 3) := by decide +kernel
theorem dX3_readsBox_30 : decode cX3_readsBox 30 = .ok (.iconst 0, 1) := by decide +kernel
theorem dX3_readsBox_31 : decode cX3_readsBox 31 = .ok (.ireturn, 1) := by decide +kernel
theorem dX3_readsBox_32 : decode cX3_readsBox 32 = .ok (.aload_n 1, 1) := by decide +kernel
theorem dX3_readsBox_33 : decode cX3_readsBox 33 = .ok (.getfield 112, 3) := by decide +kernel
theorem dX3_readsBox_36 : decode cX3_readsBox 36 = .ok (.istore_n 2, 1) := by decide +kernel
theorem dX3_readsBox_37 : decode cX3_readsBox 37 = .ok (.aload_n 1, 1) := by decide +kernel
theorem dX3_readsBox_38 : decode cX3_readsBox 38 = .ok (.invokevirtual 74, 3) := by decide +kernel
theorem dX3_readsBox_41 : decode cX3_readsBox 41 = .ok (.aload_n 1, 1) := by decide +kernel
theorem dX3_readsBox_42 : decode cX3_readsBox 42 = .ok (.ldc 158, 2) := by decide +kernel
theorem dX3_readsBox_44 : decode cX3_readsBox 44 = .ok (.invokevirtual 105, 3) := by decide +kernel
theorem dX3_readsBox_47 : decode cX3_readsBox 47 = .ok (.ifCond .eq 14, 3) := by decide +kernel
theorem dX3_readsBox_50 : decode cX3_readsBox 50 = .ok (.aload_n 1, 1) := by decide +kernel
theorem dX3_readsBox_51 : decode cX3_readsBox 51 = .ok (.iconst 5, 1) := by decide +kernel
theorem dX3_readsBox_52 : decode cX3_readsBox 52 = .ok (.sipush 200, 3) := by decide +kernel
theorem dX3_readsBox_55 : decode cX3_readsBox 55 = .ok (.invokevirtual 108, 3) := by decide +kernel
theorem dX3_readsBox_58 : decode cX3_readsBox 58 = .ok (.ifCond .ne 5, 3) := by decide +kernel
theorem dX3_readsBox_61 : decode cX3_readsBox 61 = .ok (.iconst 0, 1) := by decide +kernel
theorem dX3_readsBox_62 : decode cX3_readsBox 62 = .ok (.ireturn, 1) := by decide +kernel
theorem dX3_readsBox_63 : decode cX3_readsBox 63 = .ok (.aload_n 0, 1) := by decide +kernel
theorem dX3_readsBox_64 : decode cX3_readsBox 64 = .ok (.aload_n 1, 1) := by decide +kernel
theorem dX3_readsBox_65 : decode cX3_readsBox 65 = .ok (.getfield 112, 3) := by decide +kernel
theorem dX3_readsBox_68 : decode cX3_readsBox 68 = .ok (.invokevirtual 160, 3) := by decide +kernel
theorem dX3_readsBox_71 : decode cX3_readsBox 71 = .ok (.ifCond .eq 10, 3) := by decide +kernel
theorem dX3_readsBox_74 : decode cX3_readsBox 74 = .ok (.aload_n 1, 1) := by decide +kernel
theorem dX3_readsBox_75 : decode cX3_readsBox 75 = .ok (.bipush 6, 2) := by decide +kernel
theorem dX3_readsBox_77 : decode cX3_readsBox 77 = .ok (.invokevirtual 48, 3) := by decide +kernel
theorem dX3_readsBox_80 : decode cX3_readsBox 80 = .ok (.ireturn, 1) := by decide +kernel
theorem dX3_readsBox_81 : decode cX3_readsBox 81 = .ok (.aload_n 0, 1) := by decide +kernel
theorem dX3_readsBox_82 : decode cX3_readsBox 82 = .ok (.getfield 9, 3) := by decide +kernel
theorem dX3_readsBox_85 : decode cX3_readsBox 85 = .ok (.aload_n 0, 1) := by decide +kernel
theorem dX3_readsBox_86 : decode cX3_readsBox 86 = .ok (.getfield 35, 3) := by decide +kernel
theorem dX3_readsBox_89 : decode cX3_readsBox 89 = .ok (.iload_n 2, 1) := by decide +kernel
theorem dX3_readsBox_90 : decode cX3_readsBox 90 = .ok (.iastore, 1) := by decide +kernel
theorem dX3_readsBox_91 : decode cX3_readsBox 91 = .ok (.aload_n 0, 1) := by decide +kernel
theorem dX3_readsBox_92 : decode cX3_readsBox 92 = .ok (.getfield 15, 3) := by decide +kernel
theorem dX3_readsBox_95 : decode cX3_readsBox 95 = .ok (.aload_n 0, 1) := by decide +kernel
theorem dX3_readsBox_96 : decode cX3_readsBox 96 = .ok (.getfield 35, 3) := by decide +kernel
theorem dX3_readsBox_99 : decode cX3_readsBox 99 = .ok (.aload_n 1, 1) := by decide +kernel
theorem dX3_readsBox_100 : decode cX3_readsBox 100 = .ok (.getfield 112, 3) := by decide +kernel
theorem dX3_readsBox_103 : decode cX3_readsBox 103 = .ok (.iastore, 1) := by decide +kernel
theorem dX3_readsBox_104 : decode cX3_readsBox 104 = .ok (.aload_n 0, 1) := by decide +kernel
theorem dX3_readsBox_105 : decode cX3_readsBox 105 = .ok (.dup, 1) := by decide +kernel
theorem dX3_readsBox_106 : decode cX3_readsBox 106 = .ok (.getfield 35, 3) := by decide +kernel
theorem dX3_readsBox_109 : decode cX3_readsBox 109 = .ok (.iconst 1, 1) := by decide +kernel
theorem dX3_readsBox_110 : decode cX3_readsBox 110 = .ok (.iadd, 1) := by decide +kernel
theorem dX3_readsBox_111 : decode cX3_readsBox 111 = .ok (.putfield 35, 3) := by decide +kernel
theorem dX3_readsBox_114 : decode cX3_readsBox 114 = .ok (.aload_n 1, 1) := by decide +kernel
theorem dX3_readsBox_115 : decode cX3_readsBox 115 = .ok (.invokevirtual 74, 3) := by decide +kernel
theorem dX3_readsBox_118 : decode cX3_readsBox 118 = .ok (.aload_n 1, 1) := by decide +kernel
theorem dX3_readsBox_119 : decode cX3_readsBox 119 = .ok (.invokevirtual 126, 3) := by decide +kernel
theorem dX3_readsBox_122 : decode cX3_readsBox 122 = .ok (.ireturn, 1) := by decide +kernel
noncomputable def f_X3_readsBox (r0 : Nat) (σ : am_H) : Option (Bool × am_H) :=
  if (σ.1 3 r0 4) < 10 then
   ((f_X5_advance σ).bind fun p2 =>
   (f_X5_standsNumber 0 9 p2).bind fun p3 =>
   if p3.1 = true then
    ((f_X5_advance p3.2).bind fun p5 =>
    (f_X5_takesWord 7 p5).bind fun p6 =>
    if p6.1 = true then
     ((f_X5_standsNumber 5 200 p6.2).bind fun p8 =>
     if p8.1 = true then
      ((f_X3_hasKind r0 (p8.2.1 5 0 6) p8.2).bind fun p10 =>
      if p10 = true then
       ((f_X5_refuse 6 p8.2).bind fun p12 =>
       some (p12.1, p12.2))
      else
      (am_ix 10 (p8.2.1 3 r0 4)).bind fun j13 =>
      (some (am_wI p8.2 402 r0 j13 (p3.2.1 5 0 6))).bind fun s14 =>
      (am_ix 10 (s14.1 3 r0 4)).bind fun j15 =>
      (some (am_wI s14 403 r0 j15 (s14.1 5 0 6))).bind fun s16 =>
      (some (am_wI s16 3 r0 4 ((s16.1 3 r0 4) + 1))).bind fun s17 =>
      (f_X5_advance s17).bind fun p18 =>
      (f_X5_takesSign p18).bind fun p19 =>
      some (p19.1, p19.2))
     else
     some (false, p8.2))
    else
    some (false, p6.2))
   else
   some (false, p3.2))
  else
  (f_X5_refuse 6 σ).bind fun p20 =>
  some (p20.1, p20.2)
set_option maxRecDepth 100000 in
set_option maxHeartbeats 4000000 in
theorem q_X3_readsBox {X : am_X} (hX : am_wC X) {Q : Option Value → am_H → Prop} (r0 : Nat) (hr0 : r0 < 3) (σ : am_H) {o : Bool × am_H} (hf : f_X3_readsBox r0 σ = some o) (hk : Q (some (.int (am_b o.1))) o.2) : am_G X gm_X3_readsBox Q 0 [(0, .ref (am_ad X 3 r0)), (1, .ref (am_ad X 5 0))] [] σ := by
  unfold f_X3_readsBox at hf
  refine g_aload_n (pc := 0) 0 rfl dX3_readsBox_0 rfl ?_
  refine g_getI (pc := 1) (in_3 hX.1 (by omega)) fr_X3_35 dX3_readsBox_1 ?_
  refine g_bipush (pc := 4) (v := 10) dX3_readsBox_4 (by decide) ?_
  refine bi_lt (pc := 6) 16 dX3_readsBox_6 rfl (fun c1 => ?_) (fun c1 => ?_)
  · replace hf := am_ifT c1 hf
    refine g_aload_n (pc := 16) 1 rfl dX3_readsBox_16 rfl ?_
    obtain ⟨p2, hp2, hf⟩ := am_bd hf
    refine g_cV (pc := 17) (As := []) (st := []) (st1 := []) (in_5 hX.1 (by omega)) kk_5 mV_X5_advance ln_X3_74 rfl (Nat.le_of_ble_eq_true rfl) (Nat.le_of_ble_eq_true rfl) (k_X5_advance hX σ hp2) dX3_readsBox_17 rfl rfl ?_
    refine g_aload_n (pc := 20) 1 rfl dX3_readsBox_20 rfl ?_
    refine g_iconst (pc := 21) (v := 0) dX3_readsBox_21 (by decide) ?_
    refine g_bipush (pc := 22) (v := 9) dX3_readsBox_22 (by decide) ?_
    obtain ⟨p3, hp3, hf⟩ := am_bd hf
    refine g_cV (pc := 24) (As := [.int 0, .int 9]) (st := []) (st1 := [.int (am_b p3.1)]) (in_5 hX.1 (by omega)) kk_5 mV_X5_standsNumber ln_X3_108 rfl (Nat.le_of_ble_eq_true rfl) (Nat.le_of_ble_eq_true rfl) (k_X5_standsNumber hX 0 9 p2 hp3) dX3_readsBox_24 rfl rfl ?_
    refine bt_ne (pc := 27) 32 dX3_readsBox_27 rfl (fun c4 => ?_) (fun c4 => ?_)
    · replace hf := am_ifT c4 hf
      refine g_aload_n (pc := 32) 1 rfl dX3_readsBox_32 rfl ?_
      refine g_getI (pc := 33) (in_5 hX.1 (by omega)) fr_X3_112 dX3_readsBox_33 ?_
      refine g_istore_n (pc := 36) [(2, .int (p3.2.1 5 0 6)), (0, .ref (am_ad X 3 r0)), (1, .ref (am_ad X 5 0))] dX3_readsBox_36 rfl (Nat.le_of_ble_eq_true rfl) rfl ?_
      refine g_aload_n (pc := 37) 2 rfl dX3_readsBox_37 rfl ?_
      obtain ⟨p5, hp5, hf⟩ := am_bd hf
      refine g_cV (pc := 38) (As := []) (st := []) (st1 := []) (in_5 hX.1 (by omega)) kk_5 mV_X5_advance ln_X3_74 rfl (Nat.le_of_ble_eq_true rfl) (Nat.le_of_ble_eq_true rfl) (k_X5_advance hX p3.2 hp5) dX3_readsBox_38 rfl rfl ?_
      refine g_aload_n (pc := 41) 2 rfl dX3_readsBox_41 rfl ?_
      refine g_ldcS (pc := 42) 17 hX.2 rfl dX3_readsBox_42 ?_
      obtain ⟨p6, hp6, hf⟩ := am_bd hf
      refine g_cV (pc := 44) (As := [.ref (am_kK X 7)]) (st := []) (st1 := [.int (am_b p6.1)]) (in_5 hX.1 (by omega)) kk_5 mV_X5_takesWord ln_X3_105 rfl (Nat.le_of_ble_eq_true rfl) (Nat.le_of_ble_eq_true rfl) (k_X5_takesWord hX 7 (by first | assumption | decide) p5 hp6) dX3_readsBox_44 rfl rfl ?_
      refine bt_eq (pc := 47) 61 dX3_readsBox_47 rfl (fun c7 => ?_) (fun c7 => ?_)
      · replace hf := am_ifT c7 hf
        refine g_aload_n (pc := 50) 2 rfl dX3_readsBox_50 rfl ?_
        refine g_iconst (pc := 51) (v := 5) dX3_readsBox_51 (by decide) ?_
        refine g_sipush (pc := 52) (v := 200) dX3_readsBox_52 (by decide) ?_
        obtain ⟨p8, hp8, hf⟩ := am_bd hf
        refine g_cV (pc := 55) (As := [.int 5, .int 200]) (st := []) (st1 := [.int (am_b p8.1)]) (in_5 hX.1 (by omega)) kk_5 mV_X5_standsNumber ln_X3_108 rfl (Nat.le_of_ble_eq_true rfl) (Nat.le_of_ble_eq_true rfl) (k_X5_standsNumber hX 5 200 p6.2 hp8) dX3_readsBox_55 rfl rfl ?_
        refine bt_ne (pc := 58) 63 dX3_readsBox_58 rfl (fun c9 => ?_) (fun c9 => ?_)
        · replace hf := am_ifT c9 hf
          refine g_aload_n (pc := 63) 1 rfl dX3_readsBox_63 rfl ?_
          refine g_aload_n (pc := 64) 2 rfl dX3_readsBox_64 rfl ?_
          refine g_getI (pc := 65) (in_5 hX.1 (by omega)) fr_X3_112 dX3_readsBox_65 ?_
          obtain ⟨p10, hp10, hf⟩ := am_bd hf
          refine g_cV (pc := 68) (As := [.int (p8.2.1 5 0 6)]) (st := []) (st1 := [.int (am_b p10)]) (in_3 hX.1 (by omega)) kk_3 mV_X3_hasKind ln_X3_160 rfl (Nat.le_of_ble_eq_true rfl) (Nat.le_of_ble_eq_true rfl) (k_X3_hasKind hX r0 (p8.2.1 5 0 6) (by omega) p8.2 hp10) dX3_readsBox_68 rfl rfl ?_
          refine bt_eq (pc := 71) 81 dX3_readsBox_71 rfl (fun c11 => ?_) (fun c11 => ?_)
          · replace hf := am_ifT c11 hf
            refine g_aload_n (pc := 74) 2 rfl dX3_readsBox_74 rfl ?_
            refine g_bipush (pc := 75) (v := 6) dX3_readsBox_75 (by decide) ?_
            obtain ⟨p12, hp12, hf⟩ := am_bd hf
            refine g_cV (pc := 77) (As := [.int 6]) (st := []) (st1 := [.int (am_b p12.1)]) (in_5 hX.1 (by omega)) kk_5 mV_X5_refuse ln_X3_48 rfl (Nat.le_of_ble_eq_true rfl) (Nat.le_of_ble_eq_true rfl) (k_X5_refuse hX 6 p8.2 hp12) dX3_readsBox_77 rfl rfl ?_
            have ho := Option.some.inj hf
            subst ho
            exact g_zreturn (pc := 80) (st := []) (x := p12.1) rfl dX3_readsBox_80 hk
          replace hf := am_ifF c11 hf
          refine g_aload_n (pc := 81) 1 rfl dX3_readsBox_81 rfl ?_
          refine g_getC (pc := 82) (e := r0) (in_3 hX.1 (by omega)) fr_X3_9 dX3_readsBox_82 rfl ?_
          refine g_aload_n (pc := 85) 1 rfl dX3_readsBox_85 rfl ?_
          refine g_getI (pc := 86) (in_3 hX.1 (by omega)) fr_X3_35 dX3_readsBox_86 ?_
          refine g_iload_n (pc := 89) 0 rfl dX3_readsBox_89 rfl ?_
          obtain ⟨j13, hj13, hf⟩ := am_bd hf
          have gj13 := am_ix_lt hj13
          obtain ⟨s14, hs14, hf⟩ := am_bd hf
          refine g_sI (pc := 90) (in_402 hX.1 (by omega)) ak_402 hj13 dX3_readsBox_90 (Option.some.inj hs14) ?_
          refine g_aload_n (pc := 91) 1 rfl dX3_readsBox_91 rfl ?_
          refine g_getC (pc := 92) (e := r0) (in_3 hX.1 (by omega)) fr_X3_15 dX3_readsBox_92 rfl ?_
          refine g_aload_n (pc := 95) 1 rfl dX3_readsBox_95 rfl ?_
          refine g_getI (pc := 96) (in_3 hX.1 (by omega)) fr_X3_35 dX3_readsBox_96 ?_
          refine g_aload_n (pc := 99) 2 rfl dX3_readsBox_99 rfl ?_
          refine g_getI (pc := 100) (in_5 hX.1 (by omega)) fr_X3_112 dX3_readsBox_100 ?_
          obtain ⟨j15, hj15, hf⟩ := am_bd hf
          have gj15 := am_ix_lt hj15
          obtain ⟨s16, hs16, hf⟩ := am_bd hf
          refine g_sI (pc := 103) (in_403 hX.1 (by omega)) ak_403 hj15 dX3_readsBox_103 (Option.some.inj hs16) ?_
          refine g_aload_n (pc := 104) 1 rfl dX3_readsBox_104 rfl ?_
          refine g_dup (pc := 105) dX3_readsBox_105 rfl ?_
          refine g_getI (pc := 106) (in_3 hX.1 (by omega)) fr_X3_35 dX3_readsBox_106 ?_
          refine g_iconst (pc := 109) (v := 1) dX3_readsBox_109 (by decide) ?_
          refine g_iadd (pc := 110) dX3_readsBox_110 ?_
          obtain ⟨s17, hs17, hf⟩ := am_bd hf
          refine g_setI (pc := 111) (in_3 hX.1 (by omega)) fr_X3_35 dX3_readsBox_111 (Option.some.inj hs17) ?_
          refine g_aload_n (pc := 114) 2 rfl dX3_readsBox_114 rfl ?_
          obtain ⟨p18, hp18, hf⟩ := am_bd hf
          refine g_cV (pc := 115) (As := []) (st := []) (st1 := []) (in_5 hX.1 (by omega)) kk_5 mV_X5_advance ln_X3_74 rfl (Nat.le_of_ble_eq_true rfl) (Nat.le_of_ble_eq_true rfl) (k_X5_advance hX s17 hp18) dX3_readsBox_115 rfl rfl ?_
          refine g_aload_n (pc := 118) 2 rfl dX3_readsBox_118 rfl ?_
          obtain ⟨p19, hp19, hf⟩ := am_bd hf
          refine g_cV (pc := 119) (As := []) (st := []) (st1 := [.int (am_b p19.1)]) (in_5 hX.1 (by omega)) kk_5 mV_X5_takesSign ln_X3_126 rfl (Nat.le_of_ble_eq_true rfl) (Nat.le_of_ble_eq_true rfl) (k_X5_takesSign hX p18 hp19) dX3_readsBox_119 rfl rfl ?_
          have ho := Option.some.inj hf
          subst ho
          exact g_zreturn (pc := 122) (st := []) (x := p19.1) rfl dX3_readsBox_122 hk
        replace hf := am_ifF c9 hf
        refine g_iconst (pc := 61) (v := 0) dX3_readsBox_61 (by decide) ?_
        have ho := Option.some.inj hf
        subst ho
        exact g_zreturn (pc := 62) (st := []) (x := false) rfl dX3_readsBox_62 hk
      replace hf := am_ifF c7 hf
      refine g_iconst (pc := 61) (v := 0) dX3_readsBox_61 (by decide) ?_
      have ho := Option.some.inj hf
      subst ho
      exact g_zreturn (pc := 62) (st := []) (x := false) rfl dX3_readsBox_62 hk
    replace hf := am_ifF c4 hf
    refine g_iconst (pc := 30) (v := 0) dX3_readsBox_30 (by decide) ?_
    have ho := Option.some.inj hf
    subst ho
    exact g_zreturn (pc := 31) (st := []) (x := false) rfl dX3_readsBox_31 hk
  replace hf := am_ifF c1 hf
  refine g_aload_n (pc := 9) 1 rfl dX3_readsBox_9 rfl ?_
  refine g_bipush (pc := 10) (v := 6) dX3_readsBox_10 (by decide) ?_
  obtain ⟨p20, hp20, hf⟩ := am_bd hf
  refine g_cV (pc := 12) (As := [.int 6]) (st := []) (st1 := [.int (am_b p20.1)]) (in_5 hX.1 (by omega)) kk_5 mV_X5_refuse ln_X3_48 rfl (Nat.le_of_ble_eq_true rfl) (Nat.le_of_ble_eq_true rfl) (k_X5_refuse hX 6 σ hp20) dX3_readsBox_12 rfl rfl ?_
  have ho := Option.some.inj hf
  subst ho
  exact g_zreturn (pc := 15) (st := []) (x := p20.1) rfl dX3_readsBox_15 hk
theorem k_X3_readsBox {X : am_X} (hX : am_wC X) (r0 : Nat) (hr0 : r0 < 3) (σ : am_H) {o : Bool × am_H} (hf : f_X3_readsBox r0 σ = some o) : am_C X gm_X3_readsBox [.ref (am_ad X 3 r0), .ref (am_ad X 5 0)] σ (am_is (some (.int (am_b o.1))) o.2) :=
  am_ofG rfl (Nat.le_of_ble_eq_true rfl) rfl (q_X3_readsBox hX r0 hr0 σ hf ⟨rfl, rfl⟩)
theorem dX3_readsSlack_0 : decode cX3_readsSlack 0 = .ok (.aload_n 0, 1) := by decide +kernel
theorem dX3_readsSlack_1 : decode cX3_readsSlack 1 = .ok (.getfield 18, 3) := by decide +kernel
theorem dX3_readsSlack_4 : decode cX3_readsSlack 4 = .ok (.iconst (-1), 1) := by decide +kernel
theorem dX3_readsSlack_5 : decode cX3_readsSlack 5 = .ok (.if_icmp .eq 9, 3) := by decide +kernel
theorem dX3_readsSlack_8 : decode cX3_readsSlack 8 = .ok (.aload_n 1, 1) := by decide +kernel
theorem dX3_readsSlack_9 : decode cX3_readsSlack 9 = .ok (.iconst 5, 1) := by decide +kernel
theorem dX3_readsSlack_10 : decode cX3_readsSlack 10 = .ok (.invokevirtual 48, 3) := by decide +kernel
theorem dX3_readsSlack_13 : decode cX3_readsSlack 13 = .ok (.ireturn, 1) := by decide +kernel
theorem dX3_readsSlack_14 : decode cX3_readsSlack 14 = .ok (.aload_n 1, 1) := by decide +kernel
theorem dX3_readsSlack_15 : decode cX3_readsSlack 15 = .ok (.invokevirtual 74, 3) := by decide +kernel
theorem dX3_readsSlack_18 : decode cX3_readsSlack 18 = .ok (.aload_n 1, 1) := by decide +kernel
theorem dX3_readsSlack_19 : decode cX3_readsSlack 19 = .ok (.iconst 0, 1) := by decide +kernel
theorem dX3_readsSlack_20 : decode cX3_readsSlack 20 = .ok (.bipush 99, 2) := by decide +kernel
theorem dX3_readsSlack_22 : decode cX3_readsSlack 22 = .ok (.invokevirtual 108, 3) := by decide +kernel
theorem dX3_readsSlack_25 : decode cX3_readsSlack 25 = .ok (.ifCond .ne 5, 3) := by decide +kernel
theorem dX3_readsSlack_28 : decode cX3_readsSlack 28 = .ok (.iconst 0, 1) := by decide +kernel
theorem dX3_readsSlack_29 : decode cX3_readsSlack 29 = .ok (.ireturn, 1) := by decide +kernel
theorem dX3_readsSlack_30 : decode cX3_readsSlack 30 = .ok (.aload_n 0, 1) := by decide +kernel
theorem dX3_readsSlack_31 : decode cX3_readsSlack 31 = .ok (.aload_n 1, 1) := by decide +kernel
theorem dX3_readsSlack_32 : decode cX3_readsSlack 32 = .ok (.getfield 112, 3) := by decide +kernel
theorem dX3_readsSlack_35 : decode cX3_readsSlack 35 = .ok (.putfield 18, 3) := by decide +kernel
theorem dX3_readsSlack_38 : decode cX3_readsSlack 38 = .ok (.aload_n 1, 1) := by decide +kernel
theorem dX3_readsSlack_39 : decode cX3_readsSlack 39 = .ok (.invokevirtual 74, 3) := by decide +kernel
theorem dX3_readsSlack_42 : decode cX3_readsSlack 42 = .ok (.aload_n 1, 1) := by decide +kernel
theorem dX3_readsSlack_43 : decode cX3_readsSlack 43 = .ok (.invokevirtual 126, 3) := by decide +kernel
theorem dX3_readsSlack_46 : decode cX3_readsSlack 46 = .ok (.ireturn, 1) := by decide +kernel
noncomputable def f_X3_readsSlack (r0 : Nat) (σ : am_H) : Option (Bool × am_H) :=
  if (σ.1 3 r0 5) = (-1) then
   ((f_X5_advance σ).bind fun p2 =>
   (f_X5_standsNumber 0 99 p2).bind fun p3 =>
   if p3.1 = true then
    ((some (am_wI p3.2 3 r0 5 (p3.2.1 5 0 6))).bind fun s5 =>
    (f_X5_advance s5).bind fun p6 =>
    (f_X5_takesSign p6).bind fun p7 =>
    some (p7.1, p7.2))
   else
   some (false, p3.2))
  else
  (f_X5_refuse 5 σ).bind fun p8 =>
  some (p8.1, p8.2)
set_option maxRecDepth 100000 in
set_option maxHeartbeats 4000000 in
theorem q_X3_readsSlack {X : am_X} (hX : am_wC X) {Q : Option Value → am_H → Prop} (r0 : Nat) (hr0 : r0 < 3) (σ : am_H) {o : Bool × am_H} (hf : f_X3_readsSlack r0 σ = some o) (hk : Q (some (.int (am_b o.1))) o.2) : am_G X gm_X3_readsSlack Q 0 [(0, .ref (am_ad X 3 r0)), (1, .ref (am_ad X 5 0))] [] σ := by
  unfold f_X3_readsSlack at hf
  refine g_aload_n (pc := 0) 0 rfl dX3_readsSlack_0 rfl ?_
  refine g_getI (pc := 1) (in_3 hX.1 (by omega)) fr_X3_18 dX3_readsSlack_1 ?_
  refine g_iconst (pc := 4) (v := (-1)) dX3_readsSlack_4 (by decide) ?_
  refine bi_eq (pc := 5) 14 dX3_readsSlack_5 rfl (fun c1 => ?_) (fun c1 => ?_)
  · replace hf := am_ifT c1 hf
    refine g_aload_n (pc := 14) 1 rfl dX3_readsSlack_14 rfl ?_
    obtain ⟨p2, hp2, hf⟩ := am_bd hf
    refine g_cV (pc := 15) (As := []) (st := []) (st1 := []) (in_5 hX.1 (by omega)) kk_5 mV_X5_advance ln_X3_74 rfl (Nat.le_of_ble_eq_true rfl) (Nat.le_of_ble_eq_true rfl) (k_X5_advance hX σ hp2) dX3_readsSlack_15 rfl rfl ?_
    refine g_aload_n (pc := 18) 1 rfl dX3_readsSlack_18 rfl ?_
    refine g_iconst (pc := 19) (v := 0) dX3_readsSlack_19 (by decide) ?_
    refine g_bipush (pc := 20) (v := 99) dX3_readsSlack_20 (by decide) ?_
    obtain ⟨p3, hp3, hf⟩ := am_bd hf
    refine g_cV (pc := 22) (As := [.int 0, .int 99]) (st := []) (st1 := [.int (am_b p3.1)]) (in_5 hX.1 (by omega)) kk_5 mV_X5_standsNumber ln_X3_108 rfl (Nat.le_of_ble_eq_true rfl) (Nat.le_of_ble_eq_true rfl) (k_X5_standsNumber hX 0 99 p2 hp3) dX3_readsSlack_22 rfl rfl ?_
    refine bt_ne (pc := 25) 30 dX3_readsSlack_25 rfl (fun c4 => ?_) (fun c4 => ?_)
    · replace hf := am_ifT c4 hf
      refine g_aload_n (pc := 30) 0 rfl dX3_readsSlack_30 rfl ?_
      refine g_aload_n (pc := 31) 1 rfl dX3_readsSlack_31 rfl ?_
      refine g_getI (pc := 32) (in_5 hX.1 (by omega)) fr_X3_112 dX3_readsSlack_32 ?_
      obtain ⟨s5, hs5, hf⟩ := am_bd hf
      refine g_setI (pc := 35) (in_3 hX.1 (by omega)) fr_X3_18 dX3_readsSlack_35 (Option.some.inj hs5) ?_
      refine g_aload_n (pc := 38) 1 rfl dX3_readsSlack_38 rfl ?_
      obtain ⟨p6, hp6, hf⟩ := am_bd hf
      refine g_cV (pc := 39) (As := []) (st := []) (st1 := []) (in_5 hX.1 (by omega)) kk_5 mV_X5_advance ln_X3_74 rfl (Nat.le_of_ble_eq_true rfl) (Nat.le_of_ble_eq_true rfl) (k_X5_advance hX s5 hp6) dX3_readsSlack_39 rfl rfl ?_
      refine g_aload_n (pc := 42) 1 rfl dX3_readsSlack_42 rfl ?_
      obtain ⟨p7, hp7, hf⟩ := am_bd hf
      refine g_cV (pc := 43) (As := []) (st := []) (st1 := [.int (am_b p7.1)]) (in_5 hX.1 (by omega)) kk_5 mV_X5_takesSign ln_X3_126 rfl (Nat.le_of_ble_eq_true rfl) (Nat.le_of_ble_eq_true rfl) (k_X5_takesSign hX p6 hp7) dX3_readsSlack_43 rfl rfl ?_
      have ho := Option.some.inj hf
      subst ho
      exact g_zreturn (pc := 46) (st := []) (x := p7.1) rfl dX3_readsSlack_46 hk
    replace hf := am_ifF c4 hf
    refine g_iconst (pc := 28) (v := 0) dX3_readsSlack_28 (by decide) ?_
    have ho := Option.some.inj hf
    subst ho
    exact g_zreturn (pc := 29) (st := []) (x := false) rfl dX3_readsSlack_29 hk
  replace hf := am_ifF c1 hf
  refine g_aload_n (pc := 8) 1 rfl dX3_readsSlack_8 rfl ?_
  refine g_iconst (pc := 9) (v := 5) dX3_readsSlack_9 (by decide) ?_
  obtain ⟨p8, hp8, hf⟩ := am_bd hf
  refine g_cV (pc := 10) (As := [.int 5]) (st := []) (st1 := [.int (am_b p8.1)]) (in_5 hX.1 (by omega)) kk_5 mV_X5_refuse ln_X3_48 rfl (Nat.le_of_ble_eq_true rfl) (Nat.le_of_ble_eq_true rfl) (k_X5_refuse hX 5 σ hp8) dX3_readsSlack_10 rfl rfl ?_
  have ho := Option.some.inj hf
  subst ho
  exact g_zreturn (pc := 13) (st := []) (x := p8.1) rfl dX3_readsSlack_13 hk
theorem k_X3_readsSlack {X : am_X} (hX : am_wC X) (r0 : Nat) (hr0 : r0 < 3) (σ : am_H) {o : Bool × am_H} (hf : f_X3_readsSlack r0 σ = some o) : am_C X gm_X3_readsSlack [.ref (am_ad X 3 r0), .ref (am_ad X 5 0)] σ (am_is (some (.int (am_b o.1))) o.2) :=
  am_ofG rfl (Nat.le_of_ble_eq_true rfl) rfl (q_X3_readsSlack hX r0 hr0 σ hf ⟨rfl, rfl⟩)
theorem dX3_readsZero_0 : decode cX3_readsZero 0 = .ok (.aload_n 0, 1) := by decide +kernel
theorem dX3_readsZero_1 : decode cX3_readsZero 1 = .ok (.getfield 22, 3) := by decide +kernel
theorem dX3_readsZero_4 : decode cX3_readsZero 4 = .ok (.iconst (-1), 1) := by decide +kernel
theorem dX3_readsZero_5 : decode cX3_readsZero 5 = .ok (.if_icmp .eq 9, 3) := by decide +kernel
theorem dX3_readsZero_8 : decode cX3_readsZero 8 = .ok (.aload_n 1, 1) := by decide +kernel
theorem dX3_readsZero_9 : decode cX3_readsZero 9 = .ok (.iconst 5, 1) := by decide +kernel
theorem dX3_readsZero_10 : decode cX3_readsZero 10 = .ok (.invokevirtual 48, 3) := by decide +kernel
theorem dX3_readsZero_13 : decode cX3_readsZero 13 = .ok (.ireturn, 1) := by decide +kernel
theorem dX3_readsZero_14 : decode cX3_readsZero 14 = .ok (.aload_n 1, 1) := by decide +kernel
theorem dX3_readsZero_15 : decode cX3_readsZero 15 = .ok (.invokevirtual 74, 3) := by decide +kernel
theorem dX3_readsZero_18 : decode cX3_readsZero 18 = .ok (.aload_n 1, 1) := by decide +kernel
theorem dX3_readsZero_19 : decode cX3_readsZero 19 = .ok (.iconst 0, 1) := by decide +kernel
theorem dX3_readsZero_20 : decode cX3_readsZero 20 = .ok (.bipush 99, 2) := by decide +kernel
theorem dX3_readsZero_22 : decode cX3_readsZero 22 = .ok (.invokevirtual 108, 3) := by decide +kernel
theorem dX3_readsZero_25 : decode cX3_readsZero 25 = .ok (.ifCond .ne 5, 3) := by decide +kernel
theorem dX3_readsZero_28 : decode cX3_readsZero 28 = .ok (.iconst 0, 1) := by decide +kernel
theorem dX3_readsZero_29 : decode cX3_readsZero 29 = .ok (.ireturn, 1) := by decide +kernel
theorem dX3_readsZero_30 : decode cX3_readsZero 30 = .ok (.aload_n 0, 1) := by decide +kernel
theorem dX3_readsZero_31 : decode cX3_readsZero 31 = .ok (.aload_n 1, 1) := by decide +kernel
theorem dX3_readsZero_32 : decode cX3_readsZero 32 = .ok (.getfield 112, 3) := by decide +kernel
theorem dX3_readsZero_35 : decode cX3_readsZero 35 = .ok (.putfield 22, 3) := by decide +kernel
theorem dX3_readsZero_38 : decode cX3_readsZero 38 = .ok (.aload_n 1, 1) := by decide +kernel
theorem dX3_readsZero_39 : decode cX3_readsZero 39 = .ok (.invokevirtual 74, 3) := by decide +kernel
theorem dX3_readsZero_42 : decode cX3_readsZero 42 = .ok (.aload_n 1, 1) := by decide +kernel
theorem dX3_readsZero_43 : decode cX3_readsZero 43 = .ok (.invokevirtual 126, 3) := by decide +kernel
theorem dX3_readsZero_46 : decode cX3_readsZero 46 = .ok (.ireturn, 1) := by decide +kernel
noncomputable def f_X3_readsZero (r0 : Nat) (σ : am_H) : Option (Bool × am_H) :=
  if (σ.1 3 r0 6) = (-1) then
   ((f_X5_advance σ).bind fun p2 =>
   (f_X5_standsNumber 0 99 p2).bind fun p3 =>
   if p3.1 = true then
    ((some (am_wI p3.2 3 r0 6 (p3.2.1 5 0 6))).bind fun s5 =>
    (f_X5_advance s5).bind fun p6 =>
    (f_X5_takesSign p6).bind fun p7 =>
    some (p7.1, p7.2))
   else
   some (false, p3.2))
  else
  (f_X5_refuse 5 σ).bind fun p8 =>
  some (p8.1, p8.2)
set_option maxRecDepth 100000 in
set_option maxHeartbeats 4000000 in
theorem q_X3_readsZero {X : am_X} (hX : am_wC X) {Q : Option Value → am_H → Prop} (r0 : Nat) (hr0 : r0 < 3) (σ : am_H) {o : Bool × am_H} (hf : f_X3_readsZero r0 σ = some o) (hk : Q (some (.int (am_b o.1))) o.2) : am_G X gm_X3_readsZero Q 0 [(0, .ref (am_ad X 3 r0)), (1, .ref (am_ad X 5 0))] [] σ := by
  unfold f_X3_readsZero at hf
  refine g_aload_n (pc := 0) 0 rfl dX3_readsZero_0 rfl ?_
  refine g_getI (pc := 1) (in_3 hX.1 (by omega)) fr_X3_22 dX3_readsZero_1 ?_
  refine g_iconst (pc := 4) (v := (-1)) dX3_readsZero_4 (by decide) ?_
  refine bi_eq (pc := 5) 14 dX3_readsZero_5 rfl (fun c1 => ?_) (fun c1 => ?_)
  · replace hf := am_ifT c1 hf
    refine g_aload_n (pc := 14) 1 rfl dX3_readsZero_14 rfl ?_
    obtain ⟨p2, hp2, hf⟩ := am_bd hf
    refine g_cV (pc := 15) (As := []) (st := []) (st1 := []) (in_5 hX.1 (by omega)) kk_5 mV_X5_advance ln_X3_74 rfl (Nat.le_of_ble_eq_true rfl) (Nat.le_of_ble_eq_true rfl) (k_X5_advance hX σ hp2) dX3_readsZero_15 rfl rfl ?_
    refine g_aload_n (pc := 18) 1 rfl dX3_readsZero_18 rfl ?_
    refine g_iconst (pc := 19) (v := 0) dX3_readsZero_19 (by decide) ?_
    refine g_bipush (pc := 20) (v := 99) dX3_readsZero_20 (by decide) ?_
    obtain ⟨p3, hp3, hf⟩ := am_bd hf
    refine g_cV (pc := 22) (As := [.int 0, .int 99]) (st := []) (st1 := [.int (am_b p3.1)]) (in_5 hX.1 (by omega)) kk_5 mV_X5_standsNumber ln_X3_108 rfl (Nat.le_of_ble_eq_true rfl) (Nat.le_of_ble_eq_true rfl) (k_X5_standsNumber hX 0 99 p2 hp3) dX3_readsZero_22 rfl rfl ?_
    refine bt_ne (pc := 25) 30 dX3_readsZero_25 rfl (fun c4 => ?_) (fun c4 => ?_)
    · replace hf := am_ifT c4 hf
      refine g_aload_n (pc := 30) 0 rfl dX3_readsZero_30 rfl ?_
      refine g_aload_n (pc := 31) 1 rfl dX3_readsZero_31 rfl ?_
      refine g_getI (pc := 32) (in_5 hX.1 (by omega)) fr_X3_112 dX3_readsZero_32 ?_
      obtain ⟨s5, hs5, hf⟩ := am_bd hf
      refine g_setI (pc := 35) (in_3 hX.1 (by omega)) fr_X3_22 dX3_readsZero_35 (Option.some.inj hs5) ?_
      refine g_aload_n (pc := 38) 1 rfl dX3_readsZero_38 rfl ?_
      obtain ⟨p6, hp6, hf⟩ := am_bd hf
      refine g_cV (pc := 39) (As := []) (st := []) (st1 := []) (in_5 hX.1 (by omega)) kk_5 mV_X5_advance ln_X3_74 rfl (Nat.le_of_ble_eq_true rfl) (Nat.le_of_ble_eq_true rfl) (k_X5_advance hX s5 hp6) dX3_readsZero_39 rfl rfl ?_
      refine g_aload_n (pc := 42) 1 rfl dX3_readsZero_42 rfl ?_
      obtain ⟨p7, hp7, hf⟩ := am_bd hf
      refine g_cV (pc := 43) (As := []) (st := []) (st1 := [.int (am_b p7.1)]) (in_5 hX.1 (by omega)) kk_5 mV_X5_takesSign ln_X3_126 rfl (Nat.le_of_ble_eq_true rfl) (Nat.le_of_ble_eq_true rfl) (k_X5_takesSign hX p6 hp7) dX3_readsZero_43 rfl rfl ?_
      have ho := Option.some.inj hf
      subst ho
      exact g_zreturn (pc := 46) (st := []) (x := p7.1) rfl dX3_readsZero_46 hk
    replace hf := am_ifF c4 hf
    refine g_iconst (pc := 28) (v := 0) dX3_readsZero_28 (by decide) ?_
    have ho := Option.some.inj hf
    subst ho
    exact g_zreturn (pc := 29) (st := []) (x := false) rfl dX3_readsZero_29 hk
  replace hf := am_ifF c1 hf
  refine g_aload_n (pc := 8) 1 rfl dX3_readsZero_8 rfl ?_
  refine g_iconst (pc := 9) (v := 5) dX3_readsZero_9 (by decide) ?_
  obtain ⟨p8, hp8, hf⟩ := am_bd hf
  refine g_cV (pc := 10) (As := [.int 5]) (st := []) (st1 := [.int (am_b p8.1)]) (in_5 hX.1 (by omega)) kk_5 mV_X5_refuse ln_X3_48 rfl (Nat.le_of_ble_eq_true rfl) (Nat.le_of_ble_eq_true rfl) (k_X5_refuse hX 5 σ hp8) dX3_readsZero_10 rfl rfl ?_
  have ho := Option.some.inj hf
  subst ho
  exact g_zreturn (pc := 13) (st := []) (x := p8.1) rfl dX3_readsZero_13 hk
theorem k_X3_readsZero {X : am_X} (hX : am_wC X) (r0 : Nat) (hr0 : r0 < 3) (σ : am_H) {o : Bool × am_H} (hf : f_X3_readsZero r0 σ = some o) : am_C X gm_X3_readsZero [.ref (am_ad X 3 r0), .ref (am_ad X 5 0)] σ (am_is (some (.int (am_b o.1))) o.2) :=
  am_ofG rfl (Nat.le_of_ble_eq_true rfl) rfl (q_X3_readsZero hX r0 hr0 σ hf ⟨rfl, rfl⟩)
theorem dX3_readsPart_0 : decode cX3_readsPart 0 = .ok (.aload_n 1, 1) := by decide +kernel
theorem dX3_readsPart_1 : decode cX3_readsPart 1 = .ok (.ldc 52, 2) := by decide +kernel
theorem dX3_readsPart_3 : decode cX3_readsPart 3 = .ok (.invokevirtual 54, 3) := by decide +kernel
theorem dX3_readsPart_6 : decode cX3_readsPart 6 = .ok (.ifCond .eq 9, 3) := by decide +kernel
theorem dX3_readsPart_9 : decode cX3_readsPart 9 = .ok (.aload_n 0, 1) := by decide +kernel
theorem dX3_readsPart_10 : decode cX3_readsPart 10 = .ok (.aload_n 1, 1) := by decide +kernel
theorem dX3_readsPart_11 : decode cX3_readsPart 11 = .ok (.invokevirtual 58, 3) := by decide +kernel
theorem dX3_readsPart_14 : decode cX3_readsPart 14 = .ok (.ireturn, 1) := by decide +kernel
theorem dX3_readsPart_15 : decode cX3_readsPart 15 = .ok (.aload_n 1, 1) := by decide +kernel
theorem dX3_readsPart_16 : decode cX3_readsPart 16 = .ok (.ldc 61, 2) := by decide +kernel
theorem dX3_readsPart_18 : decode cX3_readsPart 18 = .ok (.invokevirtual 54, 3) := by decide +kernel
theorem dX3_readsPart_21 : decode cX3_readsPart 21 = .ok (.ifCond .eq 9, 3) := by decide +kernel
theorem dX3_readsPart_24 : decode cX3_readsPart 24 = .ok (.aload_n 0, 1) := by decide +kernel
theorem dX3_readsPart_25 : decode cX3_readsPart 25 = .ok (.aload_n 1, 1) := by decide +kernel
theorem dX3_readsPart_26 : decode cX3_readsPart 26 = .ok (.invokevirtual 63, 3) := by decide +kernel
theorem dX3_readsPart_29 : decode cX3_readsPart 29 = .ok (.ireturn, 1) := by decide +kernel
theorem dX3_readsPart_30 : decode cX3_readsPart 30 = .ok (.aload_n 1, 1) := by decide +kernel
theorem dX3_readsPart_31 : decode cX3_readsPart 31 = .ok (.ldc 66, 2) := by decide +kernel
theorem dX3_readsPart_33 : decode cX3_readsPart 33 = .ok (.invokevirtual 54, 3) := by decide +kernel
theorem dX3_readsPart_36 : decode cX3_readsPart 36 = .ok (.ifCond .eq 9, 3) := by decide +kernel
theorem dX3_readsPart_39 : decode cX3_readsPart 39 = .ok (.aload_n 0, 1) := by decide +kernel
theorem dX3_readsPart_40 : decode cX3_readsPart 40 = .ok (.aload_n 1, 1) := by decide +kernel
theorem dX3_readsPart_41 : decode cX3_readsPart 41 = .ok (.invokevirtual 67, 3) := by decide +kernel
theorem dX3_readsPart_44 : decode cX3_readsPart 44 = .ok (.ireturn, 1) := by decide +kernel
theorem dX3_readsPart_45 : decode cX3_readsPart 45 = .ok (.aload_n 1, 1) := by decide +kernel
theorem dX3_readsPart_46 : decode cX3_readsPart 46 = .ok (.ldc 70, 2) := by decide +kernel
theorem dX3_readsPart_48 : decode cX3_readsPart 48 = .ok (.invokevirtual 54, 3) := by decide +kernel
theorem dX3_readsPart_51 : decode cX3_readsPart 51 = .ok (.ifCond .eq 11, 3) := by decide +kernel
theorem dX3_readsPart_54 : decode cX3_readsPart 54 = .ok (.aload_n 0, 1) := by decide +kernel
theorem dX3_readsPart_55 : decode cX3_readsPart 55 = .ok (.aload_n 1, 1) := by decide +kernel
theorem dX3_readsPart_56 : decode cX3_readsPart 56 = .ok (.invokevirtual 71, 3) := by decide +kernel
theorem dX3_readsPart_59 : decode cX3_readsPart 59 = .ok (.goto 8, 3) := by decide +kernel
theorem dX3_readsPart_62 : decode cX3_readsPart 62 = .ok (.aload_n 1, 1) := by decide +kernel
theorem dX3_readsPart_63 : decode cX3_readsPart 63 = .ok (.iconst 2, 1) := by decide +kernel
theorem dX3_readsPart_64 : decode cX3_readsPart 64 = .ok (.invokevirtual 48, 3) := by decide +kernel
theorem dX3_readsPart_67 : decode cX3_readsPart 67 = .ok (.ireturn, 1) := by decide +kernel
noncomputable def f_X3_readsPart (r0 : Nat) (σ : am_H) : Option (Bool × am_H) :=
  (f_X5_isWord 0 σ).bind fun p1 =>
  if p1 = true then
   ((f_X3_readsWave r0 σ).bind fun p3 =>
   some (p3.1, p3.2))
  else
  (f_X5_isWord 6 σ).bind fun p4 =>
  if p4 = true then
   ((f_X3_readsBox r0 σ).bind fun p6 =>
   some (p6.1, p6.2))
  else
  (f_X5_isWord 8 σ).bind fun p7 =>
  if p7 = true then
   ((f_X3_readsSlack r0 σ).bind fun p9 =>
   some (p9.1, p9.2))
  else
  (f_X5_isWord 9 σ).bind fun p10 =>
  if p10 = true then
   ((f_X3_readsZero r0 σ).bind fun p12 =>
   some (p12.1, p12.2))
  else
  (f_X5_refuse 2 σ).bind fun p13 =>
  some (p13.1, p13.2)
set_option maxRecDepth 100000 in
set_option maxHeartbeats 4000000 in
theorem q_X3_readsPart {X : am_X} (hX : am_wC X) {Q : Option Value → am_H → Prop} (r0 : Nat) (hr0 : r0 < 3) (σ : am_H) {o : Bool × am_H} (hf : f_X3_readsPart r0 σ = some o) (hk : Q (some (.int (am_b o.1))) o.2) : am_G X gm_X3_readsPart Q 0 [(0, .ref (am_ad X 3 r0)), (1, .ref (am_ad X 5 0))] [] σ := by
  unfold f_X3_readsPart at hf
  refine g_aload_n (pc := 0) 1 rfl dX3_readsPart_0 rfl ?_
  refine g_ldcS (pc := 1) 0 hX.2 rfl dX3_readsPart_1 ?_
  obtain ⟨p1, hp1, hf⟩ := am_bd hf
  refine g_cV (pc := 3) (As := [.ref (am_kK X 0)]) (st := []) (st1 := [.int (am_b p1)]) (in_5 hX.1 (by omega)) kk_5 mV_X5_isWord ln_X3_54 rfl (Nat.le_of_ble_eq_true rfl) (Nat.le_of_ble_eq_true rfl) (k_X5_isWord hX 0 (by first | assumption | decide) σ hp1) dX3_readsPart_3 rfl rfl ?_
  refine bt_eq (pc := 6) 15 dX3_readsPart_6 rfl (fun c2 => ?_) (fun c2 => ?_)
  · replace hf := am_ifT c2 hf
    refine g_aload_n (pc := 9) 0 rfl dX3_readsPart_9 rfl ?_
    refine g_aload_n (pc := 10) 1 rfl dX3_readsPart_10 rfl ?_
    obtain ⟨p3, hp3, hf⟩ := am_bd hf
    refine g_cV (pc := 11) (As := [.ref (am_ad X 5 0)]) (st := []) (st1 := [.int (am_b p3.1)]) (in_3 hX.1 (by omega)) kk_3 mV_X3_readsWave ln_X3_58 rfl (Nat.le_of_ble_eq_true rfl) (Nat.le_of_ble_eq_true rfl) (k_X3_readsWave hX r0 (by omega) σ hp3) dX3_readsPart_11 rfl rfl ?_
    have ho := Option.some.inj hf
    subst ho
    exact g_zreturn (pc := 14) (st := []) (x := p3.1) rfl dX3_readsPart_14 hk
  replace hf := am_ifF c2 hf
  refine g_aload_n (pc := 15) 1 rfl dX3_readsPart_15 rfl ?_
  refine g_ldcS (pc := 16) 16 hX.2 rfl dX3_readsPart_16 ?_
  obtain ⟨p4, hp4, hf⟩ := am_bd hf
  refine g_cV (pc := 18) (As := [.ref (am_kK X 6)]) (st := []) (st1 := [.int (am_b p4)]) (in_5 hX.1 (by omega)) kk_5 mV_X5_isWord ln_X3_54 rfl (Nat.le_of_ble_eq_true rfl) (Nat.le_of_ble_eq_true rfl) (k_X5_isWord hX 6 (by first | assumption | decide) σ hp4) dX3_readsPart_18 rfl rfl ?_
  refine bt_eq (pc := 21) 30 dX3_readsPart_21 rfl (fun c5 => ?_) (fun c5 => ?_)
  · replace hf := am_ifT c5 hf
    refine g_aload_n (pc := 24) 0 rfl dX3_readsPart_24 rfl ?_
    refine g_aload_n (pc := 25) 1 rfl dX3_readsPart_25 rfl ?_
    obtain ⟨p6, hp6, hf⟩ := am_bd hf
    refine g_cV (pc := 26) (As := [.ref (am_ad X 5 0)]) (st := []) (st1 := [.int (am_b p6.1)]) (in_3 hX.1 (by omega)) kk_3 mV_X3_readsBox ln_X3_63 rfl (Nat.le_of_ble_eq_true rfl) (Nat.le_of_ble_eq_true rfl) (k_X3_readsBox hX r0 (by omega) σ hp6) dX3_readsPart_26 rfl rfl ?_
    have ho := Option.some.inj hf
    subst ho
    exact g_zreturn (pc := 29) (st := []) (x := p6.1) rfl dX3_readsPart_29 hk
  replace hf := am_ifF c5 hf
  refine g_aload_n (pc := 30) 1 rfl dX3_readsPart_30 rfl ?_
  refine g_ldcS (pc := 31) 18 hX.2 rfl dX3_readsPart_31 ?_
  obtain ⟨p7, hp7, hf⟩ := am_bd hf
  refine g_cV (pc := 33) (As := [.ref (am_kK X 8)]) (st := []) (st1 := [.int (am_b p7)]) (in_5 hX.1 (by omega)) kk_5 mV_X5_isWord ln_X3_54 rfl (Nat.le_of_ble_eq_true rfl) (Nat.le_of_ble_eq_true rfl) (k_X5_isWord hX 8 (by first | assumption | decide) σ hp7) dX3_readsPart_33 rfl rfl ?_
  refine bt_eq (pc := 36) 45 dX3_readsPart_36 rfl (fun c8 => ?_) (fun c8 => ?_)
  · replace hf := am_ifT c8 hf
    refine g_aload_n (pc := 39) 0 rfl dX3_readsPart_39 rfl ?_
    refine g_aload_n (pc := 40) 1 rfl dX3_readsPart_40 rfl ?_
    obtain ⟨p9, hp9, hf⟩ := am_bd hf
    refine g_cV (pc := 41) (As := [.ref (am_ad X 5 0)]) (st := []) (st1 := [.int (am_b p9.1)]) (in_3 hX.1 (by omega)) kk_3 mV_X3_readsSlack ln_X3_67 rfl (Nat.le_of_ble_eq_true rfl) (Nat.le_of_ble_eq_true rfl) (k_X3_readsSlack hX r0 (by omega) σ hp9) dX3_readsPart_41 rfl rfl ?_
    have ho := Option.some.inj hf
    subst ho
    exact g_zreturn (pc := 44) (st := []) (x := p9.1) rfl dX3_readsPart_44 hk
  replace hf := am_ifF c8 hf
  refine g_aload_n (pc := 45) 1 rfl dX3_readsPart_45 rfl ?_
  refine g_ldcS (pc := 46) 19 hX.2 rfl dX3_readsPart_46 ?_
  obtain ⟨p10, hp10, hf⟩ := am_bd hf
  refine g_cV (pc := 48) (As := [.ref (am_kK X 9)]) (st := []) (st1 := [.int (am_b p10)]) (in_5 hX.1 (by omega)) kk_5 mV_X5_isWord ln_X3_54 rfl (Nat.le_of_ble_eq_true rfl) (Nat.le_of_ble_eq_true rfl) (k_X5_isWord hX 9 (by first | assumption | decide) σ hp10) dX3_readsPart_48 rfl rfl ?_
  refine bt_eq (pc := 51) 62 dX3_readsPart_51 rfl (fun c11 => ?_) (fun c11 => ?_)
  · replace hf := am_ifT c11 hf
    refine g_aload_n (pc := 54) 0 rfl dX3_readsPart_54 rfl ?_
    refine g_aload_n (pc := 55) 1 rfl dX3_readsPart_55 rfl ?_
    obtain ⟨p12, hp12, hf⟩ := am_bd hf
    refine g_cV (pc := 56) (As := [.ref (am_ad X 5 0)]) (st := []) (st1 := [.int (am_b p12.1)]) (in_3 hX.1 (by omega)) kk_3 mV_X3_readsZero ln_X3_71 rfl (Nat.le_of_ble_eq_true rfl) (Nat.le_of_ble_eq_true rfl) (k_X3_readsZero hX r0 (by omega) σ hp12) dX3_readsPart_56 rfl rfl ?_
    refine g_goto (pc := 59) 67 dX3_readsPart_59 rfl ?_
    have ho := Option.some.inj hf
    subst ho
    exact g_zreturn (pc := 67) (st := []) (x := p12.1) rfl dX3_readsPart_67 hk
  replace hf := am_ifF c11 hf
  refine g_aload_n (pc := 62) 1 rfl dX3_readsPart_62 rfl ?_
  refine g_iconst (pc := 63) (v := 2) dX3_readsPart_63 (by decide) ?_
  obtain ⟨p13, hp13, hf⟩ := am_bd hf
  refine g_cV (pc := 64) (As := [.int 2]) (st := []) (st1 := [.int (am_b p13.1)]) (in_5 hX.1 (by omega)) kk_5 mV_X5_refuse ln_X3_48 rfl (Nat.le_of_ble_eq_true rfl) (Nat.le_of_ble_eq_true rfl) (k_X5_refuse hX 2 σ hp13) dX3_readsPart_64 rfl rfl ?_
  have ho := Option.some.inj hf
  subst ho
  exact g_zreturn (pc := 67) (st := []) (x := p13.1) rfl dX3_readsPart_67 hk
theorem k_X3_readsPart {X : am_X} (hX : am_wC X) (r0 : Nat) (hr0 : r0 < 3) (σ : am_H) {o : Bool × am_H} (hf : f_X3_readsPart r0 σ = some o) : am_C X gm_X3_readsPart [.ref (am_ad X 3 r0), .ref (am_ad X 5 0)] σ (am_is (some (.int (am_b o.1))) o.2) :=
  am_ofG rfl (Nat.le_of_ble_eq_true rfl) rfl (q_X3_readsPart hX r0 hr0 σ hf ⟨rfl, rfl⟩)
theorem dX3_readFrom_0 : decode cX3_readFrom 0 = .ok (.aload_n 0, 1) := by decide +kernel
theorem dX3_readFrom_1 : decode cX3_readFrom 1 = .ok (.iconst 0, 1) := by decide +kernel
theorem dX3_readFrom_2 : decode cX3_readFrom 2 = .ok (.putfield 32, 3) := by decide +kernel
theorem dX3_readFrom_5 : decode cX3_readFrom 5 = .ok (.aload_n 0, 1) := by decide +kernel
theorem dX3_readFrom_6 : decode cX3_readFrom 6 = .ok (.iconst 0, 1) := by decide +kernel
theorem dX3_readFrom_7 : decode cX3_readFrom 7 = .ok (.putfield 35, 3) := by decide +kernel
theorem dX3_readFrom_10 : decode cX3_readFrom 10 = .ok (.aload_n 0, 1) := by decide +kernel
theorem dX3_readFrom_11 : decode cX3_readFrom 11 = .ok (.iconst (-1), 1) := by decide +kernel
theorem dX3_readFrom_12 : decode cX3_readFrom 12 = .ok (.putfield 18, 3) := by decide +kernel
theorem dX3_readFrom_15 : decode cX3_readFrom 15 = .ok (.aload_n 0, 1) := by decide +kernel
theorem dX3_readFrom_16 : decode cX3_readFrom 16 = .ok (.iconst (-1), 1) := by decide +kernel
theorem dX3_readFrom_17 : decode cX3_readFrom 17 = .ok (.putfield 22, 3) := by decide +kernel
theorem dX3_readFrom_20 : decode cX3_readFrom 20 = .ok (.iconst 0, 1) := by decide +kernel
theorem dX3_readFrom_21 : decode cX3_readFrom 21 = .ok (.istore_n 2, 1) := by decide +kernel
theorem dX3_readFrom_22 : decode cX3_readFrom 22 = .ok (.iload_n 2, 1) := by decide +kernel
theorem dX3_readFrom_23 : decode cX3_readFrom 23 = .ok (.sipush 600, 3) := by decide +kernel
theorem dX3_readFrom_26 : decode cX3_readFrom 26 = .ok (.if_icmp .gt 28, 3) := by decide +kernel
theorem dX3_readFrom_29 : decode cX3_readFrom 29 = .ok (.aload_n 1, 1) := by decide +kernel
theorem dX3_readFrom_30 : decode cX3_readFrom 30 = .ok (.invokevirtual 38, 3) := by decide +kernel
theorem dX3_readFrom_33 : decode cX3_readFrom 33 = .ok (.ifCond .eq 5, 3) := by decide +kernel
theorem dX3_readFrom_36 : decode cX3_readFrom 36 = .ok (.iconst 1, 1) := by decide +kernel
theorem dX3_readFrom_37 : decode cX3_readFrom 37 = .ok (.ireturn, 1) := by decide +kernel
theorem dX3_readFrom_38 : decode cX3_readFrom 38 = .ok (.aload_n 0, 1) := by decide +kernel
theorem dX3_readFrom_39 : decode cX3_readFrom 39 = .ok (.aload_n 1, 1) := by decide +kernel
theorem dX3_readFrom_40 : decode cX3_readFrom 40 = .ok (.invokevirtual 44, 3) := by decide +kernel
theorem dX3_readFrom_43 : decode cX3_readFrom 43 = .ok (.ifCond .ne 5, 3) := by decide +kernel
theorem dX3_readFrom_46 : decode cX3_readFrom 46 = .ok (.iconst 0, 1) := by decide +kernel
theorem dX3_readFrom_47 : decode cX3_readFrom 47 = .ok (.ireturn, 1) := by decide +kernel
theorem dX3_readFrom_48 : decode cX3_readFrom 48 = .ok (.iinc 2 1, 3) := by decide +kernel
theorem dX3_readFrom_51 : decode cX3_readFrom 51 = .ok (.goto (-29), 3) := by decide +kernel
theorem dX3_readFrom_54 : decode cX3_readFrom 54 = .ok (.aload_n 1, 1) := by decide +kernel
theorem dX3_readFrom_55 : decode cX3_readFrom 55 = .ok (.iconst 2, 1) := by decide +kernel
theorem dX3_readFrom_56 : decode cX3_readFrom 56 = .ok (.invokevirtual 48, 3) := by decide +kernel
theorem dX3_readFrom_59 : decode cX3_readFrom 59 = .ok (.ireturn, 1) := by decide +kernel
noncomputable def f_X3_readFrom_22 (r0 : Nat) (v2 : Int32) (σ : am_H) : Option ((Int32 × am_H) ⊕ ((am_H) ⊕ ((am_H) ⊕ (am_H)))) :=
  if 600 < v2 then
   (some (.inr (.inr (.inr σ))))
  else
  (f_X5_isAtEnd σ).bind fun p2 =>
  if p2 = true then
   (some (.inr (.inl σ)))
  else
  (f_X3_readsPart r0 σ).bind fun p4 =>
  if p4.1 = true then
   (some (.inl ((v2 + 1), p4.2)))
  else
  some (.inr (.inr (.inl p4.2)))
set_option maxRecDepth 100000 in
set_option maxHeartbeats 4000000 in
theorem q_X3_readFrom_22 {X : am_X} (hX : am_wC X) {Q : Option Value → am_H → Prop} (r0 : Nat) (v2 : Int32) (hr0 : r0 < 3) (σ : am_H) {o : (Int32 × am_H) ⊕ ((am_H) ⊕ ((am_H) ⊕ (am_H)))} (hf : f_X3_readFrom_22 r0 v2 σ = some o) (hk0 : ∀ s, o = .inl s → am_G X gm_X3_readFrom Q 22 [(0, .ref (am_ad X 3 r0)), (1, .ref (am_ad X 5 0)), (2, .int s.1)] [] s.2) (hk1 : ∀ t, o = .inr (.inl t) → am_G X gm_X3_readFrom Q 36 [] [] t) (hk2 : ∀ t, o = .inr (.inr (.inl t)) → am_G X gm_X3_readFrom Q 46 [] [] t) (hk3 : ∀ t, o = .inr (.inr (.inr t)) → am_G X gm_X3_readFrom Q 54 [(1, .ref (am_ad X 5 0))] [] t) : am_G X gm_X3_readFrom Q 22 [(0, .ref (am_ad X 3 r0)), (1, .ref (am_ad X 5 0)), (2, .int v2)] [] σ := by
  unfold f_X3_readFrom_22 at hf
  refine g_iload_n (pc := 22) 2 rfl dX3_readFrom_22 rfl ?_
  refine g_sipush (pc := 23) (v := 600) dX3_readFrom_23 (by decide) ?_
  refine bi_gt (pc := 26) 54 dX3_readFrom_26 rfl (fun c1 => ?_) (fun c1 => ?_)
  · replace hf := am_ifT c1 hf
    have hz := hk3 _ (Option.some.inj hf).symm
    exact am_sub [1] rfl hz
  replace hf := am_ifF c1 hf
  refine g_aload_n (pc := 29) 1 rfl dX3_readFrom_29 rfl ?_
  obtain ⟨p2, hp2, hf⟩ := am_bd hf
  refine g_cV (pc := 30) (As := []) (st := []) (st1 := [.int (am_b p2)]) (in_5 hX.1 (by omega)) kk_5 mV_X5_isAtEnd ln_X3_38 rfl (Nat.le_of_ble_eq_true rfl) (Nat.le_of_ble_eq_true rfl) (k_X5_isAtEnd hX σ hp2) dX3_readFrom_30 rfl rfl ?_
  refine bt_eq (pc := 33) 38 dX3_readFrom_33 rfl (fun c3 => ?_) (fun c3 => ?_)
  · replace hf := am_ifT c3 hf
    have hz := hk1 _ (Option.some.inj hf).symm
    exact am_sub [] rfl hz
  replace hf := am_ifF c3 hf
  refine g_aload_n (pc := 38) 0 rfl dX3_readFrom_38 rfl ?_
  refine g_aload_n (pc := 39) 1 rfl dX3_readFrom_39 rfl ?_
  obtain ⟨p4, hp4, hf⟩ := am_bd hf
  refine g_cV (pc := 40) (As := [.ref (am_ad X 5 0)]) (st := []) (st1 := [.int (am_b p4.1)]) (in_3 hX.1 (by omega)) kk_3 mV_X3_readsPart ln_X3_44 rfl (Nat.le_of_ble_eq_true rfl) (Nat.le_of_ble_eq_true rfl) (k_X3_readsPart hX r0 (by omega) σ hp4) dX3_readFrom_40 rfl rfl ?_
  refine bt_ne (pc := 43) 48 dX3_readFrom_43 rfl (fun c5 => ?_) (fun c5 => ?_)
  · replace hf := am_ifT c5 hf
    refine g_iinc (pc := 48) (v := (v2 + 1)) 2 [(2, .int (v2 + 1)), (0, .ref (am_ad X 3 r0)), (1, .ref (am_ad X 5 0))] dX3_readFrom_48 rfl rfl (Nat.le_of_ble_eq_true rfl) rfl ?_
    refine g_goto (pc := 51) 22 dX3_readFrom_51 rfl ?_
    have hz := hk0 _ (Option.some.inj hf).symm
    exact am_sub [1, 2, 0] rfl hz
  replace hf := am_ifF c5 hf
  have hz := hk2 _ (Option.some.inj hf).symm
  exact am_sub [] rfl hz
set_option maxRecDepth 100000 in
set_option maxHeartbeats 4000000 in
theorem l_X3_readFrom_22 {X : am_X} (hX : am_wC X) {Q : Option Value → am_H → Prop} (r0 : Nat) (hr0 : r0 < 3) (σ : am_H) (s : Int32 × am_H) {o : (am_H) ⊕ ((am_H) ⊕ (am_H))} (hf : am_loop (fun s => f_X3_readFrom_22 r0 s.1 s.2) s = some o) (hk1 : ∀ t, o = (.inl t) → am_G X gm_X3_readFrom Q 36 [] [] t) (hk2 : ∀ t, o = (.inr (.inl t)) → am_G X gm_X3_readFrom Q 46 [] [] t) (hk3 : ∀ t, o = (.inr (.inr t)) → am_G X gm_X3_readFrom Q 54 [(1, .ref (am_ad X 5 0))] [] t) : am_G X gm_X3_readFrom Q 22 [(0, .ref (am_ad X 3 r0)), (1, .ref (am_ad X 5 0)), (2, .int s.1)] [] s.2 := by
  refine am_loop_ind (P := fun s => am_G X gm_X3_readFrom Q 22 [(0, .ref (am_ad X 3 r0)), (1, .ref (am_ad X 5 0)), (2, .int s.1)] [] s.2) (K := fun r => r = o) ?_ hf rfl
  intro s o1 hb hi hr
  exact q_X3_readFrom_22 hX r0 s.1  hr0 s.2 hb hi (fun t e => hk1 t (hr _ e).symm) (fun t e => hk2 t (hr _ e).symm) (fun t e => hk3 t (hr _ e).symm)
noncomputable def f_X3_readFrom (r0 : Nat) (σ : am_H) : Option (Bool × am_H) :=
  (some (am_wI σ 3 r0 1 0)).bind fun s1 =>
  (some (am_wI s1 3 r0 4 0)).bind fun s2 =>
  (some (am_wI s2 3 r0 5 (-1))).bind fun s3 =>
  (some (am_wI s3 3 r0 6 (-1))).bind fun s4 =>
  (am_loop (fun s => f_X3_readFrom_22 r0 s.1 s.2) (0, s4)).bind fun w5 =>
  Sum.elim (fun t5_0 =>
   some (true, t5_0)) (fun u5_0 =>
   Sum.elim (fun t5_1 =>
    some (false, t5_1)) (fun u5_1 =>
    (f_X5_refuse 2 u5_1).bind fun p6 =>
    some (p6.1, p6.2)) u5_0) w5
set_option maxRecDepth 100000 in
set_option maxHeartbeats 4000000 in
theorem q_X3_readFrom {X : am_X} (hX : am_wC X) {Q : Option Value → am_H → Prop} (r0 : Nat) (hr0 : r0 < 3) (σ : am_H) {o : Bool × am_H} (hf : f_X3_readFrom r0 σ = some o) (hk : Q (some (.int (am_b o.1))) o.2) : am_G X gm_X3_readFrom Q 0 [(0, .ref (am_ad X 3 r0)), (1, .ref (am_ad X 5 0))] [] σ := by
  unfold f_X3_readFrom at hf
  refine g_aload_n (pc := 0) 0 rfl dX3_readFrom_0 rfl ?_
  refine g_iconst (pc := 1) (v := 0) dX3_readFrom_1 (by decide) ?_
  obtain ⟨s1, hs1, hf⟩ := am_bd hf
  refine g_setI (pc := 2) (in_3 hX.1 (by omega)) fr_X3_32 dX3_readFrom_2 (Option.some.inj hs1) ?_
  refine g_aload_n (pc := 5) 0 rfl dX3_readFrom_5 rfl ?_
  refine g_iconst (pc := 6) (v := 0) dX3_readFrom_6 (by decide) ?_
  obtain ⟨s2, hs2, hf⟩ := am_bd hf
  refine g_setI (pc := 7) (in_3 hX.1 (by omega)) fr_X3_35 dX3_readFrom_7 (Option.some.inj hs2) ?_
  refine g_aload_n (pc := 10) 0 rfl dX3_readFrom_10 rfl ?_
  refine g_iconst (pc := 11) (v := (-1)) dX3_readFrom_11 (by decide) ?_
  obtain ⟨s3, hs3, hf⟩ := am_bd hf
  refine g_setI (pc := 12) (in_3 hX.1 (by omega)) fr_X3_18 dX3_readFrom_12 (Option.some.inj hs3) ?_
  refine g_aload_n (pc := 15) 0 rfl dX3_readFrom_15 rfl ?_
  refine g_iconst (pc := 16) (v := (-1)) dX3_readFrom_16 (by decide) ?_
  obtain ⟨s4, hs4, hf⟩ := am_bd hf
  refine g_setI (pc := 17) (in_3 hX.1 (by omega)) fr_X3_22 dX3_readFrom_17 (Option.some.inj hs4) ?_
  refine g_iconst (pc := 20) (v := 0) dX3_readFrom_20 (by decide) ?_
  refine g_istore_n (pc := 21) [(2, .int 0), (0, .ref (am_ad X 3 r0)), (1, .ref (am_ad X 5 0))] dX3_readFrom_21 rfl (Nat.le_of_ble_eq_true rfl) rfl ?_
  obtain ⟨w5, hw5, hf⟩ := am_bd hf
  refine am_sub [1, 2, 0] rfl (l_X3_readFrom_22 hX r0 (by omega) s4 (0, s4) hw5 ?_ ?_ ?_)
  · intro t5_0 e
    subst e
    replace hf := am_elL hf
    refine g_iconst (pc := 36) (v := 1) dX3_readFrom_36 (by decide) ?_
    have ho := Option.some.inj hf
    subst ho
    exact g_zreturn (pc := 37) (st := []) (x := true) rfl dX3_readFrom_37 hk
  · intro t5_1 e
    subst e
    replace hf := am_elR hf
    replace hf := am_elL hf
    refine g_iconst (pc := 46) (v := 0) dX3_readFrom_46 (by decide) ?_
    have ho := Option.some.inj hf
    subst ho
    exact g_zreturn (pc := 47) (st := []) (x := false) rfl dX3_readFrom_47 hk
  · intro u5_1 e
    subst e
    replace hf := am_elR hf
    replace hf := am_elR hf
    refine g_aload_n (pc := 54) 0 rfl dX3_readFrom_54 rfl ?_
    refine g_iconst (pc := 55) (v := 2) dX3_readFrom_55 (by decide) ?_
    obtain ⟨p6, hp6, hf⟩ := am_bd hf
    refine g_cV (pc := 56) (As := [.int 2]) (st := []) (st1 := [.int (am_b p6.1)]) (in_5 hX.1 (by omega)) kk_5 mV_X5_refuse ln_X3_48 rfl (Nat.le_of_ble_eq_true rfl) (Nat.le_of_ble_eq_true rfl) (k_X5_refuse hX 2 u5_1 hp6) dX3_readFrom_56 rfl rfl ?_
    have ho := Option.some.inj hf
    subst ho
    exact g_zreturn (pc := 59) (st := []) (x := p6.1) rfl dX3_readFrom_59 hk
theorem k_X3_readFrom {X : am_X} (hX : am_wC X) (r0 : Nat) (hr0 : r0 < 3) (σ : am_H) {o : Bool × am_H} (hf : f_X3_readFrom r0 σ = some o) : am_C X gm_X3_readFrom [.ref (am_ad X 3 r0), .ref (am_ad X 5 0)] σ (am_is (some (.int (am_b o.1))) o.2) :=
  am_ofG rfl (Nat.le_of_ble_eq_true rfl) rfl (q_X3_readFrom hX r0 hr0 σ hf ⟨rfl, rfl⟩)
theorem dX3_mostSwing_0 : decode cX3_mostSwing 0 = .ok (.iconst 0, 1) := by decide +kernel
theorem dX3_mostSwing_1 : decode cX3_mostSwing 1 = .ok (.istore_n 1, 1) := by decide +kernel
theorem dX3_mostSwing_2 : decode cX3_mostSwing 2 = .ok (.iconst 0, 1) := by decide +kernel
theorem dX3_mostSwing_3 : decode cX3_mostSwing 3 = .ok (.istore_n 2, 1) := by decide +kernel
theorem dX3_mostSwing_4 : decode cX3_mostSwing 4 = .ok (.iload_n 2, 1) := by decide +kernel
theorem dX3_mostSwing_5 : decode cX3_mostSwing 5 = .ok (.aload_n 0, 1) := by decide +kernel
theorem dX3_mostSwing_6 : decode cX3_mostSwing 6 = .ok (.getfield 32, 3) := by decide +kernel
theorem dX3_mostSwing_9 : decode cX3_mostSwing 9 = .ok (.if_icmp .ge 24, 3) := by decide +kernel
theorem dX3_mostSwing_12 : decode cX3_mostSwing 12 = .ok (.iload_n 1, 1) := by decide +kernel
theorem dX3_mostSwing_13 : decode cX3_mostSwing 13 = .ok (.bipush 12, 2) := by decide +kernel
theorem dX3_mostSwing_15 : decode cX3_mostSwing 15 = .ok (.aload_n 0, 1) := by decide +kernel
theorem dX3_mostSwing_16 : decode cX3_mostSwing 16 = .ok (.getfield 27, 3) := by decide +kernel
theorem dX3_mostSwing_19 : decode cX3_mostSwing 19 = .ok (.iload_n 2, 1) := by decide +kernel
theorem dX3_mostSwing_20 : decode cX3_mostSwing 20 = .ok (.aaload, 1) := by decide +kernel
theorem dX3_mostSwing_21 : decode cX3_mostSwing 21 = .ok (.getfield 142, 3) := by decide +kernel
theorem dX3_mostSwing_24 : decode cX3_mostSwing 24 = .ok (.imul, 1) := by decide +kernel
theorem dX3_mostSwing_25 : decode cX3_mostSwing 25 = .ok (.iadd, 1) := by decide +kernel
theorem dX3_mostSwing_26 : decode cX3_mostSwing 26 = .ok (.istore_n 1, 1) := by decide +kernel
theorem dX3_mostSwing_27 : decode cX3_mostSwing 27 = .ok (.iinc 2 1, 3) := by decide +kernel
theorem dX3_mostSwing_30 : decode cX3_mostSwing 30 = .ok (.goto (-26), 3) := by decide +kernel
theorem dX3_mostSwing_33 : decode cX3_mostSwing 33 = .ok (.iload_n 1, 1) := by decide +kernel
theorem dX3_mostSwing_34 : decode cX3_mostSwing 34 = .ok (.ireturn, 1) := by decide +kernel
noncomputable def f_X3_mostSwing_4 (r0 : Nat) (v1 : Int32) (v2 : Int32) (σ : am_H) : Option ((Int32 × Int32) ⊕ (Int32)) :=
  if v2 < (σ.1 3 r0 1) then
   ((am_ix 6 v2).bind fun j2 =>
   some (.inl ((v1 + (12 * (σ.1 10 (6 * r0 + j2) 3))), (v2 + 1))))
  else
  some (.inr v1)
set_option maxRecDepth 100000 in
set_option maxHeartbeats 4000000 in
theorem q_X3_mostSwing_4 {X : am_X} (hX : am_wC X) {Q : Option Value → am_H → Prop} (r0 : Nat) (v1 : Int32) (v2 : Int32) (hr0 : r0 < 3) (σ : am_H) {o : (Int32 × Int32) ⊕ (Int32)} (hf : f_X3_mostSwing_4 r0 v1 v2 σ = some o) (hk0 : ∀ s, o = .inl s → am_G X gm_X3_mostSwing Q 4 [(0, .ref (am_ad X 3 r0)), (1, .int s.1), (2, .int s.2)] [] σ) (hk1 : ∀ t, o = .inr t → am_G X gm_X3_mostSwing Q 33 [(1, .int t)] [] σ) : am_G X gm_X3_mostSwing Q 4 [(0, .ref (am_ad X 3 r0)), (1, .int v1), (2, .int v2)] [] σ := by
  unfold f_X3_mostSwing_4 at hf
  refine g_iload_n (pc := 4) 2 rfl dX3_mostSwing_4 rfl ?_
  refine g_aload_n (pc := 5) 0 rfl dX3_mostSwing_5 rfl ?_
  refine g_getI (pc := 6) (in_3 hX.1 (by omega)) fr_X3_32 dX3_mostSwing_6 ?_
  refine bi_ge (pc := 9) 33 dX3_mostSwing_9 rfl (fun c1 => ?_) (fun c1 => ?_)
  · replace hf := am_ifT c1 hf
    refine g_iload_n (pc := 12) 1 rfl dX3_mostSwing_12 rfl ?_
    refine g_bipush (pc := 13) (v := 12) dX3_mostSwing_13 (by decide) ?_
    refine g_aload_n (pc := 15) 0 rfl dX3_mostSwing_15 rfl ?_
    refine g_getC (pc := 16) (e := r0) (in_3 hX.1 (by omega)) fr_X3_27 dX3_mostSwing_16 rfl ?_
    refine g_iload_n (pc := 19) 2 rfl dX3_mostSwing_19 rfl ?_
    obtain ⟨j2, hj2, hf⟩ := am_bd hf
    have gj2 := am_ix_lt hj2
    refine g_aC (pc := 20) (e := (6 * r0 + j2)) (in_400 hX.1 (by omega)) ak_400 hj2 rfl dX3_mostSwing_20 ?_
    refine g_getI (pc := 21) (in_10 hX.1 (by omega)) fr_X3_142 dX3_mostSwing_21 ?_
    refine g_imul (pc := 24) dX3_mostSwing_24 ?_
    refine g_iadd (pc := 25) dX3_mostSwing_25 ?_
    refine g_istore_n (pc := 26) [(1, .int (v1 + (12 * (σ.1 10 (6 * r0 + j2) 3)))), (0, .ref (am_ad X 3 r0)), (2, .int v2)] dX3_mostSwing_26 rfl (Nat.le_of_ble_eq_true rfl) rfl ?_
    refine g_iinc (pc := 27) (v := (v2 + 1)) 2 [(2, .int (v2 + 1)), (1, .int (v1 + (12 * (σ.1 10 (6 * r0 + j2) 3)))), (0, .ref (am_ad X 3 r0))] dX3_mostSwing_27 rfl rfl (Nat.le_of_ble_eq_true rfl) rfl ?_
    refine g_goto (pc := 30) 4 dX3_mostSwing_30 rfl ?_
    have hz := hk0 _ (Option.some.inj hf).symm
    exact am_sub [2, 1, 0] rfl hz
  replace hf := am_ifF c1 hf
  have hz := hk1 _ (Option.some.inj hf).symm
  exact am_sub [1] rfl hz
set_option maxRecDepth 100000 in
set_option maxHeartbeats 4000000 in
theorem l_X3_mostSwing_4 {X : am_X} (hX : am_wC X) {Q : Option Value → am_H → Prop} (r0 : Nat) (hr0 : r0 < 3) (σ : am_H) (s : Int32 × Int32) {o : Int32} (hf : am_loop (fun s => f_X3_mostSwing_4 r0 s.1 s.2 σ) s = some o) (hk1 : ∀ t, o = t → am_G X gm_X3_mostSwing Q 33 [(1, .int t)] [] σ) : am_G X gm_X3_mostSwing Q 4 [(0, .ref (am_ad X 3 r0)), (1, .int s.1), (2, .int s.2)] [] σ := by
  refine am_loop_ind (P := fun s => am_G X gm_X3_mostSwing Q 4 [(0, .ref (am_ad X 3 r0)), (1, .int s.1), (2, .int s.2)] [] σ) (K := fun r => r = o) ?_ hf rfl
  intro s o1 hb hi hr
  exact q_X3_mostSwing_4 hX r0 s.1 s.2  hr0 σ hb hi (fun t e => hk1 t (hr _ e).symm)
noncomputable def f_X3_mostSwing (r0 : Nat) (σ : am_H) : Option (Int32) :=
  (am_loop (fun s => f_X3_mostSwing_4 r0 s.1 s.2 σ) (0, 0)).bind fun w1 =>
  some w1
set_option maxRecDepth 100000 in
set_option maxHeartbeats 4000000 in
theorem q_X3_mostSwing {X : am_X} (hX : am_wC X) {Q : Option Value → am_H → Prop} (r0 : Nat) (hr0 : r0 < 3) (σ : am_H) {o : Int32} (hf : f_X3_mostSwing r0 σ = some o) (hk : Q (some (.int o)) σ) : am_G X gm_X3_mostSwing Q 0 [(0, .ref (am_ad X 3 r0))] [] σ := by
  unfold f_X3_mostSwing at hf
  refine g_iconst (pc := 0) (v := 0) dX3_mostSwing_0 (by decide) ?_
  refine g_istore_n (pc := 1) [(1, .int 0), (0, .ref (am_ad X 3 r0))] dX3_mostSwing_1 rfl (Nat.le_of_ble_eq_true rfl) rfl ?_
  refine g_iconst (pc := 2) (v := 0) dX3_mostSwing_2 (by decide) ?_
  refine g_istore_n (pc := 3) [(2, .int 0), (1, .int 0), (0, .ref (am_ad X 3 r0))] dX3_mostSwing_3 rfl (Nat.le_of_ble_eq_true rfl) rfl ?_
  obtain ⟨w1, hw1, hf⟩ := am_bd hf
  refine am_sub [2, 1, 0] rfl (l_X3_mostSwing_4 hX r0 (by omega) σ (0, 0) hw1 ?_)
  intro t e
  subst e
  refine g_iload_n (pc := 33) 0 rfl dX3_mostSwing_33 rfl ?_
  have ho := Option.some.inj hf
  subst ho
  exact g_ireturn (pc := 34) (st := []) rfl dX3_mostSwing_34 hk
theorem k_X3_mostSwing {X : am_X} (hX : am_wC X) (r0 : Nat) (hr0 : r0 < 3) (σ : am_H) {o : Int32} (hf : f_X3_mostSwing r0 σ = some o) : am_C X gm_X3_mostSwing [.ref (am_ad X 3 r0)] σ (am_is (some (.int o)) σ) :=
  am_ofG rfl (Nat.le_of_ble_eq_true rfl) rfl (q_X3_mostSwing hX r0 hr0 σ hf ⟨rfl, rfl⟩)
theorem dX3_pointerAt_0 : decode cX3_pointerAt 0 = .ok (.aload_n 0, 1) := by decide +kernel
theorem dX3_pointerAt_1 : decode cX3_pointerAt 1 = .ok (.getfield 18, 3) := by decide +kernel
theorem dX3_pointerAt_4 : decode cX3_pointerAt 4 = .ok (.iconst 0, 1) := by decide +kernel
theorem dX3_pointerAt_5 : decode cX3_pointerAt 5 = .ok (.invokestatic 163, 3) := by decide +kernel
theorem dX3_pointerAt_8 : decode cX3_pointerAt 8 = .ok (.istore_n 3, 1) := by decide +kernel
theorem dX3_pointerAt_9 : decode cX3_pointerAt 9 = .ok (.aload_n 0, 1) := by decide +kernel
theorem dX3_pointerAt_10 : decode cX3_pointerAt 10 = .ok (.iload_n 1, 1) := by decide +kernel
theorem dX3_pointerAt_11 : decode cX3_pointerAt 11 = .ok (.i2l, 1) := by decide +kernel
theorem dX3_pointerAt_12 : decode cX3_pointerAt 12 = .ok (.iconst 1, 1) := by decide +kernel
theorem dX3_pointerAt_13 : decode cX3_pointerAt 13 = .ok (.invokevirtual 188, 3) := by decide +kernel
theorem dX3_pointerAt_16 : decode cX3_pointerAt 16 = .ok (.istore 4, 2) := by decide +kernel
theorem dX3_pointerAt_18 : decode cX3_pointerAt 18 = .ok (.iload_n 1, 1) := by decide +kernel
theorem dX3_pointerAt_19 : decode cX3_pointerAt 19 = .ok (.iconst 1, 1) := by decide +kernel
theorem dX3_pointerAt_20 : decode cX3_pointerAt 20 = .ok (.iadd, 1) := by decide +kernel
theorem dX3_pointerAt_21 : decode cX3_pointerAt 21 = .ok (.istore 5, 2) := by decide +kernel
theorem dX3_pointerAt_23 : decode cX3_pointerAt 23 = .ok (.iload 5, 2) := by decide +kernel
theorem dX3_pointerAt_25 : decode cX3_pointerAt 25 = .ok (.iload_n 2, 1) := by decide +kernel
theorem dX3_pointerAt_26 : decode cX3_pointerAt 26 = .ok (.if_icmp .gt 52, 3) := by decide +kernel
theorem dX3_pointerAt_29 : decode cX3_pointerAt 29 = .ok (.aload_n 0, 1) := by decide +kernel
theorem dX3_pointerAt_30 : decode cX3_pointerAt 30 = .ok (.iload 5, 2) := by decide +kernel
theorem dX3_pointerAt_32 : decode cX3_pointerAt 32 = .ok (.i2l, 1) := by decide +kernel
theorem dX3_pointerAt_33 : decode cX3_pointerAt 33 = .ok (.iconst 1, 1) := by decide +kernel
theorem dX3_pointerAt_34 : decode cX3_pointerAt 34 = .ok (.invokevirtual 188, 3) := by decide +kernel
theorem dX3_pointerAt_37 : decode cX3_pointerAt 37 = .ok (.istore 6, 2) := by decide +kernel
theorem dX3_pointerAt_39 : decode cX3_pointerAt 39 = .ok (.iload 6, 2) := by decide +kernel
theorem dX3_pointerAt_41 : decode cX3_pointerAt 41 = .ok (.iload 4, 2) := by decide +kernel
theorem dX3_pointerAt_43 : decode cX3_pointerAt 43 = .ok (.iload_n 3, 1) := by decide +kernel
theorem dX3_pointerAt_44 : decode cX3_pointerAt 44 = .ok (.iadd, 1) := by decide +kernel
theorem dX3_pointerAt_45 : decode cX3_pointerAt 45 = .ok (.if_icmp .le 12, 3) := by decide +kernel
theorem dX3_pointerAt_48 : decode cX3_pointerAt 48 = .ok (.iload 6, 2) := by decide +kernel
theorem dX3_pointerAt_50 : decode cX3_pointerAt 50 = .ok (.iload_n 3, 1) := by decide +kernel
theorem dX3_pointerAt_51 : decode cX3_pointerAt 51 = .ok (.isub, 1) := by decide +kernel
theorem dX3_pointerAt_52 : decode cX3_pointerAt 52 = .ok (.istore 4, 2) := by decide +kernel
theorem dX3_pointerAt_54 : decode cX3_pointerAt 54 = .ok (.goto 18, 3) := by decide +kernel
theorem dX3_pointerAt_57 : decode cX3_pointerAt 57 = .ok (.iload 6, 2) := by decide +kernel
theorem dX3_pointerAt_59 : decode cX3_pointerAt 59 = .ok (.iload 4, 2) := by decide +kernel
theorem dX3_pointerAt_61 : decode cX3_pointerAt 61 = .ok (.iload_n 3, 1) := by decide +kernel
theorem dX3_pointerAt_62 : decode cX3_pointerAt 62 = .ok (.isub, 1) := by decide +kernel
theorem dX3_pointerAt_63 : decode cX3_pointerAt 63 = .ok (.if_icmp .ge 9, 3) := by decide +kernel
theorem dX3_pointerAt_66 : decode cX3_pointerAt 66 = .ok (.iload 6, 2) := by decide +kernel
theorem dX3_pointerAt_68 : decode cX3_pointerAt 68 = .ok (.iload_n 3, 1) := by decide +kernel
theorem dX3_pointerAt_69 : decode cX3_pointerAt 69 = .ok (.iadd, 1) := by decide +kernel
theorem dX3_pointerAt_70 : decode cX3_pointerAt 70 = .ok (.istore 4, 2) := by decide +kernel
theorem dX3_pointerAt_72 : decode cX3_pointerAt 72 = .ok (.iinc 5 1, 3) := by decide +kernel
theorem dX3_pointerAt_75 : decode cX3_pointerAt 75 = .ok (.goto (-52), 3) := by decide +kernel
theorem dX3_pointerAt_78 : decode cX3_pointerAt 78 = .ok (.iload 4, 2) := by decide +kernel
theorem dX3_pointerAt_80 : decode cX3_pointerAt 80 = .ok (.ireturn, 1) := by decide +kernel
noncomputable def f_X3_pointerAt_23 (r0 : Nat) (v2 : Int32) (v3 : Int32) (v4 : Int32) (v5 : Int32) (σ : am_H) : Option ((Int32 × Int32) ⊕ (Int32)) :=
  if v2 < v5 then
   (some (.inr v4))
  else
  (f_X3_heightAt r0 (Int32.toInt64 v5) true σ).bind fun p2 =>
  if (v4 + v3) < p2 then
   (some (.inl ((p2 - v3), (v5 + 1))))
  else
  if p2 < (v4 - v3) then
   (some (.inl ((p2 + v3), (v5 + 1))))
  else
  some (.inl (v4, (v5 + 1)))
set_option maxRecDepth 100000 in
set_option maxHeartbeats 4000000 in
theorem q_X3_pointerAt_23 {X : am_X} (hX : am_wC X) {Q : Option Value → am_H → Prop} (r0 : Nat) (v2 : Int32) (v3 : Int32) (v4 : Int32) (v5 : Int32) (hr0 : r0 < 3) (σ : am_H) {o : (Int32 × Int32) ⊕ (Int32)} (hf : f_X3_pointerAt_23 r0 v2 v3 v4 v5 σ = some o) (hk0 : ∀ s, o = .inl s → am_G X gm_X3_pointerAt Q 23 [(0, .ref (am_ad X 3 r0)), (2, .int v2), (3, .int v3), (4, .int s.1), (5, .int s.2)] [] σ) (hk1 : ∀ t, o = .inr t → am_G X gm_X3_pointerAt Q 78 [(4, .int t)] [] σ) : am_G X gm_X3_pointerAt Q 23 [(0, .ref (am_ad X 3 r0)), (2, .int v2), (3, .int v3), (4, .int v4), (5, .int v5)] [] σ := by
  unfold f_X3_pointerAt_23 at hf
  refine g_iload (pc := 23) 4 rfl dX3_pointerAt_23 ?_
  refine g_iload_n (pc := 25) 1 rfl dX3_pointerAt_25 rfl ?_
  refine bi_gt (pc := 26) 78 dX3_pointerAt_26 rfl (fun c1 => ?_) (fun c1 => ?_)
  · replace hf := am_ifT c1 hf
    have hz := hk1 _ (Option.some.inj hf).symm
    exact am_sub [3] rfl hz
  replace hf := am_ifF c1 hf
  refine g_aload_n (pc := 29) 0 rfl dX3_pointerAt_29 rfl ?_
  refine g_iload (pc := 30) 4 rfl dX3_pointerAt_30 ?_
  refine g_i2l (pc := 32) dX3_pointerAt_32 ?_
  refine g_iconst (pc := 33) (v := 1) dX3_pointerAt_33 (by decide) ?_
  obtain ⟨p2, hp2, hf⟩ := am_bd hf
  refine g_cV (pc := 34) (As := [.long (Int32.toInt64 v5), .int (am_b true)]) (st := []) (st1 := [.int p2]) (in_3 hX.1 (by omega)) kk_3 mV_X3_heightAt ln_X3_188 rfl (Nat.le_of_ble_eq_true rfl) (Nat.le_of_ble_eq_true rfl) (k_X3_heightAt hX r0 (Int32.toInt64 v5) true (by omega) σ hp2) dX3_pointerAt_34 rfl rfl ?_
  refine g_istore (pc := 37) [(6, .int p2), (0, .ref (am_ad X 3 r0)), (2, .int v2), (3, .int v3), (4, .int v4), (5, .int v5)] dX3_pointerAt_37 (Nat.le_of_ble_eq_true rfl) rfl ?_
  refine g_iload (pc := 39) 0 rfl dX3_pointerAt_39 ?_
  refine g_iload (pc := 41) 4 rfl dX3_pointerAt_41 ?_
  refine g_iload_n (pc := 43) 3 rfl dX3_pointerAt_43 rfl ?_
  refine g_iadd (pc := 44) dX3_pointerAt_44 ?_
  refine bi_le (pc := 45) 57 dX3_pointerAt_45 rfl (fun c3 => ?_) (fun c3 => ?_)
  · replace hf := am_ifT c3 hf
    refine g_iload (pc := 48) 0 rfl dX3_pointerAt_48 ?_
    refine g_iload_n (pc := 50) 3 rfl dX3_pointerAt_50 rfl ?_
    refine g_isub (pc := 51) dX3_pointerAt_51 ?_
    refine g_istore (pc := 52) [(4, .int (p2 - v3)), (6, .int p2), (0, .ref (am_ad X 3 r0)), (2, .int v2), (3, .int v3), (5, .int v5)] dX3_pointerAt_52 (Nat.le_of_ble_eq_true rfl) rfl ?_
    refine g_goto (pc := 54) 72 dX3_pointerAt_54 rfl ?_
    refine g_iinc (pc := 72) (v := (v5 + 1)) 5 [(5, .int (v5 + 1)), (4, .int (p2 - v3)), (6, .int p2), (0, .ref (am_ad X 3 r0)), (2, .int v2), (3, .int v3)] dX3_pointerAt_72 rfl rfl (Nat.le_of_ble_eq_true rfl) rfl ?_
    refine g_goto (pc := 75) 23 dX3_pointerAt_75 rfl ?_
    have hz := hk0 _ (Option.some.inj hf).symm
    exact am_sub [3, 4, 5, 1, 0] rfl hz
  replace hf := am_ifF c3 hf
  refine g_iload (pc := 57) 0 rfl dX3_pointerAt_57 ?_
  refine g_iload (pc := 59) 4 rfl dX3_pointerAt_59 ?_
  refine g_iload_n (pc := 61) 3 rfl dX3_pointerAt_61 rfl ?_
  refine g_isub (pc := 62) dX3_pointerAt_62 ?_
  refine bi_ge (pc := 63) 72 dX3_pointerAt_63 rfl (fun c4 => ?_) (fun c4 => ?_)
  · replace hf := am_ifT c4 hf
    refine g_iload (pc := 66) 0 rfl dX3_pointerAt_66 ?_
    refine g_iload_n (pc := 68) 3 rfl dX3_pointerAt_68 rfl ?_
    refine g_iadd (pc := 69) dX3_pointerAt_69 ?_
    refine g_istore (pc := 70) [(4, .int (p2 + v3)), (6, .int p2), (0, .ref (am_ad X 3 r0)), (2, .int v2), (3, .int v3), (5, .int v5)] dX3_pointerAt_70 (Nat.le_of_ble_eq_true rfl) rfl ?_
    refine g_iinc (pc := 72) (v := (v5 + 1)) 5 [(5, .int (v5 + 1)), (4, .int (p2 + v3)), (6, .int p2), (0, .ref (am_ad X 3 r0)), (2, .int v2), (3, .int v3)] dX3_pointerAt_72 rfl rfl (Nat.le_of_ble_eq_true rfl) rfl ?_
    refine g_goto (pc := 75) 23 dX3_pointerAt_75 rfl ?_
    have hz := hk0 _ (Option.some.inj hf).symm
    exact am_sub [3, 4, 5, 1, 0] rfl hz
  replace hf := am_ifF c4 hf
  refine g_iinc (pc := 72) (v := (v5 + 1)) 5 [(5, .int (v5 + 1)), (6, .int p2), (0, .ref (am_ad X 3 r0)), (2, .int v2), (3, .int v3), (4, .int v4)] dX3_pointerAt_72 rfl rfl (Nat.le_of_ble_eq_true rfl) rfl ?_
  refine g_goto (pc := 75) 23 dX3_pointerAt_75 rfl ?_
  have hz := hk0 _ (Option.some.inj hf).symm
  exact am_sub [2, 3, 4, 5, 0] rfl hz
set_option maxRecDepth 100000 in
set_option maxHeartbeats 4000000 in
theorem l_X3_pointerAt_23 {X : am_X} (hX : am_wC X) {Q : Option Value → am_H → Prop} (r0 : Nat) (v2 : Int32) (v3 : Int32) (hr0 : r0 < 3) (σ : am_H) (s : Int32 × Int32) {o : Int32} (hf : am_loop (fun s => f_X3_pointerAt_23 r0 v2 v3 s.1 s.2 σ) s = some o) (hk1 : ∀ t, o = t → am_G X gm_X3_pointerAt Q 78 [(4, .int t)] [] σ) : am_G X gm_X3_pointerAt Q 23 [(0, .ref (am_ad X 3 r0)), (2, .int v2), (3, .int v3), (4, .int s.1), (5, .int s.2)] [] σ := by
  refine am_loop_ind (P := fun s => am_G X gm_X3_pointerAt Q 23 [(0, .ref (am_ad X 3 r0)), (2, .int v2), (3, .int v3), (4, .int s.1), (5, .int s.2)] [] σ) (K := fun r => r = o) ?_ hf rfl
  intro s o1 hb hi hr
  exact q_X3_pointerAt_23 hX r0 v2 v3 s.1 s.2  hr0 σ hb hi (fun t e => hk1 t (hr _ e).symm)
noncomputable def f_X3_pointerAt (r0 : Nat) (v1 : Int32) (v2 : Int32) (σ : am_H) : Option (Int32) :=
  (f_X3_heightAt r0 (Int32.toInt64 v1) true σ).bind fun p1 =>
  (am_loop (fun s => f_X3_pointerAt_23 r0 v2 (am_mx (σ.1 3 r0 5) 0) s.1 s.2 σ) (p1, (v1 + 1))).bind fun w2 =>
  some w2
set_option maxRecDepth 100000 in
set_option maxHeartbeats 4000000 in
theorem q_X3_pointerAt {X : am_X} (hX : am_wC X) {Q : Option Value → am_H → Prop} (r0 : Nat) (v1 : Int32) (v2 : Int32) (hr0 : r0 < 3) (σ : am_H) {o : Int32} (hf : f_X3_pointerAt r0 v1 v2 σ = some o) (hk : Q (some (.int o)) σ) : am_G X gm_X3_pointerAt Q 0 [(0, .ref (am_ad X 3 r0)), (1, .int v1), (2, .int v2)] [] σ := by
  unfold f_X3_pointerAt at hf
  refine g_aload_n (pc := 0) 0 rfl dX3_pointerAt_0 rfl ?_
  refine g_getI (pc := 1) (in_3 hX.1 (by omega)) fr_X3_18 dX3_pointerAt_1 ?_
  refine g_iconst (pc := 4) (v := 0) dX3_pointerAt_4 (by decide) ?_
  refine g_mmax (pc := 5) (Nat.le_of_ble_eq_true rfl) (Nat.le_of_ble_eq_true rfl) sp_X3_163 dX3_pointerAt_5 ?_
  refine g_istore_n (pc := 8) [(3, .int (am_mx (σ.1 3 r0 5) 0)), (0, .ref (am_ad X 3 r0)), (1, .int v1), (2, .int v2)] dX3_pointerAt_8 rfl (Nat.le_of_ble_eq_true rfl) rfl ?_
  refine g_aload_n (pc := 9) 1 rfl dX3_pointerAt_9 rfl ?_
  refine g_iload_n (pc := 10) 2 rfl dX3_pointerAt_10 rfl ?_
  refine g_i2l (pc := 11) dX3_pointerAt_11 ?_
  refine g_iconst (pc := 12) (v := 1) dX3_pointerAt_12 (by decide) ?_
  obtain ⟨p1, hp1, hf⟩ := am_bd hf
  refine g_cV (pc := 13) (As := [.long (Int32.toInt64 v1), .int (am_b true)]) (st := []) (st1 := [.int p1]) (in_3 hX.1 (by omega)) kk_3 mV_X3_heightAt ln_X3_188 rfl (Nat.le_of_ble_eq_true rfl) (Nat.le_of_ble_eq_true rfl) (k_X3_heightAt hX r0 (Int32.toInt64 v1) true (by omega) σ hp1) dX3_pointerAt_13 rfl rfl ?_
  refine g_istore (pc := 16) [(4, .int p1), (3, .int (am_mx (σ.1 3 r0 5) 0)), (0, .ref (am_ad X 3 r0)), (1, .int v1), (2, .int v2)] dX3_pointerAt_16 (Nat.le_of_ble_eq_true rfl) rfl ?_
  refine g_iload_n (pc := 18) 3 rfl dX3_pointerAt_18 rfl ?_
  refine g_iconst (pc := 19) (v := 1) dX3_pointerAt_19 (by decide) ?_
  refine g_iadd (pc := 20) dX3_pointerAt_20 ?_
  refine g_istore (pc := 21) [(5, .int (v1 + 1)), (4, .int p1), (3, .int (am_mx (σ.1 3 r0 5) 0)), (0, .ref (am_ad X 3 r0)), (1, .int v1), (2, .int v2)] dX3_pointerAt_21 (Nat.le_of_ble_eq_true rfl) rfl ?_
  obtain ⟨w2, hw2, hf⟩ := am_bd hf
  refine am_sub [3, 5, 2, 1, 0] rfl (l_X3_pointerAt_23 hX r0 v2 (am_mx (σ.1 3 r0 5) 0) (by omega) σ (p1, (v1 + 1)) hw2 ?_)
  intro t e
  subst e
  refine g_iload (pc := 78) 0 rfl dX3_pointerAt_78 ?_
  have ho := Option.some.inj hf
  subst ho
  exact g_ireturn (pc := 80) (st := []) rfl dX3_pointerAt_80 hk
theorem k_X3_pointerAt {X : am_X} (hX : am_wC X) (r0 : Nat) (v1 : Int32) (v2 : Int32) (hr0 : r0 < 3) (σ : am_H) {o : Int32} (hf : f_X3_pointerAt r0 v1 v2 σ = some o) : am_C X gm_X3_pointerAt [.ref (am_ad X 3 r0), .int v1, .int v2] σ (am_is (some (.int o)) σ) :=
  am_ofG rfl (Nat.le_of_ble_eq_true rfl) rfl (q_X3_pointerAt hX r0 v1 v2 hr0 σ hf ⟨rfl, rfl⟩)
theorem dX3_extremeHour_0 : decode cX3_extremeHour 0 = .ok (.iload_n 1, 1) := by decide +kernel
theorem dX3_extremeHour_1 : decode cX3_extremeHour 1 = .ok (.istore 5, 2) := by decide +kernel
theorem dX3_extremeHour_3 : decode cX3_extremeHour 3 = .ok (.aload_n 0, 1) := by decide +kernel
theorem dX3_extremeHour_4 : decode cX3_extremeHour 4 = .ok (.iload_n 1, 1) := by decide +kernel
theorem dX3_extremeHour_5 : decode cX3_extremeHour 5 = .ok (.i2l, 1) := by decide +kernel
theorem dX3_extremeHour_6 : decode cX3_extremeHour 6 = .ok (.iload_n 3, 1) := by decide +kernel
theorem dX3_extremeHour_7 : decode cX3_extremeHour 7 = .ok (.invokevirtual 188, 3) := by decide +kernel
theorem dX3_extremeHour_10 : decode cX3_extremeHour 10 = .ok (.istore 6, 2) := by decide +kernel
theorem dX3_extremeHour_12 : decode cX3_extremeHour 12 = .ok (.iload_n 1, 1) := by decide +kernel
theorem dX3_extremeHour_13 : decode cX3_extremeHour 13 = .ok (.iconst 1, 1) := by decide +kernel
theorem dX3_extremeHour_14 : decode cX3_extremeHour 14 = .ok (.iadd, 1) := by decide +kernel
theorem dX3_extremeHour_15 : decode cX3_extremeHour 15 = .ok (.istore 7, 2) := by decide +kernel
theorem dX3_extremeHour_17 : decode cX3_extremeHour 17 = .ok (.iload 7, 2) := by decide +kernel
theorem dX3_extremeHour_19 : decode cX3_extremeHour 19 = .ok (.iload_n 2, 1) := by decide +kernel
theorem dX3_extremeHour_20 : decode cX3_extremeHour 20 = .ok (.if_icmp .gt 49, 3) := by decide +kernel
theorem dX3_extremeHour_23 : decode cX3_extremeHour 23 = .ok (.aload_n 0, 1) := by decide +kernel
theorem dX3_extremeHour_24 : decode cX3_extremeHour 24 = .ok (.iload 7, 2) := by decide +kernel
theorem dX3_extremeHour_26 : decode cX3_extremeHour 26 = .ok (.i2l, 1) := by decide +kernel
theorem dX3_extremeHour_27 : decode cX3_extremeHour 27 = .ok (.iload_n 3, 1) := by decide +kernel
theorem dX3_extremeHour_28 : decode cX3_extremeHour 28 = .ok (.invokevirtual 188, 3) := by decide +kernel
theorem dX3_extremeHour_31 : decode cX3_extremeHour 31 = .ok (.istore 8, 2) := by decide +kernel
theorem dX3_extremeHour_33 : decode cX3_extremeHour 33 = .ok (.iload 4, 2) := by decide +kernel
theorem dX3_extremeHour_35 : decode cX3_extremeHour 35 = .ok (.ifCond .eq 13, 3) := by decide +kernel
theorem dX3_extremeHour_38 : decode cX3_extremeHour 38 = .ok (.iload 8, 2) := by decide +kernel
theorem dX3_extremeHour_40 : decode cX3_extremeHour 40 = .ok (.iload 6, 2) := by decide +kernel
theorem dX3_extremeHour_42 : decode cX3_extremeHour 42 = .ok (.if_icmp .le 21, 3) := by decide +kernel
theorem dX3_extremeHour_45 : decode cX3_extremeHour 45 = .ok (.goto 10, 3) := by decide +kernel
theorem dX3_extremeHour_48 : decode cX3_extremeHour 48 = .ok (.iload 8, 2) := by decide +kernel
theorem dX3_extremeHour_50 : decode cX3_extremeHour 50 = .ok (.iload 6, 2) := by decide +kernel
theorem dX3_extremeHour_52 : decode cX3_extremeHour 52 = .ok (.if_icmp .ge 11, 3) := by decide +kernel
theorem dX3_extremeHour_55 : decode cX3_extremeHour 55 = .ok (.iload 8, 2) := by decide +kernel
theorem dX3_extremeHour_57 : decode cX3_extremeHour 57 = .ok (.istore 6, 2) := by decide +kernel
theorem dX3_extremeHour_59 : decode cX3_extremeHour 59 = .ok (.iload 7, 2) := by decide +kernel
theorem dX3_extremeHour_61 : decode cX3_extremeHour 61 = .ok (.istore 5, 2) := by decide +kernel
theorem dX3_extremeHour_63 : decode cX3_extremeHour 63 = .ok (.iinc 7 1, 3) := by decide +kernel
theorem dX3_extremeHour_66 : decode cX3_extremeHour 66 = .ok (.goto (-49), 3) := by decide +kernel
theorem dX3_extremeHour_69 : decode cX3_extremeHour 69 = .ok (.iload 5, 2) := by decide +kernel
theorem dX3_extremeHour_71 : decode cX3_extremeHour 71 = .ok (.ireturn, 1) := by decide +kernel
noncomputable def f_X3_extremeHour_17 (r0 : Nat) (v2 : Int32) (v3 : Bool) (v4 : Bool) (v5 : Int32) (v6 : Int32) (v7 : Int32) (σ : am_H) : Option ((Int32 × Int32 × Int32) ⊕ (Int32)) :=
  if v2 < v7 then
   (some (.inr v5))
  else
  (f_X3_heightAt r0 (Int32.toInt64 v7) v3 σ).bind fun p2 =>
  if v4 = true then
   (if v6 < p2 then
    (some (.inl (v7, p2, (v7 + 1))))
   else
   some (.inl (v5, v6, (v7 + 1))))
  else
  if p2 < v6 then
   (some (.inl (v7, p2, (v7 + 1))))
  else
  some (.inl (v5, v6, (v7 + 1)))
set_option maxRecDepth 100000 in
set_option maxHeartbeats 4000000 in
theorem q_X3_extremeHour_17 {X : am_X} (hX : am_wC X) {Q : Option Value → am_H → Prop} (r0 : Nat) (v2 : Int32) (v3 : Bool) (v4 : Bool) (v5 : Int32) (v6 : Int32) (v7 : Int32) (hr0 : r0 < 3) (σ : am_H) {o : (Int32 × Int32 × Int32) ⊕ (Int32)} (hf : f_X3_extremeHour_17 r0 v2 v3 v4 v5 v6 v7 σ = some o) (hk0 : ∀ s, o = .inl s → am_G X gm_X3_extremeHour Q 17 [(0, .ref (am_ad X 3 r0)), (2, .int v2), (3, .int (am_b v3)), (4, .int (am_b v4)), (5, .int s.1), (6, .int s.2.1), (7, .int s.2.2)] [] σ) (hk1 : ∀ t, o = .inr t → am_G X gm_X3_extremeHour Q 69 [(5, .int t)] [] σ) : am_G X gm_X3_extremeHour Q 17 [(0, .ref (am_ad X 3 r0)), (2, .int v2), (3, .int (am_b v3)), (4, .int (am_b v4)), (5, .int v5), (6, .int v6), (7, .int v7)] [] σ := by
  unfold f_X3_extremeHour_17 at hf
  refine g_iload (pc := 17) 6 rfl dX3_extremeHour_17 ?_
  refine g_iload_n (pc := 19) 1 rfl dX3_extremeHour_19 rfl ?_
  refine bi_gt (pc := 20) 69 dX3_extremeHour_20 rfl (fun c1 => ?_) (fun c1 => ?_)
  · replace hf := am_ifT c1 hf
    have hz := hk1 _ (Option.some.inj hf).symm
    exact am_sub [4] rfl hz
  replace hf := am_ifF c1 hf
  refine g_aload_n (pc := 23) 0 rfl dX3_extremeHour_23 rfl ?_
  refine g_iload (pc := 24) 6 rfl dX3_extremeHour_24 ?_
  refine g_i2l (pc := 26) dX3_extremeHour_26 ?_
  refine g_iload_n (pc := 27) 2 rfl dX3_extremeHour_27 rfl ?_
  obtain ⟨p2, hp2, hf⟩ := am_bd hf
  refine g_cV (pc := 28) (As := [.long (Int32.toInt64 v7), .int (am_b v3)]) (st := []) (st1 := [.int p2]) (in_3 hX.1 (by omega)) kk_3 mV_X3_heightAt ln_X3_188 rfl (Nat.le_of_ble_eq_true rfl) (Nat.le_of_ble_eq_true rfl) (k_X3_heightAt hX r0 (Int32.toInt64 v7) v3 (by omega) σ hp2) dX3_extremeHour_28 rfl rfl ?_
  refine g_istore (pc := 31) [(8, .int p2), (0, .ref (am_ad X 3 r0)), (2, .int v2), (3, .int (am_b v3)), (4, .int (am_b v4)), (5, .int v5), (6, .int v6), (7, .int v7)] dX3_extremeHour_31 (Nat.le_of_ble_eq_true rfl) rfl ?_
  refine g_iload (pc := 33) 4 rfl dX3_extremeHour_33 ?_
  refine bt_eq (pc := 35) 48 dX3_extremeHour_35 rfl (fun c3 => ?_) (fun c3 => ?_)
  · replace hf := am_ifT c3 hf
    refine g_iload (pc := 38) 0 rfl dX3_extremeHour_38 ?_
    refine g_iload (pc := 40) 6 rfl dX3_extremeHour_40 ?_
    refine bi_le (pc := 42) 63 dX3_extremeHour_42 rfl (fun c4 => ?_) (fun c4 => ?_)
    · replace hf := am_ifT c4 hf
      refine g_goto (pc := 45) 55 dX3_extremeHour_45 rfl ?_
      refine g_iload (pc := 55) 0 rfl dX3_extremeHour_55 ?_
      refine g_istore (pc := 57) [(6, .int p2), (8, .int p2), (0, .ref (am_ad X 3 r0)), (2, .int v2), (3, .int (am_b v3)), (4, .int (am_b v4)), (5, .int v5), (7, .int v7)] dX3_extremeHour_57 (Nat.le_of_ble_eq_true rfl) rfl ?_
      refine g_iload (pc := 59) 7 rfl dX3_extremeHour_59 ?_
      refine g_istore (pc := 61) [(5, .int v7), (6, .int p2), (8, .int p2), (0, .ref (am_ad X 3 r0)), (2, .int v2), (3, .int (am_b v3)), (4, .int (am_b v4)), (7, .int v7)] dX3_extremeHour_61 (Nat.le_of_ble_eq_true rfl) rfl ?_
      refine g_iinc (pc := 63) (v := (v7 + 1)) 7 [(7, .int (v7 + 1)), (5, .int v7), (6, .int p2), (8, .int p2), (0, .ref (am_ad X 3 r0)), (2, .int v2), (3, .int (am_b v3)), (4, .int (am_b v4))] dX3_extremeHour_63 rfl rfl (Nat.le_of_ble_eq_true rfl) rfl ?_
      refine g_goto (pc := 66) 17 dX3_extremeHour_66 rfl ?_
      have hz := hk0 _ (Option.some.inj hf).symm
      exact am_sub [4, 5, 6, 7, 1, 2, 0] rfl hz
    replace hf := am_ifF c4 hf
    refine g_iinc (pc := 63) (v := (v7 + 1)) 7 [(7, .int (v7 + 1)), (8, .int p2), (0, .ref (am_ad X 3 r0)), (2, .int v2), (3, .int (am_b v3)), (4, .int (am_b v4)), (5, .int v5), (6, .int v6)] dX3_extremeHour_63 rfl rfl (Nat.le_of_ble_eq_true rfl) rfl ?_
    refine g_goto (pc := 66) 17 dX3_extremeHour_66 rfl ?_
    have hz := hk0 _ (Option.some.inj hf).symm
    exact am_sub [2, 3, 4, 5, 6, 7, 0] rfl hz
  replace hf := am_ifF c3 hf
  refine g_iload (pc := 48) 0 rfl dX3_extremeHour_48 ?_
  refine g_iload (pc := 50) 6 rfl dX3_extremeHour_50 ?_
  refine bi_ge (pc := 52) 63 dX3_extremeHour_52 rfl (fun c5 => ?_) (fun c5 => ?_)
  · replace hf := am_ifT c5 hf
    refine g_iload (pc := 55) 0 rfl dX3_extremeHour_55 ?_
    refine g_istore (pc := 57) [(6, .int p2), (8, .int p2), (0, .ref (am_ad X 3 r0)), (2, .int v2), (3, .int (am_b v3)), (4, .int (am_b v4)), (5, .int v5), (7, .int v7)] dX3_extremeHour_57 (Nat.le_of_ble_eq_true rfl) rfl ?_
    refine g_iload (pc := 59) 7 rfl dX3_extremeHour_59 ?_
    refine g_istore (pc := 61) [(5, .int v7), (6, .int p2), (8, .int p2), (0, .ref (am_ad X 3 r0)), (2, .int v2), (3, .int (am_b v3)), (4, .int (am_b v4)), (7, .int v7)] dX3_extremeHour_61 (Nat.le_of_ble_eq_true rfl) rfl ?_
    refine g_iinc (pc := 63) (v := (v7 + 1)) 7 [(7, .int (v7 + 1)), (5, .int v7), (6, .int p2), (8, .int p2), (0, .ref (am_ad X 3 r0)), (2, .int v2), (3, .int (am_b v3)), (4, .int (am_b v4))] dX3_extremeHour_63 rfl rfl (Nat.le_of_ble_eq_true rfl) rfl ?_
    refine g_goto (pc := 66) 17 dX3_extremeHour_66 rfl ?_
    have hz := hk0 _ (Option.some.inj hf).symm
    exact am_sub [4, 5, 6, 7, 1, 2, 0] rfl hz
  replace hf := am_ifF c5 hf
  refine g_iinc (pc := 63) (v := (v7 + 1)) 7 [(7, .int (v7 + 1)), (8, .int p2), (0, .ref (am_ad X 3 r0)), (2, .int v2), (3, .int (am_b v3)), (4, .int (am_b v4)), (5, .int v5), (6, .int v6)] dX3_extremeHour_63 rfl rfl (Nat.le_of_ble_eq_true rfl) rfl ?_
  refine g_goto (pc := 66) 17 dX3_extremeHour_66 rfl ?_
  have hz := hk0 _ (Option.some.inj hf).symm
  exact am_sub [2, 3, 4, 5, 6, 7, 0] rfl hz
set_option maxRecDepth 100000 in
set_option maxHeartbeats 4000000 in
theorem l_X3_extremeHour_17 {X : am_X} (hX : am_wC X) {Q : Option Value → am_H → Prop} (r0 : Nat) (v2 : Int32) (v3 : Bool) (v4 : Bool) (hr0 : r0 < 3) (σ : am_H) (s : Int32 × Int32 × Int32) {o : Int32} (hf : am_loop (fun s => f_X3_extremeHour_17 r0 v2 v3 v4 s.1 s.2.1 s.2.2 σ) s = some o) (hk1 : ∀ t, o = t → am_G X gm_X3_extremeHour Q 69 [(5, .int t)] [] σ) : am_G X gm_X3_extremeHour Q 17 [(0, .ref (am_ad X 3 r0)), (2, .int v2), (3, .int (am_b v3)), (4, .int (am_b v4)), (5, .int s.1), (6, .int s.2.1), (7, .int s.2.2)] [] σ := by
  refine am_loop_ind (P := fun s => am_G X gm_X3_extremeHour Q 17 [(0, .ref (am_ad X 3 r0)), (2, .int v2), (3, .int (am_b v3)), (4, .int (am_b v4)), (5, .int s.1), (6, .int s.2.1), (7, .int s.2.2)] [] σ) (K := fun r => r = o) ?_ hf rfl
  intro s o1 hb hi hr
  exact q_X3_extremeHour_17 hX r0 v2 v3 v4 s.1 s.2.1 s.2.2  hr0 σ hb hi (fun t e => hk1 t (hr _ e).symm)
noncomputable def f_X3_extremeHour (r0 : Nat) (v1 : Int32) (v2 : Int32) (v3 : Bool) (v4 : Bool) (σ : am_H) : Option (Int32) :=
  (f_X3_heightAt r0 (Int32.toInt64 v1) v3 σ).bind fun p1 =>
  (am_loop (fun s => f_X3_extremeHour_17 r0 v2 v3 v4 s.1 s.2.1 s.2.2 σ) (v1, p1, (v1 + 1))).bind fun w2 =>
  some w2
set_option maxRecDepth 100000 in
set_option maxHeartbeats 4000000 in
theorem q_X3_extremeHour {X : am_X} (hX : am_wC X) {Q : Option Value → am_H → Prop} (r0 : Nat) (v1 : Int32) (v2 : Int32) (v3 : Bool) (v4 : Bool) (hr0 : r0 < 3) (σ : am_H) {o : Int32} (hf : f_X3_extremeHour r0 v1 v2 v3 v4 σ = some o) (hk : Q (some (.int o)) σ) : am_G X gm_X3_extremeHour Q 0 [(0, .ref (am_ad X 3 r0)), (1, .int v1), (2, .int v2), (3, .int (am_b v3)), (4, .int (am_b v4))] [] σ := by
  unfold f_X3_extremeHour at hf
  refine g_iload_n (pc := 0) 1 rfl dX3_extremeHour_0 rfl ?_
  refine g_istore (pc := 1) [(5, .int v1), (0, .ref (am_ad X 3 r0)), (1, .int v1), (2, .int v2), (3, .int (am_b v3)), (4, .int (am_b v4))] dX3_extremeHour_1 (Nat.le_of_ble_eq_true rfl) rfl ?_
  refine g_aload_n (pc := 3) 1 rfl dX3_extremeHour_3 rfl ?_
  refine g_iload_n (pc := 4) 2 rfl dX3_extremeHour_4 rfl ?_
  refine g_i2l (pc := 5) dX3_extremeHour_5 ?_
  refine g_iload_n (pc := 6) 4 rfl dX3_extremeHour_6 rfl ?_
  obtain ⟨p1, hp1, hf⟩ := am_bd hf
  refine g_cV (pc := 7) (As := [.long (Int32.toInt64 v1), .int (am_b v3)]) (st := []) (st1 := [.int p1]) (in_3 hX.1 (by omega)) kk_3 mV_X3_heightAt ln_X3_188 rfl (Nat.le_of_ble_eq_true rfl) (Nat.le_of_ble_eq_true rfl) (k_X3_heightAt hX r0 (Int32.toInt64 v1) v3 (by omega) σ hp1) dX3_extremeHour_7 rfl rfl ?_
  refine g_istore (pc := 10) [(6, .int p1), (5, .int v1), (0, .ref (am_ad X 3 r0)), (1, .int v1), (2, .int v2), (3, .int (am_b v3)), (4, .int (am_b v4))] dX3_extremeHour_10 (Nat.le_of_ble_eq_true rfl) rfl ?_
  refine g_iload_n (pc := 12) 3 rfl dX3_extremeHour_12 rfl ?_
  refine g_iconst (pc := 13) (v := 1) dX3_extremeHour_13 (by decide) ?_
  refine g_iadd (pc := 14) dX3_extremeHour_14 ?_
  refine g_istore (pc := 15) [(7, .int (v1 + 1)), (6, .int p1), (5, .int v1), (0, .ref (am_ad X 3 r0)), (1, .int v1), (2, .int v2), (3, .int (am_b v3)), (4, .int (am_b v4))] dX3_extremeHour_15 (Nat.le_of_ble_eq_true rfl) rfl ?_
  obtain ⟨w2, hw2, hf⟩ := am_bd hf
  refine am_sub [3, 5, 6, 7, 2, 1, 0] rfl (l_X3_extremeHour_17 hX r0 v2 v3 v4 (by omega) σ (v1, p1, (v1 + 1)) hw2 ?_)
  intro t e
  subst e
  refine g_iload (pc := 69) 0 rfl dX3_extremeHour_69 ?_
  have ho := Option.some.inj hf
  subst ho
  exact g_ireturn (pc := 71) (st := []) rfl dX3_extremeHour_71 hk
theorem k_X3_extremeHour {X : am_X} (hX : am_wC X) (r0 : Nat) (v1 : Int32) (v2 : Int32) (v3 : Bool) (v4 : Bool) (hr0 : r0 < 3) (σ : am_H) {o : Int32} (hf : f_X3_extremeHour r0 v1 v2 v3 v4 σ = some o) : am_C X gm_X3_extremeHour [.ref (am_ad X 3 r0), .int v1, .int v2, .int (am_b v3), .int (am_b v4)] σ (am_is (some (.int o)) σ) :=
  am_ofG rfl (Nat.le_of_ble_eq_true rfl) rfl (q_X3_extremeHour hX r0 v1 v2 v3 v4 hr0 σ hf ⟨rfl, rfl⟩)
theorem dX3_lastHourOf_0 : decode cX3_lastHourOf 0 = .ok (.bipush 24, 2) := by decide +kernel
theorem dX3_lastHourOf_2 : decode cX3_lastHourOf 2 = .ok (.iload_n 0, 1) := by decide +kernel
theorem dX3_lastHourOf_3 : decode cX3_lastHourOf 3 = .ok (.imul, 1) := by decide +kernel
theorem dX3_lastHourOf_4 : decode cX3_lastHourOf 4 = .ok (.bipush 24, 2) := by decide +kernel
theorem dX3_lastHourOf_6 : decode cX3_lastHourOf 6 = .ok (.iadd, 1) := by decide +kernel
theorem dX3_lastHourOf_7 : decode cX3_lastHourOf 7 = .ok (.iconst 1, 1) := by decide +kernel
theorem dX3_lastHourOf_8 : decode cX3_lastHourOf 8 = .ok (.isub, 1) := by decide +kernel
theorem dX3_lastHourOf_9 : decode cX3_lastHourOf 9 = .ok (.ldc 191, 2) := by decide +kernel
theorem dX3_lastHourOf_11 : decode cX3_lastHourOf 11 = .ok (.invokestatic 185, 3) := by decide +kernel
theorem dX3_lastHourOf_14 : decode cX3_lastHourOf 14 = .ok (.ireturn, 1) := by decide +kernel
noncomputable def f_X3_lastHourOf (v0 : Int32) (σ : am_H) : Option (Int32) :=
  some (am_mn (((24 * v0) + 24) - 1) 99999)
set_option maxRecDepth 100000 in
set_option maxHeartbeats 4000000 in
theorem q_X3_lastHourOf {X : am_X} (hX : am_wC X) {Q : Option Value → am_H → Prop} (v0 : Int32) (σ : am_H) {o : Int32} (hf : f_X3_lastHourOf v0 σ = some o) (hk : Q (some (.int o)) σ) : am_G X gm_X3_lastHourOf Q 0 [(0, .int v0)] [] σ := by
  unfold f_X3_lastHourOf at hf
  refine g_bipush (pc := 0) (v := 24) dX3_lastHourOf_0 (by decide) ?_
  refine g_iload_n (pc := 2) 0 rfl dX3_lastHourOf_2 rfl ?_
  refine g_imul (pc := 3) dX3_lastHourOf_3 ?_
  refine g_bipush (pc := 4) (v := 24) dX3_lastHourOf_4 (by decide) ?_
  refine g_iadd (pc := 6) dX3_lastHourOf_6 ?_
  refine g_iconst (pc := 7) (v := 1) dX3_lastHourOf_7 (by decide) ?_
  refine g_isub (pc := 8) dX3_lastHourOf_8 ?_
  refine g_ldc (pc := 9) (v := 99999) (tb_6 (List.mem_of_getElem? (i := 66) (by decide +kernel))) dX3_lastHourOf_9 ?_
  refine g_mmin (pc := 11) (Nat.le_of_ble_eq_true rfl) (Nat.le_of_ble_eq_true rfl) sp_X3_185 dX3_lastHourOf_11 ?_
  have ho := Option.some.inj hf
  subst ho
  exact g_ireturn (pc := 14) (st := []) rfl dX3_lastHourOf_14 hk
theorem k_X3_lastHourOf {X : am_X} (hX : am_wC X) (v0 : Int32) (σ : am_H) {o : Int32} (hf : f_X3_lastHourOf v0 σ = some o) : am_C X gm_X3_lastHourOf [.int v0] σ (am_is (some (.int o)) σ) :=
  am_ofG rfl (Nat.le_of_ble_eq_true rfl) rfl (q_X3_lastHourOf hX v0 σ hf ⟨rfl, rfl⟩)
theorem dX3_rangeOf_0 : decode cX3_rangeOf 0 = .ok (.bipush 24, 2) := by decide +kernel
theorem dX3_rangeOf_2 : decode cX3_rangeOf 2 = .ok (.iload_n 1, 1) := by decide +kernel
theorem dX3_rangeOf_3 : decode cX3_rangeOf 3 = .ok (.imul, 1) := by decide +kernel
theorem dX3_rangeOf_4 : decode cX3_rangeOf 4 = .ok (.istore_n 3, 1) := by decide +kernel
theorem dX3_rangeOf_5 : decode cX3_rangeOf 5 = .ok (.iload_n 1, 1) := by decide +kernel
theorem dX3_rangeOf_6 : decode cX3_rangeOf 6 = .ok (.invokestatic 192, 3) := by decide +kernel
theorem dX3_rangeOf_9 : decode cX3_rangeOf 9 = .ok (.istore 4, 2) := by decide +kernel
theorem dX3_rangeOf_11 : decode cX3_rangeOf 11 = .ok (.aload_n 0, 1) := by decide +kernel
theorem dX3_rangeOf_12 : decode cX3_rangeOf 12 = .ok (.aload_n 0, 1) := by decide +kernel
theorem dX3_rangeOf_13 : decode cX3_rangeOf 13 = .ok (.iload_n 3, 1) := by decide +kernel
theorem dX3_rangeOf_14 : decode cX3_rangeOf 14 = .ok (.iload 4, 2) := by decide +kernel
theorem dX3_rangeOf_16 : decode cX3_rangeOf 16 = .ok (.iload_n 2, 1) := by decide +kernel
theorem dX3_rangeOf_17 : decode cX3_rangeOf 17 = .ok (.iconst 1, 1) := by decide +kernel
theorem dX3_rangeOf_18 : decode cX3_rangeOf 18 = .ok (.invokevirtual 196, 3) := by decide +kernel
theorem dX3_rangeOf_21 : decode cX3_rangeOf 21 = .ok (.i2l, 1) := by decide +kernel
theorem dX3_rangeOf_22 : decode cX3_rangeOf 22 = .ok (.iload_n 2, 1) := by decide +kernel
theorem dX3_rangeOf_23 : decode cX3_rangeOf 23 = .ok (.invokevirtual 188, 3) := by decide +kernel
theorem dX3_rangeOf_26 : decode cX3_rangeOf 26 = .ok (.istore 5, 2) := by decide +kernel
theorem dX3_rangeOf_28 : decode cX3_rangeOf 28 = .ok (.iload 5, 2) := by decide +kernel
theorem dX3_rangeOf_30 : decode cX3_rangeOf 30 = .ok (.aload_n 0, 1) := by decide +kernel
theorem dX3_rangeOf_31 : decode cX3_rangeOf 31 = .ok (.aload_n 0, 1) := by decide +kernel
theorem dX3_rangeOf_32 : decode cX3_rangeOf 32 = .ok (.iload_n 3, 1) := by decide +kernel
theorem dX3_rangeOf_33 : decode cX3_rangeOf 33 = .ok (.iload 4, 2) := by decide +kernel
theorem dX3_rangeOf_35 : decode cX3_rangeOf 35 = .ok (.iload_n 2, 1) := by decide +kernel
theorem dX3_rangeOf_36 : decode cX3_rangeOf 36 = .ok (.iconst 0, 1) := by decide +kernel
theorem dX3_rangeOf_37 : decode cX3_rangeOf 37 = .ok (.invokevirtual 196, 3) := by decide +kernel
theorem dX3_rangeOf_40 : decode cX3_rangeOf 40 = .ok (.i2l, 1) := by decide +kernel
theorem dX3_rangeOf_41 : decode cX3_rangeOf 41 = .ok (.iload_n 2, 1) := by decide +kernel
theorem dX3_rangeOf_42 : decode cX3_rangeOf 42 = .ok (.invokevirtual 188, 3) := by decide +kernel
theorem dX3_rangeOf_45 : decode cX3_rangeOf 45 = .ok (.isub, 1) := by decide +kernel
theorem dX3_rangeOf_46 : decode cX3_rangeOf 46 = .ok (.ireturn, 1) := by decide +kernel
noncomputable def f_X3_rangeOf (r0 : Nat) (v1 : Int32) (v2 : Bool) (σ : am_H) : Option (Int32) :=
  (f_X3_lastHourOf v1 σ).bind fun p1 =>
  (f_X3_extremeHour r0 (24 * v1) p1 v2 true σ).bind fun p2 =>
  (f_X3_heightAt r0 (Int32.toInt64 p2) v2 σ).bind fun p3 =>
  (f_X3_extremeHour r0 (24 * v1) p1 v2 false σ).bind fun p4 =>
  (f_X3_heightAt r0 (Int32.toInt64 p4) v2 σ).bind fun p5 =>
  some (p3 - p5)
set_option maxRecDepth 100000 in
set_option maxHeartbeats 4000000 in
theorem q_X3_rangeOf {X : am_X} (hX : am_wC X) {Q : Option Value → am_H → Prop} (r0 : Nat) (v1 : Int32) (v2 : Bool) (hr0 : r0 < 3) (σ : am_H) {o : Int32} (hf : f_X3_rangeOf r0 v1 v2 σ = some o) (hk : Q (some (.int o)) σ) : am_G X gm_X3_rangeOf Q 0 [(0, .ref (am_ad X 3 r0)), (1, .int v1), (2, .int (am_b v2))] [] σ := by
  unfold f_X3_rangeOf at hf
  refine g_bipush (pc := 0) (v := 24) dX3_rangeOf_0 (by decide) ?_
  refine g_iload_n (pc := 2) 1 rfl dX3_rangeOf_2 rfl ?_
  refine g_imul (pc := 3) dX3_rangeOf_3 ?_
  refine g_istore_n (pc := 4) [(3, .int (24 * v1)), (0, .ref (am_ad X 3 r0)), (1, .int v1), (2, .int (am_b v2))] dX3_rangeOf_4 rfl (Nat.le_of_ble_eq_true rfl) rfl ?_
  refine g_iload_n (pc := 5) 2 rfl dX3_rangeOf_5 rfl ?_
  obtain ⟨p1, hp1, hf⟩ := am_bd hf
  refine g_cS (pc := 6) (As := [.int v1]) (st := []) (st1 := [.int p1]) mS_X3_lastHourOf ln_X3_192 rfl (Nat.le_of_ble_eq_true rfl) (Nat.le_of_ble_eq_true rfl) (k_X3_lastHourOf hX v1 σ hp1) dX3_rangeOf_6 rfl rfl ?_
  refine g_istore (pc := 9) [(4, .int p1), (3, .int (24 * v1)), (0, .ref (am_ad X 3 r0)), (1, .int v1), (2, .int (am_b v2))] dX3_rangeOf_9 (Nat.le_of_ble_eq_true rfl) rfl ?_
  refine g_aload_n (pc := 11) 2 rfl dX3_rangeOf_11 rfl ?_
  refine g_aload_n (pc := 12) 2 rfl dX3_rangeOf_12 rfl ?_
  refine g_iload_n (pc := 13) 1 rfl dX3_rangeOf_13 rfl ?_
  refine g_iload (pc := 14) 0 rfl dX3_rangeOf_14 ?_
  refine g_iload_n (pc := 16) 4 rfl dX3_rangeOf_16 rfl ?_
  refine g_iconst (pc := 17) (v := 1) dX3_rangeOf_17 (by decide) ?_
  obtain ⟨p2, hp2, hf⟩ := am_bd hf
  refine g_cV (pc := 18) (As := [.int (24 * v1), .int p1, .int (am_b v2), .int (am_b true)]) (st := [.ref (am_ad X 3 r0)]) (st1 := [.int p2, .ref (am_ad X 3 r0)]) (in_3 hX.1 (by omega)) kk_3 mV_X3_extremeHour ln_X3_196 rfl (Nat.le_of_ble_eq_true rfl) (Nat.le_of_ble_eq_true rfl) (k_X3_extremeHour hX r0 (24 * v1) p1 v2 true (by omega) σ hp2) dX3_rangeOf_18 rfl rfl ?_
  refine g_i2l (pc := 21) dX3_rangeOf_21 ?_
  refine g_iload_n (pc := 22) 4 rfl dX3_rangeOf_22 rfl ?_
  obtain ⟨p3, hp3, hf⟩ := am_bd hf
  refine g_cV (pc := 23) (As := [.long (Int32.toInt64 p2), .int (am_b v2)]) (st := []) (st1 := [.int p3]) (in_3 hX.1 (by omega)) kk_3 mV_X3_heightAt ln_X3_188 rfl (Nat.le_of_ble_eq_true rfl) (Nat.le_of_ble_eq_true rfl) (k_X3_heightAt hX r0 (Int32.toInt64 p2) v2 (by omega) σ hp3) dX3_rangeOf_23 rfl rfl ?_
  refine g_istore (pc := 26) [(5, .int p3), (4, .int p1), (3, .int (24 * v1)), (0, .ref (am_ad X 3 r0)), (1, .int v1), (2, .int (am_b v2))] dX3_rangeOf_26 (Nat.le_of_ble_eq_true rfl) rfl ?_
  refine g_iload (pc := 28) 0 rfl dX3_rangeOf_28 ?_
  refine g_aload_n (pc := 30) 3 rfl dX3_rangeOf_30 rfl ?_
  refine g_aload_n (pc := 31) 3 rfl dX3_rangeOf_31 rfl ?_
  refine g_iload_n (pc := 32) 2 rfl dX3_rangeOf_32 rfl ?_
  refine g_iload (pc := 33) 1 rfl dX3_rangeOf_33 ?_
  refine g_iload_n (pc := 35) 5 rfl dX3_rangeOf_35 rfl ?_
  refine g_iconst (pc := 36) (v := 0) dX3_rangeOf_36 (by decide) ?_
  obtain ⟨p4, hp4, hf⟩ := am_bd hf
  refine g_cV (pc := 37) (As := [.int (24 * v1), .int p1, .int (am_b v2), .int (am_b false)]) (st := [.ref (am_ad X 3 r0), .int p3]) (st1 := [.int p4, .ref (am_ad X 3 r0), .int p3]) (in_3 hX.1 (by omega)) kk_3 mV_X3_extremeHour ln_X3_196 rfl (Nat.le_of_ble_eq_true rfl) (Nat.le_of_ble_eq_true rfl) (k_X3_extremeHour hX r0 (24 * v1) p1 v2 false (by omega) σ hp4) dX3_rangeOf_37 rfl rfl ?_
  refine g_i2l (pc := 40) dX3_rangeOf_40 ?_
  refine g_iload_n (pc := 41) 5 rfl dX3_rangeOf_41 rfl ?_
  obtain ⟨p5, hp5, hf⟩ := am_bd hf
  refine g_cV (pc := 42) (As := [.long (Int32.toInt64 p4), .int (am_b v2)]) (st := [.int p3]) (st1 := [.int p5, .int p3]) (in_3 hX.1 (by omega)) kk_3 mV_X3_heightAt ln_X3_188 rfl (Nat.le_of_ble_eq_true rfl) (Nat.le_of_ble_eq_true rfl) (k_X3_heightAt hX r0 (Int32.toInt64 p4) v2 (by omega) σ hp5) dX3_rangeOf_42 rfl rfl ?_
  refine g_isub (pc := 45) dX3_rangeOf_45 ?_
  have ho := Option.some.inj hf
  subst ho
  exact g_ireturn (pc := 46) (st := []) rfl dX3_rangeOf_46 hk
theorem k_X3_rangeOf {X : am_X} (hX : am_wC X) (r0 : Nat) (v1 : Int32) (v2 : Bool) (hr0 : r0 < 3) (σ : am_H) {o : Int32} (hf : f_X3_rangeOf r0 v1 v2 σ = some o) : am_C X gm_X3_rangeOf [.ref (am_ad X 3 r0), .int v1, .int (am_b v2)] σ (am_is (some (.int o)) σ) :=
  am_ofG rfl (Nat.le_of_ble_eq_true rfl) rfl (q_X3_rangeOf hX r0 v1 v2 hr0 σ hf ⟨rfl, rfl⟩)
theorem dX3_nextWater_0 : decode cX3_nextWater 0 = .ok (.iload_n 1, 1) := by decide +kernel
theorem dX3_nextWater_1 : decode cX3_nextWater 1 = .ok (.iconst 1, 1) := by decide +kernel
theorem dX3_nextWater_2 : decode cX3_nextWater 2 = .ok (.invokestatic 163, 3) := by decide +kernel
theorem dX3_nextWater_5 : decode cX3_nextWater 5 = .ok (.istore 5, 2) := by decide +kernel
theorem dX3_nextWater_7 : decode cX3_nextWater 7 = .ok (.iconst (-1), 1) := by decide +kernel
theorem dX3_nextWater_8 : decode cX3_nextWater 8 = .ok (.istore 6, 2) := by decide +kernel
theorem dX3_nextWater_10 : decode cX3_nextWater 10 = .ok (.aload_n 0, 1) := by decide +kernel
theorem dX3_nextWater_11 : decode cX3_nextWater 11 = .ok (.iload 5, 2) := by decide +kernel
theorem dX3_nextWater_13 : decode cX3_nextWater 13 = .ok (.iconst 1, 1) := by decide +kernel
theorem dX3_nextWater_14 : decode cX3_nextWater 14 = .ok (.isub, 1) := by decide +kernel
theorem dX3_nextWater_15 : decode cX3_nextWater 15 = .ok (.i2l, 1) := by decide +kernel
theorem dX3_nextWater_16 : decode cX3_nextWater 16 = .ok (.iload 4, 2) := by decide +kernel
theorem dX3_nextWater_18 : decode cX3_nextWater 18 = .ok (.invokevirtual 188, 3) := by decide +kernel
theorem dX3_nextWater_21 : decode cX3_nextWater 21 = .ok (.istore 7, 2) := by decide +kernel
theorem dX3_nextWater_23 : decode cX3_nextWater 23 = .ok (.aload_n 0, 1) := by decide +kernel
theorem dX3_nextWater_24 : decode cX3_nextWater 24 = .ok (.invokevirtual 203, 3) := by decide +kernel
theorem dX3_nextWater_27 : decode cX3_nextWater 27 = .ok (.ifCond .ne 7, 3) := by decide +kernel
theorem dX3_nextWater_30 : decode cX3_nextWater 30 = .ok (.iconst (-1), 1) := by decide +kernel
theorem dX3_nextWater_31 : decode cX3_nextWater 31 = .ok (.goto 5, 3) := by decide +kernel
theorem dX3_nextWater_34 : decode cX3_nextWater 34 = .ok (.ldc 206, 2) := by decide +kernel
theorem dX3_nextWater_36 : decode cX3_nextWater 36 = .ok (.istore 8, 2) := by decide +kernel
theorem dX3_nextWater_38 : decode cX3_nextWater 38 = .ok (.iload 5, 2) := by decide +kernel
theorem dX3_nextWater_40 : decode cX3_nextWater 40 = .ok (.istore 9, 2) := by decide +kernel
theorem dX3_nextWater_42 : decode cX3_nextWater 42 = .ok (.iload 9, 2) := by decide +kernel
theorem dX3_nextWater_44 : decode cX3_nextWater 44 = .ok (.iload 8, 2) := by decide +kernel
theorem dX3_nextWater_46 : decode cX3_nextWater 46 = .ok (.if_icmp .gt 107, 3) := by decide +kernel
theorem dX3_nextWater_49 : decode cX3_nextWater 49 = .ok (.iload 9, 2) := by decide +kernel
theorem dX3_nextWater_51 : decode cX3_nextWater 51 = .ok (.iload_n 2, 1) := by decide +kernel
theorem dX3_nextWater_52 : decode cX3_nextWater 52 = .ok (.if_icmp .le 9, 3) := by decide +kernel
theorem dX3_nextWater_55 : decode cX3_nextWater 55 = .ok (.iload 6, 2) := by decide +kernel
theorem dX3_nextWater_57 : decode cX3_nextWater 57 = .ok (.iconst (-1), 1) := by decide +kernel
theorem dX3_nextWater_58 : decode cX3_nextWater 58 = .ok (.if_icmp .eq 95, 3) := by decide +kernel
theorem dX3_nextWater_61 : decode cX3_nextWater 61 = .ok (.aload_n 0, 1) := by decide +kernel
theorem dX3_nextWater_62 : decode cX3_nextWater 62 = .ok (.iload 9, 2) := by decide +kernel
theorem dX3_nextWater_64 : decode cX3_nextWater 64 = .ok (.i2l, 1) := by decide +kernel
theorem dX3_nextWater_65 : decode cX3_nextWater 65 = .ok (.iload 4, 2) := by decide +kernel
theorem dX3_nextWater_67 : decode cX3_nextWater 67 = .ok (.invokevirtual 188, 3) := by decide +kernel
theorem dX3_nextWater_70 : decode cX3_nextWater 70 = .ok (.istore 10, 2) := by decide +kernel
theorem dX3_nextWater_72 : decode cX3_nextWater 72 = .ok (.iload_n 3, 1) := by decide +kernel
theorem dX3_nextWater_73 : decode cX3_nextWater 73 = .ok (.ifCond .eq 18, 3) := by decide +kernel
theorem dX3_nextWater_76 : decode cX3_nextWater 76 = .ok (.iload 10, 2) := by decide +kernel
theorem dX3_nextWater_78 : decode cX3_nextWater 78 = .ok (.iload 7, 2) := by decide +kernel
theorem dX3_nextWater_80 : decode cX3_nextWater 80 = .ok (.if_icmp .le 7, 3) := by decide +kernel
theorem dX3_nextWater_83 : decode cX3_nextWater 83 = .ok (.iconst 1, 1) := by decide +kernel
theorem dX3_nextWater_84 : decode cX3_nextWater 84 = .ok (.goto 19, 3) := by decide +kernel
theorem dX3_nextWater_87 : decode cX3_nextWater 87 = .ok (.iconst 0, 1) := by decide +kernel
theorem dX3_nextWater_88 : decode cX3_nextWater 88 = .ok (.goto 15, 3) := by decide +kernel
theorem dX3_nextWater_91 : decode cX3_nextWater 91 = .ok (.iload 10, 2) := by decide +kernel
theorem dX3_nextWater_93 : decode cX3_nextWater 93 = .ok (.iload 7, 2) := by decide +kernel
theorem dX3_nextWater_95 : decode cX3_nextWater 95 = .ok (.if_icmp .ge 7, 3) := by decide +kernel
theorem dX3_nextWater_98 : decode cX3_nextWater 98 = .ok (.iconst 1, 1) := by decide +kernel
theorem dX3_nextWater_99 : decode cX3_nextWater 99 = .ok (.goto 4, 3) := by decide +kernel
theorem dX3_nextWater_102 : decode cX3_nextWater 102 = .ok (.iconst 0, 1) := by decide +kernel
theorem dX3_nextWater_103 : decode cX3_nextWater 103 = .ok (.istore 11, 2) := by decide +kernel
theorem dX3_nextWater_105 : decode cX3_nextWater 105 = .ok (.iload 11, 2) := by decide +kernel
theorem dX3_nextWater_107 : decode cX3_nextWater 107 = .ok (.ifCond .eq 20, 3) := by decide +kernel
theorem dX3_nextWater_110 : decode cX3_nextWater 110 = .ok (.iload 9, 2) := by decide +kernel
theorem dX3_nextWater_112 : decode cX3_nextWater 112 = .ok (.iload_n 2, 1) := by decide +kernel
theorem dX3_nextWater_113 : decode cX3_nextWater 113 = .ok (.if_icmp .gt 8, 3) := by decide +kernel
theorem dX3_nextWater_116 : decode cX3_nextWater 116 = .ok (.iload 9, 2) := by decide +kernel
theorem dX3_nextWater_118 : decode cX3_nextWater 118 = .ok (.goto 4, 3) := by decide +kernel
theorem dX3_nextWater_121 : decode cX3_nextWater 121 = .ok (.iconst (-1), 1) := by decide +kernel
theorem dX3_nextWater_122 : decode cX3_nextWater 122 = .ok (.istore 6, 2) := by decide +kernel
theorem dX3_nextWater_124 : decode cX3_nextWater 124 = .ok (.goto 19, 3) := by decide +kernel
theorem dX3_nextWater_127 : decode cX3_nextWater 127 = .ok (.iload 10, 2) := by decide +kernel
theorem dX3_nextWater_129 : decode cX3_nextWater 129 = .ok (.iload 7, 2) := by decide +kernel
theorem dX3_nextWater_131 : decode cX3_nextWater 131 = .ok (.if_icmp .eq 12, 3) := by decide +kernel
theorem dX3_nextWater_134 : decode cX3_nextWater 134 = .ok (.iload 6, 2) := by decide +kernel
theorem dX3_nextWater_136 : decode cX3_nextWater 136 = .ok (.iconst (-1), 1) := by decide +kernel
theorem dX3_nextWater_137 : decode cX3_nextWater 137 = .ok (.if_icmp .eq 6, 3) := by decide +kernel
theorem dX3_nextWater_140 : decode cX3_nextWater 140 = .ok (.iload 6, 2) := by decide +kernel
theorem dX3_nextWater_142 : decode cX3_nextWater 142 = .ok (.ireturn, 1) := by decide +kernel
theorem dX3_nextWater_143 : decode cX3_nextWater 143 = .ok (.iload 10, 2) := by decide +kernel
theorem dX3_nextWater_145 : decode cX3_nextWater 145 = .ok (.istore 7, 2) := by decide +kernel
theorem dX3_nextWater_147 : decode cX3_nextWater 147 = .ok (.iinc 9 1, 3) := by decide +kernel
theorem dX3_nextWater_150 : decode cX3_nextWater 150 = .ok (.goto (-108), 3) := by decide +kernel
theorem dX3_nextWater_153 : decode cX3_nextWater 153 = .ok (.iconst (-1), 1) := by decide +kernel
theorem dX3_nextWater_154 : decode cX3_nextWater 154 = .ok (.ireturn, 1) := by decide +kernel
noncomputable def f_X3_nextWater_103 (r0 : Nat) (v2 : Int32) (v3 : Bool) (v4 : Bool) (v6 : Int32) (v7 : Int32) (v8 : Int32) (v9 : Int32) (v10 : Int32) (k0 : Bool) (σ : am_H) : Option ((Int32 × Int32 × Int32) ⊕ ((Int32) ⊕ (Unit))) :=
  if k0 = true then
   (if v2 < v9 then
    (some (.inl ((-1), v10, (v9 + 1))))
   else
   some (.inl (v9, v10, (v9 + 1))))
  else
  if v10 = v7 then
   (some (.inl (v6, v10, (v9 + 1))))
  else
  if v6 = (-1) then
   (some (.inl (v6, v10, (v9 + 1))))
  else
  some (.inr (.inl v6))
set_option maxRecDepth 100000 in
set_option maxHeartbeats 4000000 in
theorem q_X3_nextWater_103 {X : am_X} (hX : am_wC X) {Q : Option Value → am_H → Prop} (r0 : Nat) (v2 : Int32) (v3 : Bool) (v4 : Bool) (v6 : Int32) (v7 : Int32) (v8 : Int32) (v9 : Int32) (v10 : Int32) (k0 : Bool) (hr0 : r0 < 3) (σ : am_H) {o : (Int32 × Int32 × Int32) ⊕ ((Int32) ⊕ (Unit))} (hf : f_X3_nextWater_103 r0 v2 v3 v4 v6 v7 v8 v9 v10 k0 σ = some o) (hk0 : ∀ s, o = .inl s → am_G X gm_X3_nextWater Q 42 [(0, .ref (am_ad X 3 r0)), (2, .int v2), (3, .int (am_b v3)), (4, .int (am_b v4)), (6, .int s.1), (7, .int s.2.1), (8, .int v8), (9, .int s.2.2)] [] σ) (hk1 : ∀ t, o = .inr (.inl t) → am_G X gm_X3_nextWater Q 140 [(6, .int t)] [] σ) (hk2 : ∀ t, o = .inr (.inr t) → am_G X gm_X3_nextWater Q 153 [] [] σ) : am_G X gm_X3_nextWater Q 103 [(0, .ref (am_ad X 3 r0)), (2, .int v2), (3, .int (am_b v3)), (4, .int (am_b v4)), (6, .int v6), (7, .int v7), (8, .int v8), (9, .int v9), (10, .int v10)] [.int (am_b k0)] σ := by
  unfold f_X3_nextWater_103 at hf
  refine g_istore (pc := 103) [(11, .int (am_b k0)), (0, .ref (am_ad X 3 r0)), (2, .int v2), (3, .int (am_b v3)), (4, .int (am_b v4)), (6, .int v6), (7, .int v7), (8, .int v8), (9, .int v9), (10, .int v10)] dX3_nextWater_103 (Nat.le_of_ble_eq_true rfl) rfl ?_
  refine g_iload (pc := 105) 0 rfl dX3_nextWater_105 ?_
  refine bt_eq (pc := 107) 127 dX3_nextWater_107 rfl (fun c1 => ?_) (fun c1 => ?_)
  · replace hf := am_ifT c1 hf
    refine g_iload (pc := 110) 8 rfl dX3_nextWater_110 ?_
    refine g_iload_n (pc := 112) 2 rfl dX3_nextWater_112 rfl ?_
    refine bi_gt (pc := 113) 121 dX3_nextWater_113 rfl (fun c2 => ?_) (fun c2 => ?_)
    · replace hf := am_ifT c2 hf
      refine g_iconst (pc := 121) (v := (-1)) dX3_nextWater_121 (by decide) ?_
      refine g_istore (pc := 122) [(6, .int (-1)), (11, .int (am_b k0)), (0, .ref (am_ad X 3 r0)), (2, .int v2), (3, .int (am_b v3)), (4, .int (am_b v4)), (7, .int v7), (8, .int v8), (9, .int v9), (10, .int v10)] dX3_nextWater_122 (Nat.le_of_ble_eq_true rfl) rfl ?_
      refine g_goto (pc := 124) 143 dX3_nextWater_124 rfl ?_
      refine g_iload (pc := 143) 9 rfl dX3_nextWater_143 ?_
      refine g_istore (pc := 145) [(7, .int v10), (6, .int (-1)), (11, .int (am_b k0)), (0, .ref (am_ad X 3 r0)), (2, .int v2), (3, .int (am_b v3)), (4, .int (am_b v4)), (8, .int v8), (9, .int v9), (10, .int v10)] dX3_nextWater_145 (Nat.le_of_ble_eq_true rfl) rfl ?_
      refine g_iinc (pc := 147) (v := (v9 + 1)) 8 [(9, .int (v9 + 1)), (7, .int v10), (6, .int (-1)), (11, .int (am_b k0)), (0, .ref (am_ad X 3 r0)), (2, .int v2), (3, .int (am_b v3)), (4, .int (am_b v4)), (8, .int v8), (10, .int v10)] dX3_nextWater_147 rfl rfl (Nat.le_of_ble_eq_true rfl) rfl ?_
      refine g_goto (pc := 150) 42 dX3_nextWater_150 rfl ?_
      have hz := hk0 _ (Option.some.inj hf).symm
      exact am_sub [4, 5, 6, 7, 2, 1, 8, 0] rfl hz
    replace hf := am_ifF c2 hf
    refine g_iload (pc := 116) 8 rfl dX3_nextWater_116 ?_
    refine g_goto (pc := 118) 122 dX3_nextWater_118 rfl ?_
    refine g_istore (pc := 122) [(6, .int v9), (11, .int (am_b k0)), (0, .ref (am_ad X 3 r0)), (2, .int v2), (3, .int (am_b v3)), (4, .int (am_b v4)), (7, .int v7), (8, .int v8), (9, .int v9), (10, .int v10)] dX3_nextWater_122 (Nat.le_of_ble_eq_true rfl) rfl ?_
    refine g_goto (pc := 124) 143 dX3_nextWater_124 rfl ?_
    refine g_iload (pc := 143) 9 rfl dX3_nextWater_143 ?_
    refine g_istore (pc := 145) [(7, .int v10), (6, .int v9), (11, .int (am_b k0)), (0, .ref (am_ad X 3 r0)), (2, .int v2), (3, .int (am_b v3)), (4, .int (am_b v4)), (8, .int v8), (9, .int v9), (10, .int v10)] dX3_nextWater_145 (Nat.le_of_ble_eq_true rfl) rfl ?_
    refine g_iinc (pc := 147) (v := (v9 + 1)) 8 [(9, .int (v9 + 1)), (7, .int v10), (6, .int v9), (11, .int (am_b k0)), (0, .ref (am_ad X 3 r0)), (2, .int v2), (3, .int (am_b v3)), (4, .int (am_b v4)), (8, .int v8), (10, .int v10)] dX3_nextWater_147 rfl rfl (Nat.le_of_ble_eq_true rfl) rfl ?_
    refine g_goto (pc := 150) 42 dX3_nextWater_150 rfl ?_
    have hz := hk0 _ (Option.some.inj hf).symm
    exact am_sub [4, 5, 6, 7, 2, 1, 8, 0] rfl hz
  replace hf := am_ifF c1 hf
  refine g_iload (pc := 127) 9 rfl dX3_nextWater_127 ?_
  refine g_iload (pc := 129) 6 rfl dX3_nextWater_129 ?_
  refine bi_eq (pc := 131) 143 dX3_nextWater_131 rfl (fun c3 => ?_) (fun c3 => ?_)
  · replace hf := am_ifT c3 hf
    refine g_iload (pc := 143) 9 rfl dX3_nextWater_143 ?_
    refine g_istore (pc := 145) [(7, .int v10), (11, .int (am_b k0)), (0, .ref (am_ad X 3 r0)), (2, .int v2), (3, .int (am_b v3)), (4, .int (am_b v4)), (6, .int v6), (8, .int v8), (9, .int v9), (10, .int v10)] dX3_nextWater_145 (Nat.le_of_ble_eq_true rfl) rfl ?_
    refine g_iinc (pc := 147) (v := (v9 + 1)) 8 [(9, .int (v9 + 1)), (7, .int v10), (11, .int (am_b k0)), (0, .ref (am_ad X 3 r0)), (2, .int v2), (3, .int (am_b v3)), (4, .int (am_b v4)), (6, .int v6), (8, .int v8), (10, .int v10)] dX3_nextWater_147 rfl rfl (Nat.le_of_ble_eq_true rfl) rfl ?_
    refine g_goto (pc := 150) 42 dX3_nextWater_150 rfl ?_
    have hz := hk0 _ (Option.some.inj hf).symm
    exact am_sub [3, 4, 5, 6, 7, 1, 8, 0] rfl hz
  replace hf := am_ifF c3 hf
  refine g_iload (pc := 134) 5 rfl dX3_nextWater_134 ?_
  refine g_iconst (pc := 136) (v := (-1)) dX3_nextWater_136 (by decide) ?_
  refine bi_eq (pc := 137) 143 dX3_nextWater_137 rfl (fun c4 => ?_) (fun c4 => ?_)
  · replace hf := am_ifT c4 hf
    refine g_iload (pc := 143) 9 rfl dX3_nextWater_143 ?_
    refine g_istore (pc := 145) [(7, .int v10), (11, .int (am_b k0)), (0, .ref (am_ad X 3 r0)), (2, .int v2), (3, .int (am_b v3)), (4, .int (am_b v4)), (6, .int v6), (8, .int v8), (9, .int v9), (10, .int v10)] dX3_nextWater_145 (Nat.le_of_ble_eq_true rfl) rfl ?_
    refine g_iinc (pc := 147) (v := (v9 + 1)) 8 [(9, .int (v9 + 1)), (7, .int v10), (11, .int (am_b k0)), (0, .ref (am_ad X 3 r0)), (2, .int v2), (3, .int (am_b v3)), (4, .int (am_b v4)), (6, .int v6), (8, .int v8), (10, .int v10)] dX3_nextWater_147 rfl rfl (Nat.le_of_ble_eq_true rfl) rfl ?_
    refine g_goto (pc := 150) 42 dX3_nextWater_150 rfl ?_
    have hz := hk0 _ (Option.some.inj hf).symm
    exact am_sub [3, 4, 5, 6, 7, 1, 8, 0] rfl hz
  replace hf := am_ifF c4 hf
  have hz := hk1 _ (Option.some.inj hf).symm
  exact am_sub [5] rfl hz
noncomputable def f_X3_nextWater_61 (r0 : Nat) (v2 : Int32) (v3 : Bool) (v4 : Bool) (v6 : Int32) (v7 : Int32) (v8 : Int32) (v9 : Int32) (σ : am_H) : Option ((Int32 × Int32 × Int32) ⊕ ((Int32) ⊕ (Unit))) :=
  (f_X3_heightAt r0 (Int32.toInt64 v9) v4 σ).bind fun p1 =>
  if v3 = true then
   (if v7 < p1 then
    (f_X3_nextWater_103 r0 v2 v3 v4 v6 v7 v8 v9 p1 true σ)
   else
   f_X3_nextWater_103 r0 v2 v3 v4 v6 v7 v8 v9 p1 false σ)
  else
  if p1 < v7 then
   (f_X3_nextWater_103 r0 v2 v3 v4 v6 v7 v8 v9 p1 true σ)
  else
  f_X3_nextWater_103 r0 v2 v3 v4 v6 v7 v8 v9 p1 false σ
set_option maxRecDepth 100000 in
set_option maxHeartbeats 4000000 in
theorem q_X3_nextWater_61 {X : am_X} (hX : am_wC X) {Q : Option Value → am_H → Prop} (r0 : Nat) (v2 : Int32) (v3 : Bool) (v4 : Bool) (v6 : Int32) (v7 : Int32) (v8 : Int32) (v9 : Int32) (hr0 : r0 < 3) (σ : am_H) {o : (Int32 × Int32 × Int32) ⊕ ((Int32) ⊕ (Unit))} (hf : f_X3_nextWater_61 r0 v2 v3 v4 v6 v7 v8 v9 σ = some o) (hk0 : ∀ s, o = .inl s → am_G X gm_X3_nextWater Q 42 [(0, .ref (am_ad X 3 r0)), (2, .int v2), (3, .int (am_b v3)), (4, .int (am_b v4)), (6, .int s.1), (7, .int s.2.1), (8, .int v8), (9, .int s.2.2)] [] σ) (hk1 : ∀ t, o = .inr (.inl t) → am_G X gm_X3_nextWater Q 140 [(6, .int t)] [] σ) (hk2 : ∀ t, o = .inr (.inr t) → am_G X gm_X3_nextWater Q 153 [] [] σ) : am_G X gm_X3_nextWater Q 61 [(0, .ref (am_ad X 3 r0)), (2, .int v2), (3, .int (am_b v3)), (4, .int (am_b v4)), (6, .int v6), (7, .int v7), (8, .int v8), (9, .int v9)] [] σ := by
  unfold f_X3_nextWater_61 at hf
  refine g_aload_n (pc := 61) 0 rfl dX3_nextWater_61 rfl ?_
  refine g_iload (pc := 62) 7 rfl dX3_nextWater_62 ?_
  refine g_i2l (pc := 64) dX3_nextWater_64 ?_
  refine g_iload (pc := 65) 3 rfl dX3_nextWater_65 ?_
  obtain ⟨p1, hp1, hf⟩ := am_bd hf
  refine g_cV (pc := 67) (As := [.long (Int32.toInt64 v9), .int (am_b v4)]) (st := []) (st1 := [.int p1]) (in_3 hX.1 (by omega)) kk_3 mV_X3_heightAt ln_X3_188 rfl (Nat.le_of_ble_eq_true rfl) (Nat.le_of_ble_eq_true rfl) (k_X3_heightAt hX r0 (Int32.toInt64 v9) v4 (by omega) σ hp1) dX3_nextWater_67 rfl rfl ?_
  refine g_istore (pc := 70) [(10, .int p1), (0, .ref (am_ad X 3 r0)), (2, .int v2), (3, .int (am_b v3)), (4, .int (am_b v4)), (6, .int v6), (7, .int v7), (8, .int v8), (9, .int v9)] dX3_nextWater_70 (Nat.le_of_ble_eq_true rfl) rfl ?_
  refine g_iload_n (pc := 72) 3 rfl dX3_nextWater_72 rfl ?_
  refine bt_eq (pc := 73) 91 dX3_nextWater_73 rfl (fun c2 => ?_) (fun c2 => ?_)
  · replace hf := am_ifT c2 hf
    refine g_iload (pc := 76) 0 rfl dX3_nextWater_76 ?_
    refine g_iload (pc := 78) 6 rfl dX3_nextWater_78 ?_
    refine bi_le (pc := 80) 87 dX3_nextWater_80 rfl (fun c3 => ?_) (fun c3 => ?_)
    · replace hf := am_ifT c3 hf
      refine g_iconst (pc := 83) (v := 1) dX3_nextWater_83 (by decide) ?_
      refine g_goto (pc := 84) 103 dX3_nextWater_84 rfl ?_
      exact am_sub [1, 2, 3, 4, 5, 6, 7, 8, 0] rfl (q_X3_nextWater_103 hX r0 v2 v3 v4 v6 v7 v8 v9 p1 true (by omega) σ hf hk0 hk1 hk2)
    replace hf := am_ifF c3 hf
    refine g_iconst (pc := 87) (v := 0) dX3_nextWater_87 (by decide) ?_
    refine g_goto (pc := 88) 103 dX3_nextWater_88 rfl ?_
    exact am_sub [1, 2, 3, 4, 5, 6, 7, 8, 0] rfl (q_X3_nextWater_103 hX r0 v2 v3 v4 v6 v7 v8 v9 p1 false (by omega) σ hf hk0 hk1 hk2)
  replace hf := am_ifF c2 hf
  refine g_iload (pc := 91) 0 rfl dX3_nextWater_91 ?_
  refine g_iload (pc := 93) 6 rfl dX3_nextWater_93 ?_
  refine bi_ge (pc := 95) 102 dX3_nextWater_95 rfl (fun c4 => ?_) (fun c4 => ?_)
  · replace hf := am_ifT c4 hf
    refine g_iconst (pc := 98) (v := 1) dX3_nextWater_98 (by decide) ?_
    refine g_goto (pc := 99) 103 dX3_nextWater_99 rfl ?_
    exact am_sub [1, 2, 3, 4, 5, 6, 7, 8, 0] rfl (q_X3_nextWater_103 hX r0 v2 v3 v4 v6 v7 v8 v9 p1 true (by omega) σ hf hk0 hk1 hk2)
  replace hf := am_ifF c4 hf
  refine g_iconst (pc := 102) (v := 0) dX3_nextWater_102 (by decide) ?_
  exact am_sub [1, 2, 3, 4, 5, 6, 7, 8, 0] rfl (q_X3_nextWater_103 hX r0 v2 v3 v4 v6 v7 v8 v9 p1 false (by omega) σ hf hk0 hk1 hk2)
noncomputable def f_X3_nextWater_42 (r0 : Nat) (v2 : Int32) (v3 : Bool) (v4 : Bool) (v6 : Int32) (v7 : Int32) (v8 : Int32) (v9 : Int32) (σ : am_H) : Option ((Int32 × Int32 × Int32) ⊕ ((Int32) ⊕ (Unit))) :=
  if v8 < v9 then
   (some (.inr (.inr ())))
  else
  if v2 < v9 then
   (if v6 = (-1) then
    (some (.inr (.inr ())))
   else
   f_X3_nextWater_61 r0 v2 v3 v4 v6 v7 v8 v9 σ)
  else
  f_X3_nextWater_61 r0 v2 v3 v4 v6 v7 v8 v9 σ
set_option maxRecDepth 100000 in
set_option maxHeartbeats 4000000 in
theorem q_X3_nextWater_42 {X : am_X} (hX : am_wC X) {Q : Option Value → am_H → Prop} (r0 : Nat) (v2 : Int32) (v3 : Bool) (v4 : Bool) (v6 : Int32) (v7 : Int32) (v8 : Int32) (v9 : Int32) (hr0 : r0 < 3) (σ : am_H) {o : (Int32 × Int32 × Int32) ⊕ ((Int32) ⊕ (Unit))} (hf : f_X3_nextWater_42 r0 v2 v3 v4 v6 v7 v8 v9 σ = some o) (hk0 : ∀ s, o = .inl s → am_G X gm_X3_nextWater Q 42 [(0, .ref (am_ad X 3 r0)), (2, .int v2), (3, .int (am_b v3)), (4, .int (am_b v4)), (6, .int s.1), (7, .int s.2.1), (8, .int v8), (9, .int s.2.2)] [] σ) (hk1 : ∀ t, o = .inr (.inl t) → am_G X gm_X3_nextWater Q 140 [(6, .int t)] [] σ) (hk2 : ∀ t, o = .inr (.inr t) → am_G X gm_X3_nextWater Q 153 [] [] σ) : am_G X gm_X3_nextWater Q 42 [(0, .ref (am_ad X 3 r0)), (2, .int v2), (3, .int (am_b v3)), (4, .int (am_b v4)), (6, .int v6), (7, .int v7), (8, .int v8), (9, .int v9)] [] σ := by
  unfold f_X3_nextWater_42 at hf
  refine g_iload (pc := 42) 7 rfl dX3_nextWater_42 ?_
  refine g_iload (pc := 44) 6 rfl dX3_nextWater_44 ?_
  refine bi_gt (pc := 46) 153 dX3_nextWater_46 rfl (fun c1 => ?_) (fun c1 => ?_)
  · replace hf := am_ifT c1 hf
    have hz := hk2 _ (Option.some.inj hf).symm
    exact am_sub [] rfl hz
  replace hf := am_ifF c1 hf
  refine g_iload (pc := 49) 7 rfl dX3_nextWater_49 ?_
  refine g_iload_n (pc := 51) 1 rfl dX3_nextWater_51 rfl ?_
  refine bi_le (pc := 52) 61 dX3_nextWater_52 rfl (fun c2 => ?_) (fun c2 => ?_)
  · replace hf := am_ifT c2 hf
    refine g_iload (pc := 55) 4 rfl dX3_nextWater_55 ?_
    refine g_iconst (pc := 57) (v := (-1)) dX3_nextWater_57 (by decide) ?_
    refine bi_eq (pc := 58) 153 dX3_nextWater_58 rfl (fun c3 => ?_) (fun c3 => ?_)
    · replace hf := am_ifT c3 hf
      have hz := hk2 _ (Option.some.inj hf).symm
      exact am_sub [] rfl hz
    replace hf := am_ifF c3 hf
    exact q_X3_nextWater_61 hX r0 v2 v3 v4 v6 v7 v8 v9 (by omega) σ hf hk0 hk1 hk2
  replace hf := am_ifF c2 hf
  exact q_X3_nextWater_61 hX r0 v2 v3 v4 v6 v7 v8 v9 (by omega) σ hf hk0 hk1 hk2
set_option maxRecDepth 100000 in
set_option maxHeartbeats 4000000 in
theorem l_X3_nextWater_42 {X : am_X} (hX : am_wC X) {Q : Option Value → am_H → Prop} (r0 : Nat) (v2 : Int32) (v3 : Bool) (v4 : Bool) (v8 : Int32) (hr0 : r0 < 3) (σ : am_H) (s : Int32 × Int32 × Int32) {o : (Int32) ⊕ (Unit)} (hf : am_loop (fun s => f_X3_nextWater_42 r0 v2 v3 v4 s.1 s.2.1 v8 s.2.2 σ) s = some o) (hk1 : ∀ t, o = (.inl t) → am_G X gm_X3_nextWater Q 140 [(6, .int t)] [] σ) (hk2 : ∀ t, o = (.inr t) → am_G X gm_X3_nextWater Q 153 [] [] σ) : am_G X gm_X3_nextWater Q 42 [(0, .ref (am_ad X 3 r0)), (2, .int v2), (3, .int (am_b v3)), (4, .int (am_b v4)), (6, .int s.1), (7, .int s.2.1), (8, .int v8), (9, .int s.2.2)] [] σ := by
  refine am_loop_ind (P := fun s => am_G X gm_X3_nextWater Q 42 [(0, .ref (am_ad X 3 r0)), (2, .int v2), (3, .int (am_b v3)), (4, .int (am_b v4)), (6, .int s.1), (7, .int s.2.1), (8, .int v8), (9, .int s.2.2)] [] σ) (K := fun r => r = o) ?_ hf rfl
  intro s o1 hb hi hr
  exact q_X3_nextWater_42 hX r0 v2 v3 v4 s.1 s.2.1 v8 s.2.2  hr0 σ hb hi (fun t e => hk1 t (hr _ e).symm) (fun t e => hk2 t (hr _ e).symm)
noncomputable def f_X3_nextWater (r0 : Nat) (v1 : Int32) (v2 : Int32) (v3 : Bool) (v4 : Bool) (σ : am_H) : Option (Int32) :=
  (f_X3_heightAt r0 (Int32.toInt64 ((am_mx v1 1) - 1)) v4 σ).bind fun p1 =>
  (f_X3_mostSwing r0 σ).bind fun p2 =>
  if p2 = 0 then
   ((am_loop (fun s => f_X3_nextWater_42 r0 v2 v3 v4 s.1 s.2.1 (-1) s.2.2 σ) ((-1), p1, (am_mx v1 1))).bind fun w4 =>
   Sum.elim (fun t4_0 =>
    some t4_0) (fun u4_0 =>
    some (-1)) w4)
  else
  (am_loop (fun s => f_X3_nextWater_42 r0 v2 v3 v4 s.1 s.2.1 100100 s.2.2 σ) ((-1), p1, (am_mx v1 1))).bind fun w5 =>
  Sum.elim (fun t5_0 =>
   some t5_0) (fun u5_0 =>
   some (-1)) w5
set_option maxRecDepth 100000 in
set_option maxHeartbeats 4000000 in
theorem q_X3_nextWater {X : am_X} (hX : am_wC X) {Q : Option Value → am_H → Prop} (r0 : Nat) (v1 : Int32) (v2 : Int32) (v3 : Bool) (v4 : Bool) (hr0 : r0 < 3) (σ : am_H) {o : Int32} (hf : f_X3_nextWater r0 v1 v2 v3 v4 σ = some o) (hk : Q (some (.int o)) σ) : am_G X gm_X3_nextWater Q 0 [(0, .ref (am_ad X 3 r0)), (1, .int v1), (2, .int v2), (3, .int (am_b v3)), (4, .int (am_b v4))] [] σ := by
  unfold f_X3_nextWater at hf
  refine g_iload_n (pc := 0) 1 rfl dX3_nextWater_0 rfl ?_
  refine g_iconst (pc := 1) (v := 1) dX3_nextWater_1 (by decide) ?_
  refine g_mmax (pc := 2) (Nat.le_of_ble_eq_true rfl) (Nat.le_of_ble_eq_true rfl) sp_X3_163 dX3_nextWater_2 ?_
  refine g_istore (pc := 5) [(5, .int (am_mx v1 1)), (0, .ref (am_ad X 3 r0)), (1, .int v1), (2, .int v2), (3, .int (am_b v3)), (4, .int (am_b v4))] dX3_nextWater_5 (Nat.le_of_ble_eq_true rfl) rfl ?_
  refine g_iconst (pc := 7) (v := (-1)) dX3_nextWater_7 (by decide) ?_
  refine g_istore (pc := 8) [(6, .int (-1)), (5, .int (am_mx v1 1)), (0, .ref (am_ad X 3 r0)), (1, .int v1), (2, .int v2), (3, .int (am_b v3)), (4, .int (am_b v4))] dX3_nextWater_8 (Nat.le_of_ble_eq_true rfl) rfl ?_
  refine g_aload_n (pc := 10) 2 rfl dX3_nextWater_10 rfl ?_
  refine g_iload (pc := 11) 1 rfl dX3_nextWater_11 ?_
  refine g_iconst (pc := 13) (v := 1) dX3_nextWater_13 (by decide) ?_
  refine g_isub (pc := 14) dX3_nextWater_14 ?_
  refine g_i2l (pc := 15) dX3_nextWater_15 ?_
  refine g_iload (pc := 16) 6 rfl dX3_nextWater_16 ?_
  obtain ⟨p1, hp1, hf⟩ := am_bd hf
  refine g_cV (pc := 18) (As := [.long (Int32.toInt64 ((am_mx v1 1) - 1)), .int (am_b v4)]) (st := []) (st1 := [.int p1]) (in_3 hX.1 (by omega)) kk_3 mV_X3_heightAt ln_X3_188 rfl (Nat.le_of_ble_eq_true rfl) (Nat.le_of_ble_eq_true rfl) (k_X3_heightAt hX r0 (Int32.toInt64 ((am_mx v1 1) - 1)) v4 (by omega) σ hp1) dX3_nextWater_18 rfl rfl ?_
  refine g_istore (pc := 21) [(7, .int p1), (6, .int (-1)), (5, .int (am_mx v1 1)), (0, .ref (am_ad X 3 r0)), (1, .int v1), (2, .int v2), (3, .int (am_b v3)), (4, .int (am_b v4))] dX3_nextWater_21 (Nat.le_of_ble_eq_true rfl) rfl ?_
  refine g_aload_n (pc := 23) 3 rfl dX3_nextWater_23 rfl ?_
  obtain ⟨p2, hp2, hf⟩ := am_bd hf
  refine g_cV (pc := 24) (As := []) (st := []) (st1 := [.int p2]) (in_3 hX.1 (by omega)) kk_3 mV_X3_mostSwing ln_X3_203 rfl (Nat.le_of_ble_eq_true rfl) (Nat.le_of_ble_eq_true rfl) (k_X3_mostSwing hX r0 (by omega) σ hp2) dX3_nextWater_24 rfl rfl ?_
  refine bz_ne (pc := 27) 34 dX3_nextWater_27 rfl (fun c3 => ?_) (fun c3 => ?_)
  · replace hf := am_ifT c3 hf
    refine g_iconst (pc := 30) (v := (-1)) dX3_nextWater_30 (by decide) ?_
    refine g_goto (pc := 31) 36 dX3_nextWater_31 rfl ?_
    refine g_istore (pc := 36) [(8, .int (-1)), (7, .int p1), (6, .int (-1)), (5, .int (am_mx v1 1)), (0, .ref (am_ad X 3 r0)), (1, .int v1), (2, .int v2), (3, .int (am_b v3)), (4, .int (am_b v4))] dX3_nextWater_36 (Nat.le_of_ble_eq_true rfl) rfl ?_
    refine g_iload (pc := 38) 3 rfl dX3_nextWater_38 ?_
    refine g_istore (pc := 40) [(9, .int (am_mx v1 1)), (8, .int (-1)), (7, .int p1), (6, .int (-1)), (5, .int (am_mx v1 1)), (0, .ref (am_ad X 3 r0)), (1, .int v1), (2, .int v2), (3, .int (am_b v3)), (4, .int (am_b v4))] dX3_nextWater_40 (Nat.le_of_ble_eq_true rfl) rfl ?_
    obtain ⟨w4, hw4, hf⟩ := am_bd hf
    refine am_sub [5, 7, 8, 9, 3, 2, 1, 0] rfl (l_X3_nextWater_42 hX r0 v2 v3 v4 (-1) (by omega) σ ((-1), p1, (am_mx v1 1)) hw4 ?_ ?_)
    · intro t4_0 e
      subst e
      replace hf := am_elL hf
      refine g_iload (pc := 140) 0 rfl dX3_nextWater_140 ?_
      have ho := Option.some.inj hf
      subst ho
      exact g_ireturn (pc := 142) (st := []) rfl dX3_nextWater_142 hk
    · intro u4_0 e
      subst e
      replace hf := am_elR hf
      refine g_iconst (pc := 153) (v := (-1)) dX3_nextWater_153 (by decide) ?_
      have ho := Option.some.inj hf
      subst ho
      exact g_ireturn (pc := 154) (st := []) rfl dX3_nextWater_154 hk
  replace hf := am_ifF c3 hf
  refine g_ldc (pc := 34) (v := 100100) (tb_6 (List.mem_of_getElem? (i := 75) (by decide +kernel))) dX3_nextWater_34 ?_
  refine g_istore (pc := 36) [(8, .int 100100), (7, .int p1), (6, .int (-1)), (5, .int (am_mx v1 1)), (0, .ref (am_ad X 3 r0)), (1, .int v1), (2, .int v2), (3, .int (am_b v3)), (4, .int (am_b v4))] dX3_nextWater_36 (Nat.le_of_ble_eq_true rfl) rfl ?_
  refine g_iload (pc := 38) 3 rfl dX3_nextWater_38 ?_
  refine g_istore (pc := 40) [(9, .int (am_mx v1 1)), (8, .int 100100), (7, .int p1), (6, .int (-1)), (5, .int (am_mx v1 1)), (0, .ref (am_ad X 3 r0)), (1, .int v1), (2, .int v2), (3, .int (am_b v3)), (4, .int (am_b v4))] dX3_nextWater_40 (Nat.le_of_ble_eq_true rfl) rfl ?_
  obtain ⟨w5, hw5, hf⟩ := am_bd hf
  refine am_sub [5, 7, 8, 9, 3, 2, 1, 0] rfl (l_X3_nextWater_42 hX r0 v2 v3 v4 100100 (by omega) σ ((-1), p1, (am_mx v1 1)) hw5 ?_ ?_)
  · intro t5_0 e
    subst e
    replace hf := am_elL hf
    refine g_iload (pc := 140) 0 rfl dX3_nextWater_140 ?_
    have ho := Option.some.inj hf
    subst ho
    exact g_ireturn (pc := 142) (st := []) rfl dX3_nextWater_142 hk
  · intro u5_0 e
    subst e
    replace hf := am_elR hf
    refine g_iconst (pc := 153) (v := (-1)) dX3_nextWater_153 (by decide) ?_
    have ho := Option.some.inj hf
    subst ho
    exact g_ireturn (pc := 154) (st := []) rfl dX3_nextWater_154 hk
theorem k_X3_nextWater {X : am_X} (hX : am_wC X) (r0 : Nat) (v1 : Int32) (v2 : Int32) (v3 : Bool) (v4 : Bool) (hr0 : r0 < 3) (σ : am_H) {o : Int32} (hf : f_X3_nextWater r0 v1 v2 v3 v4 σ = some o) : am_C X gm_X3_nextWater [.ref (am_ad X 3 r0), .int v1, .int v2, .int (am_b v3), .int (am_b v4)] σ (am_is (some (.int o)) σ) :=
  am_ofG rfl (Nat.le_of_ble_eq_true rfl) rfl (q_X3_nextWater hX r0 v1 v2 v3 v4 hr0 σ hf ⟨rfl, rfl⟩)
theorem dX3_watersOf_0 : decode cX3_watersOf 0 = .ok (.iload_n 1, 1) := by decide +kernel
theorem dX3_watersOf_1 : decode cX3_watersOf 1 = .ok (.invokestatic 192, 3) := by decide +kernel
theorem dX3_watersOf_4 : decode cX3_watersOf 4 = .ok (.istore 4, 2) := by decide +kernel
theorem dX3_watersOf_6 : decode cX3_watersOf 6 = .ok (.iconst 0, 1) := by decide +kernel
theorem dX3_watersOf_7 : decode cX3_watersOf 7 = .ok (.istore 5, 2) := by decide +kernel
theorem dX3_watersOf_9 : decode cX3_watersOf 9 = .ok (.aload_n 0, 1) := by decide +kernel
theorem dX3_watersOf_10 : decode cX3_watersOf 10 = .ok (.bipush 24, 2) := by decide +kernel
theorem dX3_watersOf_12 : decode cX3_watersOf 12 = .ok (.iload_n 1, 1) := by decide +kernel
theorem dX3_watersOf_13 : decode cX3_watersOf 13 = .ok (.imul, 1) := by decide +kernel
theorem dX3_watersOf_14 : decode cX3_watersOf 14 = .ok (.iload 4, 2) := by decide +kernel
theorem dX3_watersOf_16 : decode cX3_watersOf 16 = .ok (.iload_n 2, 1) := by decide +kernel
theorem dX3_watersOf_17 : decode cX3_watersOf 17 = .ok (.iload_n 3, 1) := by decide +kernel
theorem dX3_watersOf_18 : decode cX3_watersOf 18 = .ok (.invokevirtual 200, 3) := by decide +kernel
theorem dX3_watersOf_21 : decode cX3_watersOf 21 = .ok (.istore 6, 2) := by decide +kernel
theorem dX3_watersOf_23 : decode cX3_watersOf 23 = .ok (.iconst 0, 1) := by decide +kernel
theorem dX3_watersOf_24 : decode cX3_watersOf 24 = .ok (.istore 7, 2) := by decide +kernel
theorem dX3_watersOf_26 : decode cX3_watersOf 26 = .ok (.iload 7, 2) := by decide +kernel
theorem dX3_watersOf_28 : decode cX3_watersOf 28 = .ok (.bipush 24, 2) := by decide +kernel
theorem dX3_watersOf_30 : decode cX3_watersOf 30 = .ok (.if_icmp .ge 32, 3) := by decide +kernel
theorem dX3_watersOf_33 : decode cX3_watersOf 33 = .ok (.iload 6, 2) := by decide +kernel
theorem dX3_watersOf_35 : decode cX3_watersOf 35 = .ok (.iconst (-1), 1) := by decide +kernel
theorem dX3_watersOf_36 : decode cX3_watersOf 36 = .ok (.if_icmp .eq 26, 3) := by decide +kernel
theorem dX3_watersOf_39 : decode cX3_watersOf 39 = .ok (.iinc 5 1, 3) := by decide +kernel
theorem dX3_watersOf_42 : decode cX3_watersOf 42 = .ok (.aload_n 0, 1) := by decide +kernel
theorem dX3_watersOf_43 : decode cX3_watersOf 43 = .ok (.iload 6, 2) := by decide +kernel
theorem dX3_watersOf_45 : decode cX3_watersOf 45 = .ok (.iconst 1, 1) := by decide +kernel
theorem dX3_watersOf_46 : decode cX3_watersOf 46 = .ok (.iadd, 1) := by decide +kernel
theorem dX3_watersOf_47 : decode cX3_watersOf 47 = .ok (.iload 4, 2) := by decide +kernel
theorem dX3_watersOf_49 : decode cX3_watersOf 49 = .ok (.iload_n 2, 1) := by decide +kernel
theorem dX3_watersOf_50 : decode cX3_watersOf 50 = .ok (.iload_n 3, 1) := by decide +kernel
theorem dX3_watersOf_51 : decode cX3_watersOf 51 = .ok (.invokevirtual 200, 3) := by decide +kernel
theorem dX3_watersOf_54 : decode cX3_watersOf 54 = .ok (.istore 6, 2) := by decide +kernel
theorem dX3_watersOf_56 : decode cX3_watersOf 56 = .ok (.iinc 7 1, 3) := by decide +kernel
theorem dX3_watersOf_59 : decode cX3_watersOf 59 = .ok (.goto (-33), 3) := by decide +kernel
theorem dX3_watersOf_62 : decode cX3_watersOf 62 = .ok (.iload 5, 2) := by decide +kernel
theorem dX3_watersOf_64 : decode cX3_watersOf 64 = .ok (.ireturn, 1) := by decide +kernel
noncomputable def f_X3_watersOf_26 (r0 : Nat) (v2 : Bool) (v3 : Bool) (v4 : Int32) (v5 : Int32) (v6 : Int32) (v7 : Int32) (σ : am_H) : Option ((Int32 × Int32 × Int32) ⊕ (Int32)) :=
  if v7 < 24 then
   (if v6 = (-1) then
    (some (.inr v5))
   else
   (f_X3_nextWater r0 (v6 + 1) v4 v2 v3 σ).bind fun p3 =>
   some (.inl ((v5 + 1), p3, (v7 + 1))))
  else
  some (.inr v5)
set_option maxRecDepth 100000 in
set_option maxHeartbeats 4000000 in
theorem q_X3_watersOf_26 {X : am_X} (hX : am_wC X) {Q : Option Value → am_H → Prop} (r0 : Nat) (v2 : Bool) (v3 : Bool) (v4 : Int32) (v5 : Int32) (v6 : Int32) (v7 : Int32) (hr0 : r0 < 3) (σ : am_H) {o : (Int32 × Int32 × Int32) ⊕ (Int32)} (hf : f_X3_watersOf_26 r0 v2 v3 v4 v5 v6 v7 σ = some o) (hk0 : ∀ s, o = .inl s → am_G X gm_X3_watersOf Q 26 [(0, .ref (am_ad X 3 r0)), (2, .int (am_b v2)), (3, .int (am_b v3)), (4, .int v4), (5, .int s.1), (6, .int s.2.1), (7, .int s.2.2)] [] σ) (hk1 : ∀ t, o = .inr t → am_G X gm_X3_watersOf Q 62 [(5, .int t)] [] σ) : am_G X gm_X3_watersOf Q 26 [(0, .ref (am_ad X 3 r0)), (2, .int (am_b v2)), (3, .int (am_b v3)), (4, .int v4), (5, .int v5), (6, .int v6), (7, .int v7)] [] σ := by
  unfold f_X3_watersOf_26 at hf
  refine g_iload (pc := 26) 6 rfl dX3_watersOf_26 ?_
  refine g_bipush (pc := 28) (v := 24) dX3_watersOf_28 (by decide) ?_
  refine bi_ge (pc := 30) 62 dX3_watersOf_30 rfl (fun c1 => ?_) (fun c1 => ?_)
  · replace hf := am_ifT c1 hf
    refine g_iload (pc := 33) 5 rfl dX3_watersOf_33 ?_
    refine g_iconst (pc := 35) (v := (-1)) dX3_watersOf_35 (by decide) ?_
    refine bi_eq (pc := 36) 62 dX3_watersOf_36 rfl (fun c2 => ?_) (fun c2 => ?_)
    · replace hf := am_ifT c2 hf
      have hz := hk1 _ (Option.some.inj hf).symm
      exact am_sub [4] rfl hz
    replace hf := am_ifF c2 hf
    refine g_iinc (pc := 39) (v := (v5 + 1)) 4 [(5, .int (v5 + 1)), (0, .ref (am_ad X 3 r0)), (2, .int (am_b v2)), (3, .int (am_b v3)), (4, .int v4), (6, .int v6), (7, .int v7)] dX3_watersOf_39 rfl rfl (Nat.le_of_ble_eq_true rfl) rfl ?_
    refine g_aload_n (pc := 42) 1 rfl dX3_watersOf_42 rfl ?_
    refine g_iload (pc := 43) 5 rfl dX3_watersOf_43 ?_
    refine g_iconst (pc := 45) (v := 1) dX3_watersOf_45 (by decide) ?_
    refine g_iadd (pc := 46) dX3_watersOf_46 ?_
    refine g_iload (pc := 47) 4 rfl dX3_watersOf_47 ?_
    refine g_iload_n (pc := 49) 2 rfl dX3_watersOf_49 rfl ?_
    refine g_iload_n (pc := 50) 3 rfl dX3_watersOf_50 rfl ?_
    obtain ⟨p3, hp3, hf⟩ := am_bd hf
    refine g_cV (pc := 51) (As := [.int (v6 + 1), .int v4, .int (am_b v2), .int (am_b v3)]) (st := []) (st1 := [.int p3]) (in_3 hX.1 (by omega)) kk_3 mV_X3_nextWater ln_X3_200 rfl (Nat.le_of_ble_eq_true rfl) (Nat.le_of_ble_eq_true rfl) (k_X3_nextWater hX r0 (v6 + 1) v4 v2 v3 (by omega) σ hp3) dX3_watersOf_51 rfl rfl ?_
    refine g_istore (pc := 54) [(6, .int p3), (5, .int (v5 + 1)), (0, .ref (am_ad X 3 r0)), (2, .int (am_b v2)), (3, .int (am_b v3)), (4, .int v4), (7, .int v7)] dX3_watersOf_54 (Nat.le_of_ble_eq_true rfl) rfl ?_
    refine g_iinc (pc := 56) (v := (v7 + 1)) 6 [(7, .int (v7 + 1)), (6, .int p3), (5, .int (v5 + 1)), (0, .ref (am_ad X 3 r0)), (2, .int (am_b v2)), (3, .int (am_b v3)), (4, .int v4)] dX3_watersOf_56 rfl rfl (Nat.le_of_ble_eq_true rfl) rfl ?_
    refine g_goto (pc := 59) 26 dX3_watersOf_59 rfl ?_
    have hz := hk0 _ (Option.some.inj hf).symm
    exact am_sub [3, 4, 5, 6, 2, 1, 0] rfl hz
  replace hf := am_ifF c1 hf
  have hz := hk1 _ (Option.some.inj hf).symm
  exact am_sub [4] rfl hz
set_option maxRecDepth 100000 in
set_option maxHeartbeats 4000000 in
theorem l_X3_watersOf_26 {X : am_X} (hX : am_wC X) {Q : Option Value → am_H → Prop} (r0 : Nat) (v2 : Bool) (v3 : Bool) (v4 : Int32) (hr0 : r0 < 3) (σ : am_H) (s : Int32 × Int32 × Int32) {o : Int32} (hf : am_loop (fun s => f_X3_watersOf_26 r0 v2 v3 v4 s.1 s.2.1 s.2.2 σ) s = some o) (hk1 : ∀ t, o = t → am_G X gm_X3_watersOf Q 62 [(5, .int t)] [] σ) : am_G X gm_X3_watersOf Q 26 [(0, .ref (am_ad X 3 r0)), (2, .int (am_b v2)), (3, .int (am_b v3)), (4, .int v4), (5, .int s.1), (6, .int s.2.1), (7, .int s.2.2)] [] σ := by
  refine am_loop_ind (P := fun s => am_G X gm_X3_watersOf Q 26 [(0, .ref (am_ad X 3 r0)), (2, .int (am_b v2)), (3, .int (am_b v3)), (4, .int v4), (5, .int s.1), (6, .int s.2.1), (7, .int s.2.2)] [] σ) (K := fun r => r = o) ?_ hf rfl
  intro s o1 hb hi hr
  exact q_X3_watersOf_26 hX r0 v2 v3 v4 s.1 s.2.1 s.2.2  hr0 σ hb hi (fun t e => hk1 t (hr _ e).symm)
noncomputable def f_X3_watersOf (r0 : Nat) (v1 : Int32) (v2 : Bool) (v3 : Bool) (σ : am_H) : Option (Int32) :=
  (f_X3_lastHourOf v1 σ).bind fun p1 =>
  (f_X3_nextWater r0 (24 * v1) p1 v2 v3 σ).bind fun p2 =>
  (am_loop (fun s => f_X3_watersOf_26 r0 v2 v3 p1 s.1 s.2.1 s.2.2 σ) (0, p2, 0)).bind fun w3 =>
  some w3
set_option maxRecDepth 100000 in
set_option maxHeartbeats 4000000 in
theorem q_X3_watersOf {X : am_X} (hX : am_wC X) {Q : Option Value → am_H → Prop} (r0 : Nat) (v1 : Int32) (v2 : Bool) (v3 : Bool) (hr0 : r0 < 3) (σ : am_H) {o : Int32} (hf : f_X3_watersOf r0 v1 v2 v3 σ = some o) (hk : Q (some (.int o)) σ) : am_G X gm_X3_watersOf Q 0 [(0, .ref (am_ad X 3 r0)), (1, .int v1), (2, .int (am_b v2)), (3, .int (am_b v3))] [] σ := by
  unfold f_X3_watersOf at hf
  refine g_iload_n (pc := 0) 1 rfl dX3_watersOf_0 rfl ?_
  obtain ⟨p1, hp1, hf⟩ := am_bd hf
  refine g_cS (pc := 1) (As := [.int v1]) (st := []) (st1 := [.int p1]) mS_X3_lastHourOf ln_X3_192 rfl (Nat.le_of_ble_eq_true rfl) (Nat.le_of_ble_eq_true rfl) (k_X3_lastHourOf hX v1 σ hp1) dX3_watersOf_1 rfl rfl ?_
  refine g_istore (pc := 4) [(4, .int p1), (0, .ref (am_ad X 3 r0)), (1, .int v1), (2, .int (am_b v2)), (3, .int (am_b v3))] dX3_watersOf_4 (Nat.le_of_ble_eq_true rfl) rfl ?_
  refine g_iconst (pc := 6) (v := 0) dX3_watersOf_6 (by decide) ?_
  refine g_istore (pc := 7) [(5, .int 0), (4, .int p1), (0, .ref (am_ad X 3 r0)), (1, .int v1), (2, .int (am_b v2)), (3, .int (am_b v3))] dX3_watersOf_7 (Nat.le_of_ble_eq_true rfl) rfl ?_
  refine g_aload_n (pc := 9) 2 rfl dX3_watersOf_9 rfl ?_
  refine g_bipush (pc := 10) (v := 24) dX3_watersOf_10 (by decide) ?_
  refine g_iload_n (pc := 12) 3 rfl dX3_watersOf_12 rfl ?_
  refine g_imul (pc := 13) dX3_watersOf_13 ?_
  refine g_iload (pc := 14) 1 rfl dX3_watersOf_14 ?_
  refine g_iload_n (pc := 16) 4 rfl dX3_watersOf_16 rfl ?_
  refine g_iload_n (pc := 17) 5 rfl dX3_watersOf_17 rfl ?_
  obtain ⟨p2, hp2, hf⟩ := am_bd hf
  refine g_cV (pc := 18) (As := [.int (24 * v1), .int p1, .int (am_b v2), .int (am_b v3)]) (st := []) (st1 := [.int p2]) (in_3 hX.1 (by omega)) kk_3 mV_X3_nextWater ln_X3_200 rfl (Nat.le_of_ble_eq_true rfl) (Nat.le_of_ble_eq_true rfl) (k_X3_nextWater hX r0 (24 * v1) p1 v2 v3 (by omega) σ hp2) dX3_watersOf_18 rfl rfl ?_
  refine g_istore (pc := 21) [(6, .int p2), (5, .int 0), (4, .int p1), (0, .ref (am_ad X 3 r0)), (1, .int v1), (2, .int (am_b v2)), (3, .int (am_b v3))] dX3_watersOf_21 (Nat.le_of_ble_eq_true rfl) rfl ?_
  refine g_iconst (pc := 23) (v := 0) dX3_watersOf_23 (by decide) ?_
  refine g_istore (pc := 24) [(7, .int 0), (6, .int p2), (5, .int 0), (4, .int p1), (0, .ref (am_ad X 3 r0)), (1, .int v1), (2, .int (am_b v2)), (3, .int (am_b v3))] dX3_watersOf_24 (Nat.le_of_ble_eq_true rfl) rfl ?_
  obtain ⟨w3, hw3, hf⟩ := am_bd hf
  refine am_sub [4, 6, 7, 3, 2, 1, 0] rfl (l_X3_watersOf_26 hX r0 v2 v3 p1 (by omega) σ (0, p2, 0) hw3 ?_)
  intro t e
  subst e
  refine g_iload (pc := 62) 0 rfl dX3_watersOf_62 ?_
  have ho := Option.some.inj hf
  subst ho
  exact g_ireturn (pc := 64) (st := []) rfl dX3_watersOf_64 hk
theorem k_X3_watersOf {X : am_X} (hX : am_wC X) (r0 : Nat) (v1 : Int32) (v2 : Bool) (v3 : Bool) (hr0 : r0 < 3) (σ : am_H) {o : Int32} (hf : f_X3_watersOf r0 v1 v2 v3 σ = some o) : am_C X gm_X3_watersOf [.ref (am_ad X 3 r0), .int v1, .int (am_b v2), .int (am_b v3)] σ (am_is (some (.int o)) σ) :=
  am_ofG rfl (Nat.le_of_ble_eq_true rfl) rfl (q_X3_watersOf hX r0 v1 v2 v3 hr0 σ hf ⟨rfl, rfl⟩)
theorem dX3_waterOf_0 : decode cX3_waterOf 0 = .ok (.iload 4, 2) := by decide +kernel
theorem dX3_waterOf_2 : decode cX3_waterOf 2 = .ok (.ifCond .lt 10, 3) := by decide +kernel
theorem dX3_waterOf_5 : decode cX3_waterOf 5 = .ok (.iload 4, 2) := by decide +kernel
theorem dX3_waterOf_7 : decode cX3_waterOf 7 = .ok (.bipush 24, 2) := by decide +kernel
theorem dX3_waterOf_9 : decode cX3_waterOf 9 = .ok (.if_icmp .lt 5, 3) := by decide +kernel
theorem dX3_waterOf_12 : decode cX3_waterOf 12 = .ok (.iconst (-1), 1) := by decide +kernel
theorem dX3_waterOf_13 : decode cX3_waterOf 13 = .ok (.ireturn, 1) := by decide +kernel
theorem dX3_waterOf_14 : decode cX3_waterOf 14 = .ok (.iload_n 1, 1) := by decide +kernel
theorem dX3_waterOf_15 : decode cX3_waterOf 15 = .ok (.invokestatic 192, 3) := by decide +kernel
theorem dX3_waterOf_18 : decode cX3_waterOf 18 = .ok (.istore 5, 2) := by decide +kernel
theorem dX3_waterOf_20 : decode cX3_waterOf 20 = .ok (.aload_n 0, 1) := by decide +kernel
theorem dX3_waterOf_21 : decode cX3_waterOf 21 = .ok (.bipush 24, 2) := by decide +kernel
theorem dX3_waterOf_23 : decode cX3_waterOf 23 = .ok (.iload_n 1, 1) := by decide +kernel
theorem dX3_waterOf_24 : decode cX3_waterOf 24 = .ok (.imul, 1) := by decide +kernel
theorem dX3_waterOf_25 : decode cX3_waterOf 25 = .ok (.iload 5, 2) := by decide +kernel
theorem dX3_waterOf_27 : decode cX3_waterOf 27 = .ok (.iload_n 2, 1) := by decide +kernel
theorem dX3_waterOf_28 : decode cX3_waterOf 28 = .ok (.iload_n 3, 1) := by decide +kernel
theorem dX3_waterOf_29 : decode cX3_waterOf 29 = .ok (.invokevirtual 200, 3) := by decide +kernel
theorem dX3_waterOf_32 : decode cX3_waterOf 32 = .ok (.istore 6, 2) := by decide +kernel
theorem dX3_waterOf_34 : decode cX3_waterOf 34 = .ok (.iconst 0, 1) := by decide +kernel
theorem dX3_waterOf_35 : decode cX3_waterOf 35 = .ok (.istore 7, 2) := by decide +kernel
theorem dX3_waterOf_37 : decode cX3_waterOf 37 = .ok (.iload 7, 2) := by decide +kernel
theorem dX3_waterOf_39 : decode cX3_waterOf 39 = .ok (.iload 4, 2) := by decide +kernel
theorem dX3_waterOf_41 : decode cX3_waterOf 41 = .ok (.if_icmp .ge 29, 3) := by decide +kernel
theorem dX3_waterOf_44 : decode cX3_waterOf 44 = .ok (.iload 6, 2) := by decide +kernel
theorem dX3_waterOf_46 : decode cX3_waterOf 46 = .ok (.iconst (-1), 1) := by decide +kernel
theorem dX3_waterOf_47 : decode cX3_waterOf 47 = .ok (.if_icmp .eq 23, 3) := by decide +kernel
theorem dX3_waterOf_50 : decode cX3_waterOf 50 = .ok (.aload_n 0, 1) := by decide +kernel
theorem dX3_waterOf_51 : decode cX3_waterOf 51 = .ok (.iload 6, 2) := by decide +kernel
theorem dX3_waterOf_53 : decode cX3_waterOf 53 = .ok (.iconst 1, 1) := by decide +kernel
theorem dX3_waterOf_54 : decode cX3_waterOf 54 = .ok (.iadd, 1) := by decide +kernel
theorem dX3_waterOf_55 : decode cX3_waterOf 55 = .ok (.iload 5, 2) := by decide +kernel
theorem dX3_waterOf_57 : decode cX3_waterOf 57 = .ok (.iload_n 2, 1) := by decide +kernel
theorem dX3_waterOf_58 : decode cX3_waterOf 58 = .ok (.iload_n 3, 1) := by decide +kernel
theorem dX3_waterOf_59 : decode cX3_waterOf 59 = .ok (.invokevirtual 200, 3) := by decide +kernel
theorem dX3_waterOf_62 : decode cX3_waterOf 62 = .ok (.istore 6, 2) := by decide +kernel
theorem dX3_waterOf_64 : decode cX3_waterOf 64 = .ok (.iinc 7 1, 3) := by decide +kernel
theorem dX3_waterOf_67 : decode cX3_waterOf 67 = .ok (.goto (-30), 3) := by decide +kernel
theorem dX3_waterOf_70 : decode cX3_waterOf 70 = .ok (.iload 6, 2) := by decide +kernel
theorem dX3_waterOf_72 : decode cX3_waterOf 72 = .ok (.ireturn, 1) := by decide +kernel
noncomputable def f_X3_waterOf_37 (r0 : Nat) (v2 : Bool) (v3 : Bool) (v4 : Int32) (v5 : Int32) (v6 : Int32) (v7 : Int32) (σ : am_H) : Option ((Int32 × Int32) ⊕ (Int32)) :=
  if v7 < v4 then
   (if v6 = (-1) then
    (some (.inr v6))
   else
   (f_X3_nextWater r0 (v6 + 1) v5 v2 v3 σ).bind fun p3 =>
   some (.inl (p3, (v7 + 1))))
  else
  some (.inr v6)
set_option maxRecDepth 100000 in
set_option maxHeartbeats 4000000 in
theorem q_X3_waterOf_37 {X : am_X} (hX : am_wC X) {Q : Option Value → am_H → Prop} (r0 : Nat) (v2 : Bool) (v3 : Bool) (v4 : Int32) (v5 : Int32) (v6 : Int32) (v7 : Int32) (hr0 : r0 < 3) (σ : am_H) {o : (Int32 × Int32) ⊕ (Int32)} (hf : f_X3_waterOf_37 r0 v2 v3 v4 v5 v6 v7 σ = some o) (hk0 : ∀ s, o = .inl s → am_G X gm_X3_waterOf Q 37 [(0, .ref (am_ad X 3 r0)), (2, .int (am_b v2)), (3, .int (am_b v3)), (4, .int v4), (5, .int v5), (6, .int s.1), (7, .int s.2)] [] σ) (hk1 : ∀ t, o = .inr t → am_G X gm_X3_waterOf Q 70 [(6, .int t)] [] σ) : am_G X gm_X3_waterOf Q 37 [(0, .ref (am_ad X 3 r0)), (2, .int (am_b v2)), (3, .int (am_b v3)), (4, .int v4), (5, .int v5), (6, .int v6), (7, .int v7)] [] σ := by
  unfold f_X3_waterOf_37 at hf
  refine g_iload (pc := 37) 6 rfl dX3_waterOf_37 ?_
  refine g_iload (pc := 39) 3 rfl dX3_waterOf_39 ?_
  refine bi_ge (pc := 41) 70 dX3_waterOf_41 rfl (fun c1 => ?_) (fun c1 => ?_)
  · replace hf := am_ifT c1 hf
    refine g_iload (pc := 44) 5 rfl dX3_waterOf_44 ?_
    refine g_iconst (pc := 46) (v := (-1)) dX3_waterOf_46 (by decide) ?_
    refine bi_eq (pc := 47) 70 dX3_waterOf_47 rfl (fun c2 => ?_) (fun c2 => ?_)
    · replace hf := am_ifT c2 hf
      have hz := hk1 _ (Option.some.inj hf).symm
      exact am_sub [5] rfl hz
    replace hf := am_ifF c2 hf
    refine g_aload_n (pc := 50) 0 rfl dX3_waterOf_50 rfl ?_
    refine g_iload (pc := 51) 5 rfl dX3_waterOf_51 ?_
    refine g_iconst (pc := 53) (v := 1) dX3_waterOf_53 (by decide) ?_
    refine g_iadd (pc := 54) dX3_waterOf_54 ?_
    refine g_iload (pc := 55) 4 rfl dX3_waterOf_55 ?_
    refine g_iload_n (pc := 57) 1 rfl dX3_waterOf_57 rfl ?_
    refine g_iload_n (pc := 58) 2 rfl dX3_waterOf_58 rfl ?_
    obtain ⟨p3, hp3, hf⟩ := am_bd hf
    refine g_cV (pc := 59) (As := [.int (v6 + 1), .int v5, .int (am_b v2), .int (am_b v3)]) (st := []) (st1 := [.int p3]) (in_3 hX.1 (by omega)) kk_3 mV_X3_nextWater ln_X3_200 rfl (Nat.le_of_ble_eq_true rfl) (Nat.le_of_ble_eq_true rfl) (k_X3_nextWater hX r0 (v6 + 1) v5 v2 v3 (by omega) σ hp3) dX3_waterOf_59 rfl rfl ?_
    refine g_istore (pc := 62) [(6, .int p3), (0, .ref (am_ad X 3 r0)), (2, .int (am_b v2)), (3, .int (am_b v3)), (4, .int v4), (5, .int v5), (7, .int v7)] dX3_waterOf_62 (Nat.le_of_ble_eq_true rfl) rfl ?_
    refine g_iinc (pc := 64) (v := (v7 + 1)) 6 [(7, .int (v7 + 1)), (6, .int p3), (0, .ref (am_ad X 3 r0)), (2, .int (am_b v2)), (3, .int (am_b v3)), (4, .int v4), (5, .int v5)] dX3_waterOf_64 rfl rfl (Nat.le_of_ble_eq_true rfl) rfl ?_
    refine g_goto (pc := 67) 37 dX3_waterOf_67 rfl ?_
    have hz := hk0 _ (Option.some.inj hf).symm
    exact am_sub [2, 3, 4, 5, 6, 1, 0] rfl hz
  replace hf := am_ifF c1 hf
  have hz := hk1 _ (Option.some.inj hf).symm
  exact am_sub [5] rfl hz
set_option maxRecDepth 100000 in
set_option maxHeartbeats 4000000 in
theorem l_X3_waterOf_37 {X : am_X} (hX : am_wC X) {Q : Option Value → am_H → Prop} (r0 : Nat) (v2 : Bool) (v3 : Bool) (v4 : Int32) (v5 : Int32) (hr0 : r0 < 3) (σ : am_H) (s : Int32 × Int32) {o : Int32} (hf : am_loop (fun s => f_X3_waterOf_37 r0 v2 v3 v4 v5 s.1 s.2 σ) s = some o) (hk1 : ∀ t, o = t → am_G X gm_X3_waterOf Q 70 [(6, .int t)] [] σ) : am_G X gm_X3_waterOf Q 37 [(0, .ref (am_ad X 3 r0)), (2, .int (am_b v2)), (3, .int (am_b v3)), (4, .int v4), (5, .int v5), (6, .int s.1), (7, .int s.2)] [] σ := by
  refine am_loop_ind (P := fun s => am_G X gm_X3_waterOf Q 37 [(0, .ref (am_ad X 3 r0)), (2, .int (am_b v2)), (3, .int (am_b v3)), (4, .int v4), (5, .int v5), (6, .int s.1), (7, .int s.2)] [] σ) (K := fun r => r = o) ?_ hf rfl
  intro s o1 hb hi hr
  exact q_X3_waterOf_37 hX r0 v2 v3 v4 v5 s.1 s.2  hr0 σ hb hi (fun t e => hk1 t (hr _ e).symm)
noncomputable def f_X3_waterOf (r0 : Nat) (v1 : Int32) (v2 : Bool) (v3 : Bool) (v4 : Int32) (σ : am_H) : Option (Int32) :=
  if v4 < 0 then
   (some (-1))
  else
  if v4 < 24 then
   ((f_X3_lastHourOf v1 σ).bind fun p3 =>
   (f_X3_nextWater r0 (24 * v1) p3 v2 v3 σ).bind fun p4 =>
   (am_loop (fun s => f_X3_waterOf_37 r0 v2 v3 v4 p3 s.1 s.2 σ) (p4, 0)).bind fun w5 =>
   some w5)
  else
  some (-1)
set_option maxRecDepth 100000 in
set_option maxHeartbeats 4000000 in
theorem q_X3_waterOf {X : am_X} (hX : am_wC X) {Q : Option Value → am_H → Prop} (r0 : Nat) (v1 : Int32) (v2 : Bool) (v3 : Bool) (v4 : Int32) (hr0 : r0 < 3) (σ : am_H) {o : Int32} (hf : f_X3_waterOf r0 v1 v2 v3 v4 σ = some o) (hk : Q (some (.int o)) σ) : am_G X gm_X3_waterOf Q 0 [(0, .ref (am_ad X 3 r0)), (1, .int v1), (2, .int (am_b v2)), (3, .int (am_b v3)), (4, .int v4)] [] σ := by
  unfold f_X3_waterOf at hf
  refine g_iload (pc := 0) 4 rfl dX3_waterOf_0 ?_
  refine bz_lt (pc := 2) 12 dX3_waterOf_2 rfl (fun c1 => ?_) (fun c1 => ?_)
  · replace hf := am_ifT c1 hf
    refine g_iconst (pc := 12) (v := (-1)) dX3_waterOf_12 (by decide) ?_
    have ho := Option.some.inj hf
    subst ho
    exact g_ireturn (pc := 13) (st := []) rfl dX3_waterOf_13 hk
  replace hf := am_ifF c1 hf
  refine g_iload (pc := 5) 4 rfl dX3_waterOf_5 ?_
  refine g_bipush (pc := 7) (v := 24) dX3_waterOf_7 (by decide) ?_
  refine bi_lt (pc := 9) 14 dX3_waterOf_9 rfl (fun c2 => ?_) (fun c2 => ?_)
  · replace hf := am_ifT c2 hf
    refine g_iload_n (pc := 14) 1 rfl dX3_waterOf_14 rfl ?_
    obtain ⟨p3, hp3, hf⟩ := am_bd hf
    refine g_cS (pc := 15) (As := [.int v1]) (st := []) (st1 := [.int p3]) mS_X3_lastHourOf ln_X3_192 rfl (Nat.le_of_ble_eq_true rfl) (Nat.le_of_ble_eq_true rfl) (k_X3_lastHourOf hX v1 σ hp3) dX3_waterOf_15 rfl rfl ?_
    refine g_istore (pc := 18) [(5, .int p3), (0, .ref (am_ad X 3 r0)), (1, .int v1), (2, .int (am_b v2)), (3, .int (am_b v3)), (4, .int v4)] dX3_waterOf_18 (Nat.le_of_ble_eq_true rfl) rfl ?_
    refine g_aload_n (pc := 20) 1 rfl dX3_waterOf_20 rfl ?_
    refine g_bipush (pc := 21) (v := 24) dX3_waterOf_21 (by decide) ?_
    refine g_iload_n (pc := 23) 2 rfl dX3_waterOf_23 rfl ?_
    refine g_imul (pc := 24) dX3_waterOf_24 ?_
    refine g_iload (pc := 25) 0 rfl dX3_waterOf_25 ?_
    refine g_iload_n (pc := 27) 3 rfl dX3_waterOf_27 rfl ?_
    refine g_iload_n (pc := 28) 4 rfl dX3_waterOf_28 rfl ?_
    obtain ⟨p4, hp4, hf⟩ := am_bd hf
    refine g_cV (pc := 29) (As := [.int (24 * v1), .int p3, .int (am_b v2), .int (am_b v3)]) (st := []) (st1 := [.int p4]) (in_3 hX.1 (by omega)) kk_3 mV_X3_nextWater ln_X3_200 rfl (Nat.le_of_ble_eq_true rfl) (Nat.le_of_ble_eq_true rfl) (k_X3_nextWater hX r0 (24 * v1) p3 v2 v3 (by omega) σ hp4) dX3_waterOf_29 rfl rfl ?_
    refine g_istore (pc := 32) [(6, .int p4), (5, .int p3), (0, .ref (am_ad X 3 r0)), (1, .int v1), (2, .int (am_b v2)), (3, .int (am_b v3)), (4, .int v4)] dX3_waterOf_32 (Nat.le_of_ble_eq_true rfl) rfl ?_
    refine g_iconst (pc := 34) (v := 0) dX3_waterOf_34 (by decide) ?_
    refine g_istore (pc := 35) [(7, .int 0), (6, .int p4), (5, .int p3), (0, .ref (am_ad X 3 r0)), (1, .int v1), (2, .int (am_b v2)), (3, .int (am_b v3)), (4, .int v4)] dX3_waterOf_35 (Nat.le_of_ble_eq_true rfl) rfl ?_
    obtain ⟨w5, hw5, hf⟩ := am_bd hf
    refine am_sub [3, 5, 6, 7, 2, 1, 0] rfl (l_X3_waterOf_37 hX r0 v2 v3 v4 p3 (by omega) σ (p4, 0) hw5 ?_)
    intro t e
    subst e
    refine g_iload (pc := 70) 0 rfl dX3_waterOf_70 ?_
    have ho := Option.some.inj hf
    subst ho
    exact g_ireturn (pc := 72) (st := []) rfl dX3_waterOf_72 hk
  replace hf := am_ifF c2 hf
  refine g_iconst (pc := 12) (v := (-1)) dX3_waterOf_12 (by decide) ?_
  have ho := Option.some.inj hf
  subst ho
  exact g_ireturn (pc := 13) (st := []) rfl dX3_waterOf_13 hk
theorem k_X3_waterOf {X : am_X} (hX : am_wC X) (r0 : Nat) (v1 : Int32) (v2 : Bool) (v3 : Bool) (v4 : Int32) (hr0 : r0 < 3) (σ : am_H) {o : Int32} (hf : f_X3_waterOf r0 v1 v2 v3 v4 σ = some o) : am_C X gm_X3_waterOf [.ref (am_ad X 3 r0), .int v1, .int (am_b v2), .int (am_b v3), .int v4] σ (am_is (some (.int o)) σ) :=
  am_ofG rfl (Nat.le_of_ble_eq_true rfl) rfl (q_X3_waterOf hX r0 v1 v2 v3 v4 hr0 σ hf ⟨rfl, rfl⟩)
theorem dX10_roundedUp_0 : decode cX10_roundedUp 0 = .ok (.lload_n 2, 1) := by decide +kernel
theorem dX10_roundedUp_1 : decode cX10_roundedUp 1 = .ok (.lconst 0, 1) := by decide +kernel
theorem dX10_roundedUp_2 : decode cX10_roundedUp 2 = .ok (.lcmp, 1) := by decide +kernel
theorem dX10_roundedUp_3 : decode cX10_roundedUp 3 = .ok (.ifCond .gt 9, 3) := by decide +kernel
theorem dX10_roundedUp_6 : decode cX10_roundedUp 6 = .ok (.ldc2_w 68, 3) := by decide +kernel
theorem dX10_roundedUp_9 : decode cX10_roundedUp 9 = .ok (.goto 10, 3) := by decide +kernel
theorem dX10_roundedUp_12 : decode cX10_roundedUp 12 = .ok (.lload_n 0, 1) := by decide +kernel
theorem dX10_roundedUp_13 : decode cX10_roundedUp 13 = .ok (.lload_n 2, 1) := by decide +kernel
theorem dX10_roundedUp_14 : decode cX10_roundedUp 14 = .ok (.ladd, 1) := by decide +kernel
theorem dX10_roundedUp_15 : decode cX10_roundedUp 15 = .ok (.lconst 1, 1) := by decide +kernel
theorem dX10_roundedUp_16 : decode cX10_roundedUp 16 = .ok (.lsub, 1) := by decide +kernel
theorem dX10_roundedUp_17 : decode cX10_roundedUp 17 = .ok (.lload_n 2, 1) := by decide +kernel
theorem dX10_roundedUp_18 : decode cX10_roundedUp 18 = .ok (.ldiv, 1) := by decide +kernel
theorem dX10_roundedUp_19 : decode cX10_roundedUp 19 = .ok (.lreturn, 1) := by decide +kernel
noncomputable def f_X10_roundedUp (v0 : Int64) (v2 : Int64) (σ : am_H) : Option (Int64) :=
  if 0 < v2 then
   (if v2 = 0 then none else
   some (((v0 + v2) - 1) / v2))
  else
  some 100000
set_option maxRecDepth 100000 in
set_option maxHeartbeats 4000000 in
theorem q_X10_roundedUp {X : am_X} (hX : am_wC X) {Q : Option Value → am_H → Prop} (v0 : Int64) (v2 : Int64) (σ : am_H) {o : Int64} (hf : f_X10_roundedUp v0 v2 σ = some o) (hk : Q (some (.long o)) σ) : am_G X gm_X10_roundedUp Q 0 [(0, .long v0), (2, .long v2)] [] σ := by
  unfold f_X10_roundedUp at hf
  refine g_lload_n (pc := 0) 1 rfl dX10_roundedUp_0 rfl ?_
  refine g_lconst (pc := 1) (v := 0) dX10_roundedUp_1 (by decide) ?_
  refine g_lcm (pc := 2) dX10_roundedUp_2 ?_
  refine bl_gt (pc := 3) 12 dX10_roundedUp_3 rfl (fun c1 => ?_) (fun c1 => ?_)
  · replace hf := am_ifT c1 hf
    refine g_lload_n (pc := 12) 0 rfl dX10_roundedUp_12 rfl ?_
    refine g_lload_n (pc := 13) 1 rfl dX10_roundedUp_13 rfl ?_
    refine g_ladd (pc := 14) dX10_roundedUp_14 ?_
    refine g_lconst (pc := 15) (v := 1) dX10_roundedUp_15 (by decide) ?_
    refine g_lsub (pc := 16) dX10_roundedUp_16 ?_
    refine g_lload_n (pc := 17) 1 rfl dX10_roundedUp_17 rfl ?_
    by_cases z2 : v2 = 0
    · exact absurd (am_ifT z2 hf) (by simp)
    replace hf := am_ifF z2 hf
    refine g_ldiv (pc := 18) dX10_roundedUp_18 z2 ?_
    have ho := Option.some.inj hf
    subst ho
    exact g_lreturn (pc := 19) (st := []) rfl dX10_roundedUp_19 hk
  replace hf := am_ifF c1 hf
  refine g_ldc2 (pc := 6) (v := 100000) (tb_6 (List.mem_of_getElem? (i := 122) (by decide +kernel))) dX10_roundedUp_6 ?_
  refine g_goto (pc := 9) 19 dX10_roundedUp_9 rfl ?_
  have ho := Option.some.inj hf
  subst ho
  exact g_lreturn (pc := 19) (st := []) rfl dX10_roundedUp_19 hk
theorem k_X10_roundedUp {X : am_X} (hX : am_wC X) (v0 : Int64) (v2 : Int64) (σ : am_H) {o : Int64} (hf : f_X10_roundedUp v0 v2 σ = some o) : am_C X gm_X10_roundedUp [.long v0, .long v2] σ (am_is (some (.long o)) σ) :=
  am_ofG rfl (Nat.le_of_ble_eq_true rfl) rfl (q_X10_roundedUp hX v0 v2 σ hf ⟨rfl, rfl⟩)
