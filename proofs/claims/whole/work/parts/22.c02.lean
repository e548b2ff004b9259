theorem dX2_isInTime_0 : decode cX2_isInTime 0 = .ok (.iload_n 1, 1) := by decide +kernel
theorem dX2_isInTime_1 : decode cX2_isInTime 1 = .ok (.bipush 24, 2) := by decide +kernel
theorem dX2_isInTime_3 : decode cX2_isInTime 3 = .ok (.irem, 1) := by decide +kernel
theorem dX2_isInTime_4 : decode cX2_isInTime 4 = .ok (.istore_n 2, 1) := by decide +kernel
theorem dX2_isInTime_5 : decode cX2_isInTime 5 = .ok (.aload_n 0, 1) := by decide +kernel
theorem dX2_isInTime_6 : decode cX2_isInTime 6 = .ok (.getfield 29, 3) := by decide +kernel
theorem dX2_isInTime_9 : decode cX2_isInTime 9 = .ok (.aload_n 0, 1) := by decide +kernel
theorem dX2_isInTime_10 : decode cX2_isInTime 10 = .ok (.getfield 15, 3) := by decide +kernel
theorem dX2_isInTime_13 : decode cX2_isInTime 13 = .ok (.if_icmp .gt 27, 3) := by decide +kernel
theorem dX2_isInTime_16 : decode cX2_isInTime 16 = .ok (.iload_n 2, 1) := by decide +kernel
theorem dX2_isInTime_17 : decode cX2_isInTime 17 = .ok (.aload_n 0, 1) := by decide +kernel
theorem dX2_isInTime_18 : decode cX2_isInTime 18 = .ok (.getfield 29, 3) := by decide +kernel
theorem dX2_isInTime_21 : decode cX2_isInTime 21 = .ok (.if_icmp .lt 15, 3) := by decide +kernel
theorem dX2_isInTime_24 : decode cX2_isInTime 24 = .ok (.iload_n 2, 1) := by decide +kernel
theorem dX2_isInTime_25 : decode cX2_isInTime 25 = .ok (.aload_n 0, 1) := by decide +kernel
theorem dX2_isInTime_26 : decode cX2_isInTime 26 = .ok (.getfield 15, 3) := by decide +kernel
theorem dX2_isInTime_29 : decode cX2_isInTime 29 = .ok (.if_icmp .gt 7, 3) := by decide +kernel
theorem dX2_isInTime_32 : decode cX2_isInTime 32 = .ok (.iconst 1, 1) := by decide +kernel
theorem dX2_isInTime_33 : decode cX2_isInTime 33 = .ok (.goto 28, 3) := by decide +kernel
theorem dX2_isInTime_36 : decode cX2_isInTime 36 = .ok (.iconst 0, 1) := by decide +kernel
theorem dX2_isInTime_37 : decode cX2_isInTime 37 = .ok (.goto 24, 3) := by decide +kernel
theorem dX2_isInTime_40 : decode cX2_isInTime 40 = .ok (.iload_n 2, 1) := by decide +kernel
theorem dX2_isInTime_41 : decode cX2_isInTime 41 = .ok (.aload_n 0, 1) := by decide +kernel
theorem dX2_isInTime_42 : decode cX2_isInTime 42 = .ok (.getfield 29, 3) := by decide +kernel
theorem dX2_isInTime_45 : decode cX2_isInTime 45 = .ok (.if_icmp .ge 11, 3) := by decide +kernel
theorem dX2_isInTime_48 : decode cX2_isInTime 48 = .ok (.iload_n 2, 1) := by decide +kernel
theorem dX2_isInTime_49 : decode cX2_isInTime 49 = .ok (.aload_n 0, 1) := by decide +kernel
theorem dX2_isInTime_50 : decode cX2_isInTime 50 = .ok (.getfield 15, 3) := by decide +kernel
theorem dX2_isInTime_53 : decode cX2_isInTime 53 = .ok (.if_icmp .gt 7, 3) := by decide +kernel
theorem dX2_isInTime_56 : decode cX2_isInTime 56 = .ok (.iconst 1, 1) := by decide +kernel
theorem dX2_isInTime_57 : decode cX2_isInTime 57 = .ok (.goto 4, 3) := by decide +kernel
theorem dX2_isInTime_60 : decode cX2_isInTime 60 = .ok (.iconst 0, 1) := by decide +kernel
theorem dX2_isInTime_61 : decode cX2_isInTime 61 = .ok (.ireturn, 1) := by decide +kernel
noncomputable def f_X2_isInTime (v1 : Int32) (σ : am_H) : Option (Bool) :=
  if (σ.1 2 0 7) < (σ.1 2 0 6) then
   (if (am_iR v1 24) < (σ.1 2 0 6) then
    (if (σ.1 2 0 7) < (am_iR v1 24) then
     (some false)
    else
    some true)
   else
   some true)
  else
  if (am_iR v1 24) < (σ.1 2 0 6) then
   (some false)
  else
  if (σ.1 2 0 7) < (am_iR v1 24) then
   (some false)
  else
  some true
set_option maxRecDepth 100000 in
set_option maxHeartbeats 4000000 in
theorem q_X2_isInTime {X : am_X} (hX : am_wC X) {Q : Option Value → am_H → Prop} (v1 : Int32) (σ : am_H) {o : Bool} (hf : f_X2_isInTime v1 σ = some o) (hk : Q (some (.int (am_b o))) σ) : am_G X gm_X2_isInTime Q 0 [(0, .ref (am_ad X 2 0)), (1, .int v1)] [] σ := by
  unfold f_X2_isInTime at hf
  refine g_iload_n (pc := 0) 1 rfl dX2_isInTime_0 rfl ?_
  refine g_bipush (pc := 1) (v := 24) dX2_isInTime_1 (by decide) ?_
  refine g_irem (pc := 3) dX2_isInTime_3 (by decide) ?_
  refine g_istore_n (pc := 4) [(2, .int (am_iR v1 24)), (0, .ref (am_ad X 2 0)), (1, .int v1)] dX2_isInTime_4 rfl (Nat.le_of_ble_eq_true rfl) rfl ?_
  refine g_aload_n (pc := 5) 1 rfl dX2_isInTime_5 rfl ?_
  refine g_getI (pc := 6) (in_2 hX.1 (by omega)) fr_X2_29 dX2_isInTime_6 ?_
  refine g_aload_n (pc := 9) 1 rfl dX2_isInTime_9 rfl ?_
  refine g_getI (pc := 10) (in_2 hX.1 (by omega)) fr_X2_15 dX2_isInTime_10 ?_
  refine bi_gt (pc := 13) 40 dX2_isInTime_13 rfl (fun c1 => ?_) (fun c1 => ?_)
  · replace hf := am_ifT c1 hf
    refine g_iload_n (pc := 40) 0 rfl dX2_isInTime_40 rfl ?_
    refine g_aload_n (pc := 41) 1 rfl dX2_isInTime_41 rfl ?_
    refine g_getI (pc := 42) (in_2 hX.1 (by omega)) fr_X2_29 dX2_isInTime_42 ?_
    refine bi_ge (pc := 45) 56 dX2_isInTime_45 rfl (fun c2 => ?_) (fun c2 => ?_)
    · replace hf := am_ifT c2 hf
      refine g_iload_n (pc := 48) 0 rfl dX2_isInTime_48 rfl ?_
      refine g_aload_n (pc := 49) 1 rfl dX2_isInTime_49 rfl ?_
      refine g_getI (pc := 50) (in_2 hX.1 (by omega)) fr_X2_15 dX2_isInTime_50 ?_
      refine bi_gt (pc := 53) 60 dX2_isInTime_53 rfl (fun c3 => ?_) (fun c3 => ?_)
      · replace hf := am_ifT c3 hf
        refine g_iconst (pc := 60) (v := 0) dX2_isInTime_60 (by decide) ?_
        have ho := Option.some.inj hf
        subst ho
        exact g_zreturn (pc := 61) (st := []) (x := false) rfl dX2_isInTime_61 hk
      replace hf := am_ifF c3 hf
      refine g_iconst (pc := 56) (v := 1) dX2_isInTime_56 (by decide) ?_
      refine g_goto (pc := 57) 61 dX2_isInTime_57 rfl ?_
      have ho := Option.some.inj hf
      subst ho
      exact g_zreturn (pc := 61) (st := []) (x := true) rfl dX2_isInTime_61 hk
    replace hf := am_ifF c2 hf
    refine g_iconst (pc := 56) (v := 1) dX2_isInTime_56 (by decide) ?_
    refine g_goto (pc := 57) 61 dX2_isInTime_57 rfl ?_
    have ho := Option.some.inj hf
    subst ho
    exact g_zreturn (pc := 61) (st := []) (x := true) rfl dX2_isInTime_61 hk
  replace hf := am_ifF c1 hf
  refine g_iload_n (pc := 16) 0 rfl dX2_isInTime_16 rfl ?_
  refine g_aload_n (pc := 17) 1 rfl dX2_isInTime_17 rfl ?_
  refine g_getI (pc := 18) (in_2 hX.1 (by omega)) fr_X2_29 dX2_isInTime_18 ?_
  refine bi_lt (pc := 21) 36 dX2_isInTime_21 rfl (fun c4 => ?_) (fun c4 => ?_)
  · replace hf := am_ifT c4 hf
    refine g_iconst (pc := 36) (v := 0) dX2_isInTime_36 (by decide) ?_
    refine g_goto (pc := 37) 61 dX2_isInTime_37 rfl ?_
    have ho := Option.some.inj hf
    subst ho
    exact g_zreturn (pc := 61) (st := []) (x := false) rfl dX2_isInTime_61 hk
  replace hf := am_ifF c4 hf
  refine g_iload_n (pc := 24) 0 rfl dX2_isInTime_24 rfl ?_
  refine g_aload_n (pc := 25) 1 rfl dX2_isInTime_25 rfl ?_
  refine g_getI (pc := 26) (in_2 hX.1 (by omega)) fr_X2_15 dX2_isInTime_26 ?_
  refine bi_gt (pc := 29) 36 dX2_isInTime_29 rfl (fun c5 => ?_) (fun c5 => ?_)
  · replace hf := am_ifT c5 hf
    refine g_iconst (pc := 36) (v := 0) dX2_isInTime_36 (by decide) ?_
    refine g_goto (pc := 37) 61 dX2_isInTime_37 rfl ?_
    have ho := Option.some.inj hf
    subst ho
    exact g_zreturn (pc := 61) (st := []) (x := false) rfl dX2_isInTime_61 hk
  replace hf := am_ifF c5 hf
  refine g_iconst (pc := 32) (v := 1) dX2_isInTime_32 (by decide) ?_
  refine g_goto (pc := 33) 61 dX2_isInTime_33 rfl ?_
  have ho := Option.some.inj hf
  subst ho
  exact g_zreturn (pc := 61) (st := []) (x := true) rfl dX2_isInTime_61 hk
theorem k_X2_isInTime {X : am_X} (hX : am_wC X) (v1 : Int32) (σ : am_H) {o : Bool} (hf : f_X2_isInTime v1 σ = some o) : am_C X gm_X2_isInTime [.ref (am_ad X 2 0), .int v1] σ (am_is (some (.int (am_b o))) σ) :=
  am_ofG rfl (Nat.le_of_ble_eq_true rfl) rfl (q_X2_isInTime hX v1 σ hf ⟨rfl, rfl⟩)
theorem dX2_isMoonFine_0 : decode cX2_isMoonFine 0 = .ok (.aload_n 1, 1) := by decide +kernel
theorem dX2_isMoonFine_1 : decode cX2_isMoonFine 1 = .ok (.aload_n 0, 1) := by decide +kernel
theorem dX2_isMoonFine_2 : decode cX2_isMoonFine 2 = .ok (.getfield 9, 3) := by decide +kernel
theorem dX2_isMoonFine_5 : decode cX2_isMoonFine 5 = .ok (.invokevirtual 32, 3) := by decide +kernel
theorem dX2_isMoonFine_8 : decode cX2_isMoonFine 8 = .ok (.astore_n 3, 1) := by decide +kernel
theorem dX2_isMoonFine_9 : decode cX2_isMoonFine 9 = .ok (.aload_n 3, 1) := by decide +kernel
theorem dX2_isMoonFine_10 : decode cX2_isMoonFine 10 = .ok (.ifnull 23, 3) := by decide +kernel
theorem dX2_isMoonFine_13 : decode cX2_isMoonFine 13 = .ok (.aload_n 3, 1) := by decide +kernel
theorem dX2_isMoonFine_14 : decode cX2_isMoonFine 14 = .ok (.iload_n 2, 1) := by decide +kernel
theorem dX2_isMoonFine_15 : decode cX2_isMoonFine 15 = .ok (.i2l, 1) := by decide +kernel
theorem dX2_isMoonFine_16 : decode cX2_isMoonFine 16 = .ok (.iconst 0, 1) := by decide +kernel
theorem dX2_isMoonFine_17 : decode cX2_isMoonFine 17 = .ok (.invokevirtual 38, 3) := by decide +kernel
theorem dX2_isMoonFine_20 : decode cX2_isMoonFine 20 = .ok (.bipush 12, 2) := by decide +kernel
theorem dX2_isMoonFine_22 : decode cX2_isMoonFine 22 = .ok (.isub, 1) := by decide +kernel
theorem dX2_isMoonFine_23 : decode cX2_isMoonFine 23 = .ok (.invokestatic 44, 3) := by decide +kernel
theorem dX2_isMoonFine_26 : decode cX2_isMoonFine 26 = .ok (.aload_n 0, 1) := by decide +kernel
theorem dX2_isMoonFine_27 : decode cX2_isMoonFine 27 = .ok (.getfield 50, 3) := by decide +kernel
theorem dX2_isMoonFine_30 : decode cX2_isMoonFine 30 = .ok (.if_icmp .gt 7, 3) := by decide +kernel
theorem dX2_isMoonFine_33 : decode cX2_isMoonFine 33 = .ok (.iconst 1, 1) := by decide +kernel
theorem dX2_isMoonFine_34 : decode cX2_isMoonFine 34 = .ok (.goto 4, 3) := by decide +kernel
theorem dX2_isMoonFine_37 : decode cX2_isMoonFine 37 = .ok (.iconst 0, 1) := by decide +kernel
theorem dX2_isMoonFine_38 : decode cX2_isMoonFine 38 = .ok (.ireturn, 1) := by decide +kernel
noncomputable def f_X2_isMoonFine (r1 : Nat) (v2 : Int32) (σ : am_H) : Option (Bool) :=
  (f_X3_waveAt r1 (σ.1 2 0 4) σ).bind fun p1 =>
  am_nn 18 p1
   (some true)
   (fun a2 =>
   (f_X10_placeAt a2 (Int32.toInt64 v2) false σ).bind fun p3 =>
   if (σ.1 2 0 5) < (am_ab (p3 - 12)) then
    (some false)
   else
   some true)
set_option maxRecDepth 100000 in
set_option maxHeartbeats 4000000 in
theorem q_X2_isMoonFine {X : am_X} (hX : am_wC X) {Q : Option Value → am_H → Prop} (r1 : Nat) (v2 : Int32) (hr1 : r1 < 3) (σ : am_H) {o : Bool} (hf : f_X2_isMoonFine r1 v2 σ = some o) (hk : Q (some (.int (am_b o))) σ) : am_G X gm_X2_isMoonFine Q 0 [(0, .ref (am_ad X 2 0)), (1, .ref (am_ad X 3 r1)), (2, .int v2)] [] σ := by
  unfold f_X2_isMoonFine at hf
  refine g_aload_n (pc := 0) 1 rfl dX2_isMoonFine_0 rfl ?_
  refine g_aload_n (pc := 1) 0 rfl dX2_isMoonFine_1 rfl ?_
  refine g_getI (pc := 2) (in_2 hX.1 (by omega)) fr_X2_9 dX2_isMoonFine_2 ?_
  obtain ⟨p1, hp1, hf⟩ := am_bd hf
  have hq := am_nn_c hf
  clear hf
  rcases hq with ⟨ep1, hf⟩ | ⟨a2, ep1, ga2, hf⟩
  · subst ep1
    refine g_cV (pc := 5) (As := [.int (σ.1 2 0 4)]) (st := []) (st1 := [.null]) (in_3 hX.1 (by omega)) kk_3 mV_X3_waveAt ln_X2_32 rfl (Nat.le_of_ble_eq_true rfl) (Nat.le_of_ble_eq_true rfl) (k_X3_waveAt hX r1 (σ.1 2 0 4) (by omega) σ hp1) dX2_isMoonFine_5 rfl rfl ?_
    refine g_astoreN_n (pc := 8) [(3, .null), (0, .ref (am_ad X 2 0)), (1, .ref (am_ad X 3 r1)), (2, .int v2)] dX2_isMoonFine_8 rfl (Nat.le_of_ble_eq_true rfl) rfl ?_
    refine g_aloadN_n (pc := 9) 0 rfl dX2_isMoonFine_9 rfl ?_
    refine g_ifnullN (pc := 10) 33 dX2_isMoonFine_10 rfl ?_
    refine g_iconst (pc := 33) (v := 1) dX2_isMoonFine_33 (by decide) ?_
    refine g_goto (pc := 34) 38 dX2_isMoonFine_34 rfl ?_
    have ho := Option.some.inj hf
    subst ho
    exact g_zreturn (pc := 38) (st := []) (x := true) rfl dX2_isMoonFine_38 hk
  · subst ep1
    refine g_cV (pc := 5) (As := [.int (σ.1 2 0 4)]) (st := []) (st1 := [.ref (am_ad X 10 a2)]) (in_3 hX.1 (by omega)) kk_3 mV_X3_waveAt ln_X2_32 rfl (Nat.le_of_ble_eq_true rfl) (Nat.le_of_ble_eq_true rfl) (k_X3_waveAt hX r1 (σ.1 2 0 4) (by omega) σ hp1) dX2_isMoonFine_5 rfl rfl ?_
    refine g_astore_n (pc := 8) [(3, .ref (am_ad X 10 a2)), (0, .ref (am_ad X 2 0)), (1, .ref (am_ad X 3 r1)), (2, .int v2)] dX2_isMoonFine_8 rfl (Nat.le_of_ble_eq_true rfl) rfl ?_
    refine g_aload_n (pc := 9) 0 rfl dX2_isMoonFine_9 rfl ?_
    refine g_ifnull (pc := 10) dX2_isMoonFine_10 ?_
    refine g_aload_n (pc := 13) 0 rfl dX2_isMoonFine_13 rfl ?_
    refine g_iload_n (pc := 14) 3 rfl dX2_isMoonFine_14 rfl ?_
    refine g_i2l (pc := 15) dX2_isMoonFine_15 ?_
    refine g_iconst (pc := 16) (v := 0) dX2_isMoonFine_16 (by decide) ?_
    obtain ⟨p3, hp3, hf⟩ := am_bd hf
    refine g_cV (pc := 17) (As := [.long (Int32.toInt64 v2), .int (am_b false)]) (st := []) (st1 := [.int p3]) (in_10 hX.1 (by omega)) kk_10 mV_X10_placeAt ln_X2_38 rfl (Nat.le_of_ble_eq_true rfl) (Nat.le_of_ble_eq_true rfl) (k_X10_placeAt hX a2 (Int32.toInt64 v2) false (by omega) σ hp3) dX2_isMoonFine_17 rfl rfl ?_
    refine g_bipush (pc := 20) (v := 12) dX2_isMoonFine_20 (by decide) ?_
    refine g_isub (pc := 22) dX2_isMoonFine_22 ?_
    refine g_mabs (pc := 23) (Nat.le_of_ble_eq_true rfl) (Nat.le_of_ble_eq_true rfl) sp_X2_44 dX2_isMoonFine_23 ?_
    refine g_aload_n (pc := 26) 1 rfl dX2_isMoonFine_26 rfl ?_
    refine g_getI (pc := 27) (in_2 hX.1 (by omega)) fr_X2_50 dX2_isMoonFine_27 ?_
    refine bi_gt (pc := 30) 37 dX2_isMoonFine_30 rfl (fun c4 => ?_) (fun c4 => ?_)
    · replace hf := am_ifT c4 hf
      refine g_iconst (pc := 37) (v := 0) dX2_isMoonFine_37 (by decide) ?_
      have ho := Option.some.inj hf
      subst ho
      exact g_zreturn (pc := 38) (st := []) (x := false) rfl dX2_isMoonFine_38 hk
    replace hf := am_ifF c4 hf
    refine g_iconst (pc := 33) (v := 1) dX2_isMoonFine_33 (by decide) ?_
    refine g_goto (pc := 34) 38 dX2_isMoonFine_34 rfl ?_
    have ho := Option.some.inj hf
    subst ho
    exact g_zreturn (pc := 38) (st := []) (x := true) rfl dX2_isMoonFine_38 hk
theorem k_X2_isMoonFine {X : am_X} (hX : am_wC X) (r1 : Nat) (v2 : Int32) (hr1 : r1 < 3) (σ : am_H) {o : Bool} (hf : f_X2_isMoonFine r1 v2 σ = some o) : am_C X gm_X2_isMoonFine [.ref (am_ad X 2 0), .ref (am_ad X 3 r1), .int v2] σ (am_is (some (.int (am_b o))) σ) :=
  am_ofG rfl (Nat.le_of_ble_eq_true rfl) rfl (q_X2_isMoonFine hX r1 v2 hr1 σ hf ⟨rfl, rfl⟩)
theorem dX3_extremeCos_0 : decode cX3_extremeCos 0 = .ok (.iload_n 0, 1) := by decide +kernel
theorem dX3_extremeCos_1 : decode cX3_extremeCos 1 = .ok (.i2l, 1) := by decide +kernel
theorem dX3_extremeCos_2 : decode cX3_extremeCos 2 = .ok (.invokestatic 177, 3) := by decide +kernel
theorem dX3_extremeCos_5 : decode cX3_extremeCos 5 = .ok (.istore_n 3, 1) := by decide +kernel
theorem dX3_extremeCos_6 : decode cX3_extremeCos 6 = .ok (.iload_n 1, 1) := by decide +kernel
theorem dX3_extremeCos_7 : decode cX3_extremeCos 7 = .ok (.ineg, 1) := by decide +kernel
theorem dX3_extremeCos_8 : decode cX3_extremeCos 8 = .ok (.istore 4, 2) := by decide +kernel
theorem dX3_extremeCos_10 : decode cX3_extremeCos 10 = .ok (.iload 4, 2) := by decide +kernel
theorem dX3_extremeCos_12 : decode cX3_extremeCos 12 = .ok (.iload_n 1, 1) := by decide +kernel
theorem dX3_extremeCos_13 : decode cX3_extremeCos 13 = .ok (.if_icmp .gt 39, 3) := by decide +kernel
theorem dX3_extremeCos_16 : decode cX3_extremeCos 16 = .ok (.iload_n 0, 1) := by decide +kernel
theorem dX3_extremeCos_17 : decode cX3_extremeCos 17 = .ok (.iload 4, 2) := by decide +kernel
theorem dX3_extremeCos_19 : decode cX3_extremeCos 19 = .ok (.iadd, 1) := by decide +kernel
theorem dX3_extremeCos_20 : decode cX3_extremeCos 20 = .ok (.i2l, 1) := by decide +kernel
theorem dX3_extremeCos_21 : decode cX3_extremeCos 21 = .ok (.invokestatic 177, 3) := by decide +kernel
theorem dX3_extremeCos_24 : decode cX3_extremeCos 24 = .ok (.istore 5, 2) := by decide +kernel
theorem dX3_extremeCos_26 : decode cX3_extremeCos 26 = .ok (.iload_n 2, 1) := by decide +kernel
theorem dX3_extremeCos_27 : decode cX3_extremeCos 27 = .ok (.ifCond .eq 12, 3) := by decide +kernel
theorem dX3_extremeCos_30 : decode cX3_extremeCos 30 = .ok (.iload_n 3, 1) := by decide +kernel
theorem dX3_extremeCos_31 : decode cX3_extremeCos 31 = .ok (.iload 5, 2) := by decide +kernel
theorem dX3_extremeCos_33 : decode cX3_extremeCos 33 = .ok (.invokestatic 163, 3) := by decide +kernel
theorem dX3_extremeCos_36 : decode cX3_extremeCos 36 = .ok (.goto 9, 3) := by decide +kernel
theorem dX3_extremeCos_39 : decode cX3_extremeCos 39 = .ok (.iload_n 3, 1) := by decide +kernel
theorem dX3_extremeCos_40 : decode cX3_extremeCos 40 = .ok (.iload 5, 2) := by decide +kernel
theorem dX3_extremeCos_42 : decode cX3_extremeCos 42 = .ok (.invokestatic 185, 3) := by decide +kernel
theorem dX3_extremeCos_45 : decode cX3_extremeCos 45 = .ok (.istore_n 3, 1) := by decide +kernel
theorem dX3_extremeCos_46 : decode cX3_extremeCos 46 = .ok (.iinc 4 1, 3) := by decide +kernel
theorem dX3_extremeCos_49 : decode cX3_extremeCos 49 = .ok (.goto (-39), 3) := by decide +kernel
theorem dX3_extremeCos_52 : decode cX3_extremeCos 52 = .ok (.iload_n 3, 1) := by decide +kernel
theorem dX3_extremeCos_53 : decode cX3_extremeCos 53 = .ok (.ireturn, 1) := by decide +kernel
noncomputable def f_X3_extremeCos_10 (v0 : Int32) (v1 : Int32) (v2 : Bool) (v3 : Int32) (v4 : Int32) (σ : am_H) : Option ((Int32 × Int32) ⊕ (Int32)) :=
  if v1 < v4 then
   (some (.inr v3))
  else
  (f_X11_cosOf (Int32.toInt64 (v0 + v4)) σ).bind fun p2 =>
  if v2 = true then
   (some (.inl ((am_mx v3 p2), (v4 + 1))))
  else
  some (.inl ((am_mn v3 p2), (v4 + 1)))
set_option maxRecDepth 100000 in
set_option maxHeartbeats 4000000 in
theorem q_X3_extremeCos_10 {X : am_X} (hX : am_wC X) {Q : Option Value → am_H → Prop} (v0 : Int32) (v1 : Int32) (v2 : Bool) (v3 : Int32) (v4 : Int32) (σ : am_H) {o : (Int32 × Int32) ⊕ (Int32)} (hf : f_X3_extremeCos_10 v0 v1 v2 v3 v4 σ = some o) (hk0 : ∀ s, o = .inl s → am_G X gm_X3_extremeCos Q 10 [(0, .int v0), (1, .int v1), (2, .int (am_b v2)), (3, .int s.1), (4, .int s.2)] [] σ) (hk1 : ∀ t, o = .inr t → am_G X gm_X3_extremeCos Q 52 [(3, .int t)] [] σ) : am_G X gm_X3_extremeCos Q 10 [(0, .int v0), (1, .int v1), (2, .int (am_b v2)), (3, .int v3), (4, .int v4)] [] σ := by
  unfold f_X3_extremeCos_10 at hf
  refine g_iload (pc := 10) 4 rfl dX3_extremeCos_10 ?_
  refine g_iload_n (pc := 12) 1 rfl dX3_extremeCos_12 rfl ?_
  refine bi_gt (pc := 13) 52 dX3_extremeCos_13 rfl (fun c1 => ?_) (fun c1 => ?_)
  · replace hf := am_ifT c1 hf
    have hz := hk1 _ (Option.some.inj hf).symm
    exact am_sub [3] rfl hz
  replace hf := am_ifF c1 hf
  refine g_iload_n (pc := 16) 0 rfl dX3_extremeCos_16 rfl ?_
  refine g_iload (pc := 17) 4 rfl dX3_extremeCos_17 ?_
  refine g_iadd (pc := 19) dX3_extremeCos_19 ?_
  refine g_i2l (pc := 20) dX3_extremeCos_20 ?_
  obtain ⟨p2, hp2, hf⟩ := am_bd hf
  refine g_cS (pc := 21) (As := [.long (Int32.toInt64 (v0 + v4))]) (st := []) (st1 := [.int p2]) mS_X11_cosOf ln_X3_177 rfl (Nat.le_of_ble_eq_true rfl) (Nat.le_of_ble_eq_true rfl) (k_X11_cosOf hX (Int32.toInt64 (v0 + v4)) σ hp2) dX3_extremeCos_21 rfl rfl ?_
  refine g_istore (pc := 24) [(5, .int p2), (0, .int v0), (1, .int v1), (2, .int (am_b v2)), (3, .int v3), (4, .int v4)] dX3_extremeCos_24 (Nat.le_of_ble_eq_true rfl) rfl ?_
  refine g_iload_n (pc := 26) 3 rfl dX3_extremeCos_26 rfl ?_
  refine bt_eq (pc := 27) 39 dX3_extremeCos_27 rfl (fun c3 => ?_) (fun c3 => ?_)
  · replace hf := am_ifT c3 hf
    refine g_iload_n (pc := 30) 4 rfl dX3_extremeCos_30 rfl ?_
    refine g_iload (pc := 31) 0 rfl dX3_extremeCos_31 ?_
    refine g_mmax (pc := 33) (Nat.le_of_ble_eq_true rfl) (Nat.le_of_ble_eq_true rfl) sp_X3_163 dX3_extremeCos_33 ?_
    refine g_goto (pc := 36) 45 dX3_extremeCos_36 rfl ?_
    refine g_istore_n (pc := 45) [(3, .int (am_mx v3 p2)), (5, .int p2), (0, .int v0), (1, .int v1), (2, .int (am_b v2)), (4, .int v4)] dX3_extremeCos_45 rfl (Nat.le_of_ble_eq_true rfl) rfl ?_
    refine g_iinc (pc := 46) (v := (v4 + 1)) 5 [(4, .int (v4 + 1)), (3, .int (am_mx v3 p2)), (5, .int p2), (0, .int v0), (1, .int v1), (2, .int (am_b v2))] dX3_extremeCos_46 rfl rfl (Nat.le_of_ble_eq_true rfl) rfl ?_
    refine g_goto (pc := 49) 10 dX3_extremeCos_49 rfl ?_
    have hz := hk0 _ (Option.some.inj hf).symm
    exact am_sub [3, 4, 5, 1, 0] rfl hz
  replace hf := am_ifF c3 hf
  refine g_iload_n (pc := 39) 4 rfl dX3_extremeCos_39 rfl ?_
  refine g_iload (pc := 40) 0 rfl dX3_extremeCos_40 ?_
  refine g_mmin (pc := 42) (Nat.le_of_ble_eq_true rfl) (Nat.le_of_ble_eq_true rfl) sp_X3_185 dX3_extremeCos_42 ?_
  refine g_istore_n (pc := 45) [(3, .int (am_mn v3 p2)), (5, .int p2), (0, .int v0), (1, .int v1), (2, .int (am_b v2)), (4, .int v4)] dX3_extremeCos_45 rfl (Nat.le_of_ble_eq_true rfl) rfl ?_
  refine g_iinc (pc := 46) (v := (v4 + 1)) 5 [(4, .int (v4 + 1)), (3, .int (am_mn v3 p2)), (5, .int p2), (0, .int v0), (1, .int v1), (2, .int (am_b v2))] dX3_extremeCos_46 rfl rfl (Nat.le_of_ble_eq_true rfl) rfl ?_
  refine g_goto (pc := 49) 10 dX3_extremeCos_49 rfl ?_
  have hz := hk0 _ (Option.some.inj hf).symm
  exact am_sub [3, 4, 5, 1, 0] rfl hz
set_option maxRecDepth 100000 in
set_option maxHeartbeats 4000000 in
theorem l_X3_extremeCos_10 {X : am_X} (hX : am_wC X) {Q : Option Value → am_H → Prop} (v0 : Int32) (v1 : Int32) (v2 : Bool) (σ : am_H) (s : Int32 × Int32) {o : Int32} (hf : am_loop (fun s => f_X3_extremeCos_10 v0 v1 v2 s.1 s.2 σ) s = some o) (hk1 : ∀ t, o = t → am_G X gm_X3_extremeCos Q 52 [(3, .int t)] [] σ) : am_G X gm_X3_extremeCos Q 10 [(0, .int v0), (1, .int v1), (2, .int (am_b v2)), (3, .int s.1), (4, .int s.2)] [] σ := by
  refine am_loop_ind (P := fun s => am_G X gm_X3_extremeCos Q 10 [(0, .int v0), (1, .int v1), (2, .int (am_b v2)), (3, .int s.1), (4, .int s.2)] [] σ) (K := fun r => r = o) ?_ hf rfl
  intro s o1 hb hi hr
  exact q_X3_extremeCos_10 hX v0 v1 v2 s.1 s.2  σ hb hi (fun t e => hk1 t (hr _ e).symm)
noncomputable def f_X3_extremeCos (v0 : Int32) (v1 : Int32) (v2 : Bool) (σ : am_H) : Option (Int32) :=
  (f_X11_cosOf (Int32.toInt64 v0) σ).bind fun p1 =>
  (am_loop (fun s => f_X3_extremeCos_10 v0 v1 v2 s.1 s.2 σ) (p1, (-v1))).bind fun w2 =>
  some w2
set_option maxRecDepth 100000 in
set_option maxHeartbeats 4000000 in
theorem q_X3_extremeCos {X : am_X} (hX : am_wC X) {Q : Option Value → am_H → Prop} (v0 : Int32) (v1 : Int32) (v2 : Bool) (σ : am_H) {o : Int32} (hf : f_X3_extremeCos v0 v1 v2 σ = some o) (hk : Q (some (.int o)) σ) : am_G X gm_X3_extremeCos Q 0 [(0, .int v0), (1, .int v1), (2, .int (am_b v2))] [] σ := by
  unfold f_X3_extremeCos at hf
  refine g_iload_n (pc := 0) 0 rfl dX3_extremeCos_0 rfl ?_
  refine g_i2l (pc := 1) dX3_extremeCos_1 ?_
  obtain ⟨p1, hp1, hf⟩ := am_bd hf
  refine g_cS (pc := 2) (As := [.long (Int32.toInt64 v0)]) (st := []) (st1 := [.int p1]) mS_X11_cosOf ln_X3_177 rfl (Nat.le_of_ble_eq_true rfl) (Nat.le_of_ble_eq_true rfl) (k_X11_cosOf hX (Int32.toInt64 v0) σ hp1) dX3_extremeCos_2 rfl rfl ?_
  refine g_istore_n (pc := 5) [(3, .int p1), (0, .int v0), (1, .int v1), (2, .int (am_b v2))] dX3_extremeCos_5 rfl (Nat.le_of_ble_eq_true rfl) rfl ?_
  refine g_iload_n (pc := 6) 2 rfl dX3_extremeCos_6 rfl ?_
  refine g_ineg (pc := 7) dX3_extremeCos_7 ?_
  refine g_istore (pc := 8) [(4, .int (-v1)), (3, .int p1), (0, .int v0), (1, .int v1), (2, .int (am_b v2))] dX3_extremeCos_8 (Nat.le_of_ble_eq_true rfl) rfl ?_
  obtain ⟨w2, hw2, hf⟩ := am_bd hf
  refine am_sub [2, 3, 4, 1, 0] rfl (l_X3_extremeCos_10 hX v0 v1 v2  σ (p1, (-v1)) hw2 ?_)
  intro t e
  subst e
  refine g_iload_n (pc := 52) 0 rfl dX3_extremeCos_52 rfl ?_
  have ho := Option.some.inj hf
  subst ho
  exact g_ireturn (pc := 53) (st := []) rfl dX3_extremeCos_53 hk
theorem k_X3_extremeCos {X : am_X} (hX : am_wC X) (v0 : Int32) (v1 : Int32) (v2 : Bool) (σ : am_H) {o : Int32} (hf : f_X3_extremeCos v0 v1 v2 σ = some o) : am_C X gm_X3_extremeCos [.int v0, .int v1, .int (am_b v2)] σ (am_is (some (.int o)) σ) :=
  am_ofG rfl (Nat.le_of_ble_eq_true rfl) rfl (q_X3_extremeCos hX v0 v1 v2 σ hf ⟨rfl, rfl⟩)
theorem dX3_boundAt_0 : decode cX3_boundAt 0 = .ok (.aload_n 0, 1) := by decide +kernel
theorem dX3_boundAt_1 : decode cX3_boundAt 1 = .ok (.invokevirtual 169, 3) := by decide +kernel
theorem dX3_boundAt_4 : decode cX3_boundAt 4 = .ok (.istore 5, 2) := by decide +kernel
theorem dX3_boundAt_6 : decode cX3_boundAt 6 = .ok (.iconst 0, 1) := by decide +kernel
theorem dX3_boundAt_7 : decode cX3_boundAt 7 = .ok (.istore 6, 2) := by decide +kernel
theorem dX3_boundAt_9 : decode cX3_boundAt 9 = .ok (.iload 6, 2) := by decide +kernel
theorem dX3_boundAt_11 : decode cX3_boundAt 11 = .ok (.aload_n 0, 1) := by decide +kernel
theorem dX3_boundAt_12 : decode cX3_boundAt 12 = .ok (.getfield 32, 3) := by decide +kernel
theorem dX3_boundAt_15 : decode cX3_boundAt 15 = .ok (.if_icmp .ge 42, 3) := by decide +kernel
theorem dX3_boundAt_18 : decode cX3_boundAt 18 = .ok (.aload_n 0, 1) := by decide +kernel
theorem dX3_boundAt_19 : decode cX3_boundAt 19 = .ok (.getfield 27, 3) := by decide +kernel
theorem dX3_boundAt_22 : decode cX3_boundAt 22 = .ok (.iload 6, 2) := by decide +kernel
theorem dX3_boundAt_24 : decode cX3_boundAt 24 = .ok (.aaload, 1) := by decide +kernel
theorem dX3_boundAt_25 : decode cX3_boundAt 25 = .ok (.astore 7, 2) := by decide +kernel
theorem dX3_boundAt_27 : decode cX3_boundAt 27 = .ok (.iload 5, 2) := by decide +kernel
theorem dX3_boundAt_29 : decode cX3_boundAt 29 = .ok (.aload 7, 2) := by decide +kernel
theorem dX3_boundAt_31 : decode cX3_boundAt 31 = .ok (.getfield 142, 3) := by decide +kernel
theorem dX3_boundAt_34 : decode cX3_boundAt 34 = .ok (.aload 7, 2) := by decide +kernel
theorem dX3_boundAt_36 : decode cX3_boundAt 36 = .ok (.lload_n 1, 1) := by decide +kernel
theorem dX3_boundAt_37 : decode cX3_boundAt 37 = .ok (.iconst 0, 1) := by decide +kernel
theorem dX3_boundAt_38 : decode cX3_boundAt 38 = .ok (.invokevirtual 173, 3) := by decide +kernel
theorem dX3_boundAt_41 : decode cX3_boundAt 41 = .ok (.iload_n 3, 1) := by decide +kernel
theorem dX3_boundAt_42 : decode cX3_boundAt 42 = .ok (.iload 4, 2) := by decide +kernel
theorem dX3_boundAt_44 : decode cX3_boundAt 44 = .ok (.invokestatic 181, 3) := by decide +kernel
theorem dX3_boundAt_47 : decode cX3_boundAt 47 = .ok (.imul, 1) := by decide +kernel
theorem dX3_boundAt_48 : decode cX3_boundAt 48 = .ok (.iadd, 1) := by decide +kernel
theorem dX3_boundAt_49 : decode cX3_boundAt 49 = .ok (.istore 5, 2) := by decide +kernel
theorem dX3_boundAt_51 : decode cX3_boundAt 51 = .ok (.iinc 6 1, 3) := by decide +kernel
theorem dX3_boundAt_54 : decode cX3_boundAt 54 = .ok (.goto (-45), 3) := by decide +kernel
theorem dX3_boundAt_57 : decode cX3_boundAt 57 = .ok (.iload 5, 2) := by decide +kernel
theorem dX3_boundAt_59 : decode cX3_boundAt 59 = .ok (.ireturn, 1) := by decide +kernel
noncomputable def f_X3_boundAt_9 (r0 : Nat) (v1 : Int64) (v3 : Int32) (v4 : Bool) (v5 : Int32) (v6 : Int32) (σ : am_H) : Option ((Int32 × Int32) ⊕ (Int32)) :=
  if v6 < (σ.1 3 r0 1) then
   ((am_ix 6 v6).bind fun j2 =>
   (f_X10_placeAt (6 * r0 + j2) v1 false σ).bind fun p3 =>
   (f_X3_extremeCos p3 v3 v4 σ).bind fun p4 =>
   some (.inl ((v5 + ((σ.1 10 (6 * r0 + j2) 3) * p4)), (v6 + 1))))
  else
  some (.inr v5)
set_option maxRecDepth 100000 in
set_option maxHeartbeats 4000000 in
theorem q_X3_boundAt_9 {X : am_X} (hX : am_wC X) {Q : Option Value → am_H → Prop} (r0 : Nat) (v1 : Int64) (v3 : Int32) (v4 : Bool) (v5 : Int32) (v6 : Int32) (hr0 : r0 < 3) (σ : am_H) {o : (Int32 × Int32) ⊕ (Int32)} (hf : f_X3_boundAt_9 r0 v1 v3 v4 v5 v6 σ = some o) (hk0 : ∀ s, o = .inl s → am_G X gm_X3_boundAt Q 9 [(0, .ref (am_ad X 3 r0)), (1, .long v1), (3, .int v3), (4, .int (am_b v4)), (5, .int s.1), (6, .int s.2)] [] σ) (hk1 : ∀ t, o = .inr t → am_G X gm_X3_boundAt Q 57 [(5, .int t)] [] σ) : am_G X gm_X3_boundAt Q 9 [(0, .ref (am_ad X 3 r0)), (1, .long v1), (3, .int v3), (4, .int (am_b v4)), (5, .int v5), (6, .int v6)] [] σ := by
  unfold f_X3_boundAt_9 at hf
  refine g_iload (pc := 9) 5 rfl dX3_boundAt_9 ?_
  refine g_aload_n (pc := 11) 0 rfl dX3_boundAt_11 rfl ?_
  refine g_getI (pc := 12) (in_3 hX.1 (by omega)) fr_X3_32 dX3_boundAt_12 ?_
  refine bi_ge (pc := 15) 57 dX3_boundAt_15 rfl (fun c1 => ?_) (fun c1 => ?_)
  · replace hf := am_ifT c1 hf
    refine g_aload_n (pc := 18) 0 rfl dX3_boundAt_18 rfl ?_
    refine g_getC (pc := 19) (e := r0) (in_3 hX.1 (by omega)) fr_X3_27 dX3_boundAt_19 rfl ?_
    refine g_iload (pc := 22) 5 rfl dX3_boundAt_22 ?_
    obtain ⟨j2, hj2, hf⟩ := am_bd hf
    have gj2 := am_ix_lt hj2
    refine g_aC (pc := 24) (e := (6 * r0 + j2)) (in_400 hX.1 (by omega)) ak_400 hj2 rfl dX3_boundAt_24 ?_
    refine g_astore (pc := 25) [(7, .ref (am_ad X 10 (6 * r0 + j2))), (0, .ref (am_ad X 3 r0)), (1, .long v1), (3, .int v3), (4, .int (am_b v4)), (5, .int v5), (6, .int v6)] dX3_boundAt_25 (Nat.le_of_ble_eq_true rfl) rfl ?_
    refine g_iload (pc := 27) 5 rfl dX3_boundAt_27 ?_
    refine g_aload (pc := 29) 0 rfl dX3_boundAt_29 ?_
    refine g_getI (pc := 31) (in_10 hX.1 (by omega)) fr_X3_142 dX3_boundAt_31 ?_
    refine g_aload (pc := 34) 0 rfl dX3_boundAt_34 ?_
    refine g_lload_n (pc := 36) 2 rfl dX3_boundAt_36 rfl ?_
    refine g_iconst (pc := 37) (v := 0) dX3_boundAt_37 (by decide) ?_
    obtain ⟨p3, hp3, hf⟩ := am_bd hf
    refine g_cV (pc := 38) (As := [.long v1, .int (am_b false)]) (st := [.int (σ.1 10 (6 * r0 + j2) 3), .int v5]) (st1 := [.int p3, .int (σ.1 10 (6 * r0 + j2) 3), .int v5]) (in_10 hX.1 (by omega)) kk_10 mV_X10_placeAt ln_X3_173 rfl (Nat.le_of_ble_eq_true rfl) (Nat.le_of_ble_eq_true rfl) (k_X10_placeAt hX (6 * r0 + j2) v1 false (by omega) σ hp3) dX3_boundAt_38 rfl rfl ?_
    refine g_iload_n (pc := 41) 3 rfl dX3_boundAt_41 rfl ?_
    refine g_iload (pc := 42) 4 rfl dX3_boundAt_42 ?_
    obtain ⟨p4, hp4, hf⟩ := am_bd hf
    refine g_cS (pc := 44) (As := [.int p3, .int v3, .int (am_b v4)]) (st := [.int (σ.1 10 (6 * r0 + j2) 3), .int v5]) (st1 := [.int p4, .int (σ.1 10 (6 * r0 + j2) 3), .int v5]) mS_X3_extremeCos ln_X3_181 rfl (Nat.le_of_ble_eq_true rfl) (Nat.le_of_ble_eq_true rfl) (k_X3_extremeCos hX p3 v3 v4 σ hp4) dX3_boundAt_44 rfl rfl ?_
    refine g_imul (pc := 47) dX3_boundAt_47 ?_
    refine g_iadd (pc := 48) dX3_boundAt_48 ?_
    refine g_istore (pc := 49) [(5, .int (v5 + ((σ.1 10 (6 * r0 + j2) 3) * p4))), (7, .ref (am_ad X 10 (6 * r0 + j2))), (0, .ref (am_ad X 3 r0)), (1, .long v1), (3, .int v3), (4, .int (am_b v4)), (6, .int v6)] dX3_boundAt_49 (Nat.le_of_ble_eq_true rfl) rfl ?_
    refine g_iinc (pc := 51) (v := (v6 + 1)) 6 [(6, .int (v6 + 1)), (5, .int (v5 + ((σ.1 10 (6 * r0 + j2) 3) * p4))), (7, .ref (am_ad X 10 (6 * r0 + j2))), (0, .ref (am_ad X 3 r0)), (1, .long v1), (3, .int v3), (4, .int (am_b v4))] dX3_boundAt_51 rfl rfl (Nat.le_of_ble_eq_true rfl) rfl ?_
    refine g_goto (pc := 54) 9 dX3_boundAt_54 rfl ?_
    have hz := hk0 _ (Option.some.inj hf).symm
    exact am_sub [3, 4, 5, 6, 1, 0] rfl hz
  replace hf := am_ifF c1 hf
  have hz := hk1 _ (Option.some.inj hf).symm
  exact am_sub [4] rfl hz
set_option maxRecDepth 100000 in
set_option maxHeartbeats 4000000 in
theorem l_X3_boundAt_9 {X : am_X} (hX : am_wC X) {Q : Option Value → am_H → Prop} (r0 : Nat) (v1 : Int64) (v3 : Int32) (v4 : Bool) (hr0 : r0 < 3) (σ : am_H) (s : Int32 × Int32) {o : Int32} (hf : am_loop (fun s => f_X3_boundAt_9 r0 v1 v3 v4 s.1 s.2 σ) s = some o) (hk1 : ∀ t, o = t → am_G X gm_X3_boundAt Q 57 [(5, .int t)] [] σ) : am_G X gm_X3_boundAt Q 9 [(0, .ref (am_ad X 3 r0)), (1, .long v1), (3, .int v3), (4, .int (am_b v4)), (5, .int s.1), (6, .int s.2)] [] σ := by
  refine am_loop_ind (P := fun s => am_G X gm_X3_boundAt Q 9 [(0, .ref (am_ad X 3 r0)), (1, .long v1), (3, .int v3), (4, .int (am_b v4)), (5, .int s.1), (6, .int s.2)] [] σ) (K := fun r => r = o) ?_ hf rfl
  intro s o1 hb hi hr
  exact q_X3_boundAt_9 hX r0 v1 v3 v4 s.1 s.2  hr0 σ hb hi (fun t e => hk1 t (hr _ e).symm)
noncomputable def f_X3_boundAt (r0 : Nat) (v1 : Int64) (v3 : Int32) (v4 : Bool) (σ : am_H) : Option (Int32) :=
  (f_X3_zeroHeight r0 σ).bind fun p1 =>
  (am_loop (fun s => f_X3_boundAt_9 r0 v1 v3 v4 s.1 s.2 σ) (p1, 0)).bind fun w2 =>
  some w2
set_option maxRecDepth 100000 in
set_option maxHeartbeats 4000000 in
theorem q_X3_boundAt {X : am_X} (hX : am_wC X) {Q : Option Value → am_H → Prop} (r0 : Nat) (v1 : Int64) (v3 : Int32) (v4 : Bool) (hr0 : r0 < 3) (σ : am_H) {o : Int32} (hf : f_X3_boundAt r0 v1 v3 v4 σ = some o) (hk : Q (some (.int o)) σ) : am_G X gm_X3_boundAt Q 0 [(0, .ref (am_ad X 3 r0)), (1, .long v1), (3, .int v3), (4, .int (am_b v4))] [] σ := by
  unfold f_X3_boundAt at hf
  refine g_aload_n (pc := 0) 0 rfl dX3_boundAt_0 rfl ?_
  obtain ⟨p1, hp1, hf⟩ := am_bd hf
  refine g_cV (pc := 1) (As := []) (st := []) (st1 := [.int p1]) (in_3 hX.1 (by omega)) kk_3 mV_X3_zeroHeight ln_X3_169 rfl (Nat.le_of_ble_eq_true rfl) (Nat.le_of_ble_eq_true rfl) (k_X3_zeroHeight hX r0 (by omega) σ hp1) dX3_boundAt_1 rfl rfl ?_
  refine g_istore (pc := 4) [(5, .int p1), (0, .ref (am_ad X 3 r0)), (1, .long v1), (3, .int v3), (4, .int (am_b v4))] dX3_boundAt_4 (Nat.le_of_ble_eq_true rfl) rfl ?_
  refine g_iconst (pc := 6) (v := 0) dX3_boundAt_6 (by decide) ?_
  refine g_istore (pc := 7) [(6, .int 0), (5, .int p1), (0, .ref (am_ad X 3 r0)), (1, .long v1), (3, .int v3), (4, .int (am_b v4))] dX3_boundAt_7 (Nat.le_of_ble_eq_true rfl) rfl ?_
  obtain ⟨w2, hw2, hf⟩ := am_bd hf
  refine am_sub [2, 3, 4, 5, 1, 0] rfl (l_X3_boundAt_9 hX r0 v1 v3 v4 (by omega) σ (p1, 0) hw2 ?_)
  intro t e
  subst e
  refine g_iload (pc := 57) 0 rfl dX3_boundAt_57 ?_
  have ho := Option.some.inj hf
  subst ho
  exact g_ireturn (pc := 59) (st := []) rfl dX3_boundAt_59 hk
theorem k_X3_boundAt {X : am_X} (hX : am_wC X) (r0 : Nat) (v1 : Int64) (v3 : Int32) (v4 : Bool) (hr0 : r0 < 3) (σ : am_H) {o : Int32} (hf : f_X3_boundAt r0 v1 v3 v4 σ = some o) : am_C X gm_X3_boundAt [.ref (am_ad X 3 r0), .long v1, .int v3, .int (am_b v4)] σ (am_is (some (.int o)) σ) :=
  am_ofG rfl (Nat.le_of_ble_eq_true rfl) rfl (q_X3_boundAt hX r0 v1 v3 v4 hr0 σ hf ⟨rfl, rfl⟩)
theorem dX2_isHeightFine_0 : decode cX2_isHeightFine 0 = .ok (.aload_n 1, 1) := by decide +kernel
theorem dX2_isHeightFine_1 : decode cX2_isHeightFine 1 = .ok (.iload_n 2, 1) := by decide +kernel
theorem dX2_isHeightFine_2 : decode cX2_isHeightFine 2 = .ok (.i2l, 1) := by decide +kernel
theorem dX2_isHeightFine_3 : decode cX2_isHeightFine 3 = .ok (.aload_n 0, 1) := by decide +kernel
theorem dX2_isHeightFine_4 : decode cX2_isHeightFine 4 = .ok (.getfield 53, 3) := by decide +kernel
theorem dX2_isHeightFine_7 : decode cX2_isHeightFine 7 = .ok (.iconst 0, 1) := by decide +kernel
theorem dX2_isHeightFine_8 : decode cX2_isHeightFine 8 = .ok (.invokevirtual 56, 3) := by decide +kernel
theorem dX2_isHeightFine_11 : decode cX2_isHeightFine 11 = .ok (.aload_n 0, 1) := by decide +kernel
theorem dX2_isHeightFine_12 : decode cX2_isHeightFine 12 = .ok (.getfield 60, 3) := by decide +kernel
theorem dX2_isHeightFine_15 : decode cX2_isHeightFine 15 = .ok (.if_icmp .lt 21, 3) := by decide +kernel
theorem dX2_isHeightFine_18 : decode cX2_isHeightFine 18 = .ok (.aload_n 1, 1) := by decide +kernel
theorem dX2_isHeightFine_19 : decode cX2_isHeightFine 19 = .ok (.iload_n 2, 1) := by decide +kernel
theorem dX2_isHeightFine_20 : decode cX2_isHeightFine 20 = .ok (.i2l, 1) := by decide +kernel
theorem dX2_isHeightFine_21 : decode cX2_isHeightFine 21 = .ok (.aload_n 0, 1) := by decide +kernel
theorem dX2_isHeightFine_22 : decode cX2_isHeightFine 22 = .ok (.getfield 53, 3) := by decide +kernel
theorem dX2_isHeightFine_25 : decode cX2_isHeightFine 25 = .ok (.iconst 1, 1) := by decide +kernel
theorem dX2_isHeightFine_26 : decode cX2_isHeightFine 26 = .ok (.invokevirtual 56, 3) := by decide +kernel
theorem dX2_isHeightFine_29 : decode cX2_isHeightFine 29 = .ok (.aload_n 0, 1) := by decide +kernel
theorem dX2_isHeightFine_30 : decode cX2_isHeightFine 30 = .ok (.getfield 63, 3) := by decide +kernel
theorem dX2_isHeightFine_33 : decode cX2_isHeightFine 33 = .ok (.if_icmp .le 5, 3) := by decide +kernel
theorem dX2_isHeightFine_36 : decode cX2_isHeightFine 36 = .ok (.iconst 0, 1) := by decide +kernel
theorem dX2_isHeightFine_37 : decode cX2_isHeightFine 37 = .ok (.ireturn, 1) := by decide +kernel
theorem dX2_isHeightFine_38 : decode cX2_isHeightFine 38 = .ok (.aload_n 0, 1) := by decide +kernel
theorem dX2_isHeightFine_39 : decode cX2_isHeightFine 39 = .ok (.getfield 66, 3) := by decide +kernel
theorem dX2_isHeightFine_42 : decode cX2_isHeightFine 42 = .ok (.ifCond .eq 22, 3) := by decide +kernel
theorem dX2_isHeightFine_45 : decode cX2_isHeightFine 45 = .ok (.aload_n 1, 1) := by decide +kernel
theorem dX2_isHeightFine_46 : decode cX2_isHeightFine 46 = .ok (.iload_n 2, 1) := by decide +kernel
theorem dX2_isHeightFine_47 : decode cX2_isHeightFine 47 = .ok (.iconst 1, 1) := by decide +kernel
theorem dX2_isHeightFine_48 : decode cX2_isHeightFine 48 = .ok (.iadd, 1) := by decide +kernel
theorem dX2_isHeightFine_49 : decode cX2_isHeightFine 49 = .ok (.i2l, 1) := by decide +kernel
theorem dX2_isHeightFine_50 : decode cX2_isHeightFine 50 = .ok (.iconst 0, 1) := by decide +kernel
theorem dX2_isHeightFine_51 : decode cX2_isHeightFine 51 = .ok (.invokevirtual 70, 3) := by decide +kernel
theorem dX2_isHeightFine_54 : decode cX2_isHeightFine 54 = .ok (.aload_n 1, 1) := by decide +kernel
theorem dX2_isHeightFine_55 : decode cX2_isHeightFine 55 = .ok (.iload_n 2, 1) := by decide +kernel
theorem dX2_isHeightFine_56 : decode cX2_isHeightFine 56 = .ok (.i2l, 1) := by decide +kernel
theorem dX2_isHeightFine_57 : decode cX2_isHeightFine 57 = .ok (.iconst 0, 1) := by decide +kernel
theorem dX2_isHeightFine_58 : decode cX2_isHeightFine 58 = .ok (.invokevirtual 70, 3) := by decide +kernel
theorem dX2_isHeightFine_61 : decode cX2_isHeightFine 61 = .ok (.if_icmp .le 7, 3) := by decide +kernel
theorem dX2_isHeightFine_64 : decode cX2_isHeightFine 64 = .ok (.iconst 1, 1) := by decide +kernel
theorem dX2_isHeightFine_65 : decode cX2_isHeightFine 65 = .ok (.goto 4, 3) := by decide +kernel
theorem dX2_isHeightFine_68 : decode cX2_isHeightFine 68 = .ok (.iconst 0, 1) := by decide +kernel
theorem dX2_isHeightFine_69 : decode cX2_isHeightFine 69 = .ok (.ireturn, 1) := by decide +kernel
noncomputable def f_X2_isHeightFine (r1 : Nat) (v2 : Int32) (σ : am_H) : Option (Bool) :=
  (f_X3_boundAt r1 (Int32.toInt64 v2) (σ.1 2 0 2) false σ).bind fun p1 =>
  if p1 < (σ.1 2 0 0) then
   (some false)
  else
  (f_X3_boundAt r1 (Int32.toInt64 v2) (σ.1 2 0 2) true σ).bind fun p3 =>
  if (σ.1 2 0 1) < p3 then
   (some false)
  else
  if (σ.1 2 0 3) = 0 then
   (some true)
  else
  (f_X3_heightAt r1 (Int32.toInt64 (v2 + 1)) false σ).bind fun p6 =>
  (f_X3_heightAt r1 (Int32.toInt64 v2) false σ).bind fun p7 =>
  if p7 < p6 then
   (some true)
  else
  some false
set_option maxRecDepth 100000 in
set_option maxHeartbeats 4000000 in
theorem q_X2_isHeightFine {X : am_X} (hX : am_wC X) {Q : Option Value → am_H → Prop} (r1 : Nat) (v2 : Int32) (hr1 : r1 < 3) (σ : am_H) {o : Bool} (hf : f_X2_isHeightFine r1 v2 σ = some o) (hk : Q (some (.int (am_b o))) σ) : am_G X gm_X2_isHeightFine Q 0 [(0, .ref (am_ad X 2 0)), (1, .ref (am_ad X 3 r1)), (2, .int v2)] [] σ := by
  unfold f_X2_isHeightFine at hf
  refine g_aload_n (pc := 0) 1 rfl dX2_isHeightFine_0 rfl ?_
  refine g_iload_n (pc := 1) 2 rfl dX2_isHeightFine_1 rfl ?_
  refine g_i2l (pc := 2) dX2_isHeightFine_2 ?_
  refine g_aload_n (pc := 3) 0 rfl dX2_isHeightFine_3 rfl ?_
  refine g_getI (pc := 4) (in_2 hX.1 (by omega)) fr_X2_53 dX2_isHeightFine_4 ?_
  refine g_iconst (pc := 7) (v := 0) dX2_isHeightFine_7 (by decide) ?_
  obtain ⟨p1, hp1, hf⟩ := am_bd hf
  refine g_cV (pc := 8) (As := [.long (Int32.toInt64 v2), .int (σ.1 2 0 2), .int (am_b false)]) (st := []) (st1 := [.int p1]) (in_3 hX.1 (by omega)) kk_3 mV_X3_boundAt ln_X2_56 rfl (Nat.le_of_ble_eq_true rfl) (Nat.le_of_ble_eq_true rfl) (k_X3_boundAt hX r1 (Int32.toInt64 v2) (σ.1 2 0 2) false (by omega) σ hp1) dX2_isHeightFine_8 rfl rfl ?_
  refine g_aload_n (pc := 11) 0 rfl dX2_isHeightFine_11 rfl ?_
  refine g_getI (pc := 12) (in_2 hX.1 (by omega)) fr_X2_60 dX2_isHeightFine_12 ?_
  refine bi_lt (pc := 15) 36 dX2_isHeightFine_15 rfl (fun c2 => ?_) (fun c2 => ?_)
  · replace hf := am_ifT c2 hf
    refine g_iconst (pc := 36) (v := 0) dX2_isHeightFine_36 (by decide) ?_
    have ho := Option.some.inj hf
    subst ho
    exact g_zreturn (pc := 37) (st := []) (x := false) rfl dX2_isHeightFine_37 hk
  replace hf := am_ifF c2 hf
  refine g_aload_n (pc := 18) 1 rfl dX2_isHeightFine_18 rfl ?_
  refine g_iload_n (pc := 19) 2 rfl dX2_isHeightFine_19 rfl ?_
  refine g_i2l (pc := 20) dX2_isHeightFine_20 ?_
  refine g_aload_n (pc := 21) 0 rfl dX2_isHeightFine_21 rfl ?_
  refine g_getI (pc := 22) (in_2 hX.1 (by omega)) fr_X2_53 dX2_isHeightFine_22 ?_
  refine g_iconst (pc := 25) (v := 1) dX2_isHeightFine_25 (by decide) ?_
  obtain ⟨p3, hp3, hf⟩ := am_bd hf
  refine g_cV (pc := 26) (As := [.long (Int32.toInt64 v2), .int (σ.1 2 0 2), .int (am_b true)]) (st := []) (st1 := [.int p3]) (in_3 hX.1 (by omega)) kk_3 mV_X3_boundAt ln_X2_56 rfl (Nat.le_of_ble_eq_true rfl) (Nat.le_of_ble_eq_true rfl) (k_X3_boundAt hX r1 (Int32.toInt64 v2) (σ.1 2 0 2) true (by omega) σ hp3) dX2_isHeightFine_26 rfl rfl ?_
  refine g_aload_n (pc := 29) 0 rfl dX2_isHeightFine_29 rfl ?_
  refine g_getI (pc := 30) (in_2 hX.1 (by omega)) fr_X2_63 dX2_isHeightFine_30 ?_
  refine bi_le (pc := 33) 38 dX2_isHeightFine_33 rfl (fun c4 => ?_) (fun c4 => ?_)
  · replace hf := am_ifT c4 hf
    refine g_iconst (pc := 36) (v := 0) dX2_isHeightFine_36 (by decide) ?_
    have ho := Option.some.inj hf
    subst ho
    exact g_zreturn (pc := 37) (st := []) (x := false) rfl dX2_isHeightFine_37 hk
  replace hf := am_ifF c4 hf
  refine g_aload_n (pc := 38) 0 rfl dX2_isHeightFine_38 rfl ?_
  refine g_getZ (pc := 39) (in_2 hX.1 (by omega)) fr_X2_66 dX2_isHeightFine_39 ?_
  refine bz_eq (pc := 42) 64 dX2_isHeightFine_42 rfl (fun c5 => ?_) (fun c5 => ?_)
  · replace hf := am_ifT c5 hf
    refine g_iconst (pc := 64) (v := 1) dX2_isHeightFine_64 (by decide) ?_
    refine g_goto (pc := 65) 69 dX2_isHeightFine_65 rfl ?_
    have ho := Option.some.inj hf
    subst ho
    exact g_zreturn (pc := 69) (st := []) (x := true) rfl dX2_isHeightFine_69 hk
  replace hf := am_ifF c5 hf
  refine g_aload_n (pc := 45) 1 rfl dX2_isHeightFine_45 rfl ?_
  refine g_iload_n (pc := 46) 2 rfl dX2_isHeightFine_46 rfl ?_
  refine g_iconst (pc := 47) (v := 1) dX2_isHeightFine_47 (by decide) ?_
  refine g_iadd (pc := 48) dX2_isHeightFine_48 ?_
  refine g_i2l (pc := 49) dX2_isHeightFine_49 ?_
  refine g_iconst (pc := 50) (v := 0) dX2_isHeightFine_50 (by decide) ?_
  obtain ⟨p6, hp6, hf⟩ := am_bd hf
  refine g_cV (pc := 51) (As := [.long (Int32.toInt64 (v2 + 1)), .int (am_b false)]) (st := []) (st1 := [.int p6]) (in_3 hX.1 (by omega)) kk_3 mV_X3_heightAt ln_X2_70 rfl (Nat.le_of_ble_eq_true rfl) (Nat.le_of_ble_eq_true rfl) (k_X3_heightAt hX r1 (Int32.toInt64 (v2 + 1)) false (by omega) σ hp6) dX2_isHeightFine_51 rfl rfl ?_
  refine g_aload_n (pc := 54) 1 rfl dX2_isHeightFine_54 rfl ?_
  refine g_iload_n (pc := 55) 2 rfl dX2_isHeightFine_55 rfl ?_
  refine g_i2l (pc := 56) dX2_isHeightFine_56 ?_
  refine g_iconst (pc := 57) (v := 0) dX2_isHeightFine_57 (by decide) ?_
  obtain ⟨p7, hp7, hf⟩ := am_bd hf
  refine g_cV (pc := 58) (As := [.long (Int32.toInt64 v2), .int (am_b false)]) (st := [.int p6]) (st1 := [.int p7, .int p6]) (in_3 hX.1 (by omega)) kk_3 mV_X3_heightAt ln_X2_70 rfl (Nat.le_of_ble_eq_true rfl) (Nat.le_of_ble_eq_true rfl) (k_X3_heightAt hX r1 (Int32.toInt64 v2) false (by omega) σ hp7) dX2_isHeightFine_58 rfl rfl ?_
  refine bi_le (pc := 61) 68 dX2_isHeightFine_61 rfl (fun c8 => ?_) (fun c8 => ?_)
  · replace hf := am_ifT c8 hf
    refine g_iconst (pc := 64) (v := 1) dX2_isHeightFine_64 (by decide) ?_
    refine g_goto (pc := 65) 69 dX2_isHeightFine_65 rfl ?_
    have ho := Option.some.inj hf
    subst ho
    exact g_zreturn (pc := 69) (st := []) (x := true) rfl dX2_isHeightFine_69 hk
  replace hf := am_ifF c8 hf
  refine g_iconst (pc := 68) (v := 0) dX2_isHeightFine_68 (by decide) ?_
  have ho := Option.some.inj hf
  subst ho
  exact g_zreturn (pc := 69) (st := []) (x := false) rfl dX2_isHeightFine_69 hk
theorem k_X2_isHeightFine {X : am_X} (hX : am_wC X) (r1 : Nat) (v2 : Int32) (hr1 : r1 < 3) (σ : am_H) {o : Bool} (hf : f_X2_isHeightFine r1 v2 σ = some o) : am_C X gm_X2_isHeightFine [.ref (am_ad X 2 0), .ref (am_ad X 3 r1), .int v2] σ (am_is (some (.int (am_b o))) σ) :=
  am_ofG rfl (Nat.le_of_ble_eq_true rfl) rfl (q_X2_isHeightFine hX r1 v2 hr1 σ hf ⟨rfl, rfl⟩)
theorem dX2_firstHour_0 : decode cX2_firstHour 0 = .ok (.iload_n 2, 1) := by decide +kernel
theorem dX2_firstHour_1 : decode cX2_firstHour 1 = .ok (.istore 4, 2) := by decide +kernel
theorem dX2_firstHour_3 : decode cX2_firstHour 3 = .ok (.iload 4, 2) := by decide +kernel
theorem dX2_firstHour_5 : decode cX2_firstHour 5 = .ok (.iload_n 3, 1) := by decide +kernel
theorem dX2_firstHour_6 : decode cX2_firstHour 6 = .ok (.if_icmp .gt 41, 3) := by decide +kernel
theorem dX2_firstHour_9 : decode cX2_firstHour 9 = .ok (.aload_n 0, 1) := by decide +kernel
theorem dX2_firstHour_10 : decode cX2_firstHour 10 = .ok (.iload 4, 2) := by decide +kernel
theorem dX2_firstHour_12 : decode cX2_firstHour 12 = .ok (.invokevirtual 18, 3) := by decide +kernel
theorem dX2_firstHour_15 : decode cX2_firstHour 15 = .ok (.ifCond .eq 26, 3) := by decide +kernel
theorem dX2_firstHour_18 : decode cX2_firstHour 18 = .ok (.aload_n 0, 1) := by decide +kernel
theorem dX2_firstHour_19 : decode cX2_firstHour 19 = .ok (.aload_n 1, 1) := by decide +kernel
theorem dX2_firstHour_20 : decode cX2_firstHour 20 = .ok (.iload 4, 2) := by decide +kernel
theorem dX2_firstHour_22 : decode cX2_firstHour 22 = .ok (.invokevirtual 22, 3) := by decide +kernel
theorem dX2_firstHour_25 : decode cX2_firstHour 25 = .ok (.ifCond .eq 16, 3) := by decide +kernel
theorem dX2_firstHour_28 : decode cX2_firstHour 28 = .ok (.aload_n 0, 1) := by decide +kernel
theorem dX2_firstHour_29 : decode cX2_firstHour 29 = .ok (.aload_n 1, 1) := by decide +kernel
theorem dX2_firstHour_30 : decode cX2_firstHour 30 = .ok (.iload 4, 2) := by decide +kernel
theorem dX2_firstHour_32 : decode cX2_firstHour 32 = .ok (.invokevirtual 26, 3) := by decide +kernel
theorem dX2_firstHour_35 : decode cX2_firstHour 35 = .ok (.ifCond .eq 6, 3) := by decide +kernel
theorem dX2_firstHour_38 : decode cX2_firstHour 38 = .ok (.iload 4, 2) := by decide +kernel
theorem dX2_firstHour_40 : decode cX2_firstHour 40 = .ok (.ireturn, 1) := by decide +kernel
theorem dX2_firstHour_41 : decode cX2_firstHour 41 = .ok (.iinc 4 1, 3) := by decide +kernel
theorem dX2_firstHour_44 : decode cX2_firstHour 44 = .ok (.goto (-41), 3) := by decide +kernel
theorem dX2_firstHour_47 : decode cX2_firstHour 47 = .ok (.iconst (-1), 1) := by decide +kernel
theorem dX2_firstHour_48 : decode cX2_firstHour 48 = .ok (.ireturn, 1) := by decide +kernel
noncomputable def f_X2_firstHour_3 (r1 : Nat) (v3 : Int32) (v4 : Int32) (σ : am_H) : Option ((Int32) ⊕ ((Int32) ⊕ (Unit))) :=
  if v3 < v4 then
   (some (.inr (.inr ())))
  else
  (f_X2_isInTime v4 σ).bind fun p2 =>
  if p2 = true then
   ((f_X2_isMoonFine r1 v4 σ).bind fun p4 =>
   if p4 = true then
    ((f_X2_isHeightFine r1 v4 σ).bind fun p6 =>
    if p6 = true then
     (some (.inr (.inl v4)))
    else
    some (.inl (v4 + 1)))
   else
   some (.inl (v4 + 1)))
  else
  some (.inl (v4 + 1))
set_option maxRecDepth 100000 in
set_option maxHeartbeats 4000000 in
theorem q_X2_firstHour_3 {X : am_X} (hX : am_wC X) {Q : Option Value → am_H → Prop} (r1 : Nat) (v3 : Int32) (v4 : Int32) (hr1 : r1 < 3) (σ : am_H) {o : (Int32) ⊕ ((Int32) ⊕ (Unit))} (hf : f_X2_firstHour_3 r1 v3 v4 σ = some o) (hk0 : ∀ s, o = .inl s → am_G X gm_X2_firstHour Q 3 [(0, .ref (am_ad X 2 0)), (1, .ref (am_ad X 3 r1)), (3, .int v3), (4, .int s)] [] σ) (hk1 : ∀ t, o = .inr (.inl t) → am_G X gm_X2_firstHour Q 38 [(4, .int t)] [] σ) (hk2 : ∀ t, o = .inr (.inr t) → am_G X gm_X2_firstHour Q 47 [] [] σ) : am_G X gm_X2_firstHour Q 3 [(0, .ref (am_ad X 2 0)), (1, .ref (am_ad X 3 r1)), (3, .int v3), (4, .int v4)] [] σ := by
  unfold f_X2_firstHour_3 at hf
  refine g_iload (pc := 3) 3 rfl dX2_firstHour_3 ?_
  refine g_iload_n (pc := 5) 2 rfl dX2_firstHour_5 rfl ?_
  refine bi_gt (pc := 6) 47 dX2_firstHour_6 rfl (fun c1 => ?_) (fun c1 => ?_)
  · replace hf := am_ifT c1 hf
    have hz := hk2 _ (Option.some.inj hf).symm
    exact am_sub [] rfl hz
  replace hf := am_ifF c1 hf
  refine g_aload_n (pc := 9) 0 rfl dX2_firstHour_9 rfl ?_
  refine g_iload (pc := 10) 3 rfl dX2_firstHour_10 ?_
  obtain ⟨p2, hp2, hf⟩ := am_bd hf
  refine g_cV (pc := 12) (As := [.int v4]) (st := []) (st1 := [.int (am_b p2)]) (in_2 hX.1 (by omega)) kk_2 mV_X2_isInTime ln_X2_18 rfl (Nat.le_of_ble_eq_true rfl) (Nat.le_of_ble_eq_true rfl) (k_X2_isInTime hX v4 σ hp2) dX2_firstHour_12 rfl rfl ?_
  refine bt_eq (pc := 15) 41 dX2_firstHour_15 rfl (fun c3 => ?_) (fun c3 => ?_)
  · replace hf := am_ifT c3 hf
    refine g_aload_n (pc := 18) 0 rfl dX2_firstHour_18 rfl ?_
    refine g_aload_n (pc := 19) 1 rfl dX2_firstHour_19 rfl ?_
    refine g_iload (pc := 20) 3 rfl dX2_firstHour_20 ?_
    obtain ⟨p4, hp4, hf⟩ := am_bd hf
    refine g_cV (pc := 22) (As := [.ref (am_ad X 3 r1), .int v4]) (st := []) (st1 := [.int (am_b p4)]) (in_2 hX.1 (by omega)) kk_2 mV_X2_isMoonFine ln_X2_22 rfl (Nat.le_of_ble_eq_true rfl) (Nat.le_of_ble_eq_true rfl) (k_X2_isMoonFine hX r1 v4 (by omega) σ hp4) dX2_firstHour_22 rfl rfl ?_
    refine bt_eq (pc := 25) 41 dX2_firstHour_25 rfl (fun c5 => ?_) (fun c5 => ?_)
    · replace hf := am_ifT c5 hf
      refine g_aload_n (pc := 28) 0 rfl dX2_firstHour_28 rfl ?_
      refine g_aload_n (pc := 29) 1 rfl dX2_firstHour_29 rfl ?_
      refine g_iload (pc := 30) 3 rfl dX2_firstHour_30 ?_
      obtain ⟨p6, hp6, hf⟩ := am_bd hf
      refine g_cV (pc := 32) (As := [.ref (am_ad X 3 r1), .int v4]) (st := []) (st1 := [.int (am_b p6)]) (in_2 hX.1 (by omega)) kk_2 mV_X2_isHeightFine ln_X2_26 rfl (Nat.le_of_ble_eq_true rfl) (Nat.le_of_ble_eq_true rfl) (k_X2_isHeightFine hX r1 v4 (by omega) σ hp6) dX2_firstHour_32 rfl rfl ?_
      refine bt_eq (pc := 35) 41 dX2_firstHour_35 rfl (fun c7 => ?_) (fun c7 => ?_)
      · replace hf := am_ifT c7 hf
        have hz := hk1 _ (Option.some.inj hf).symm
        exact am_sub [3] rfl hz
      replace hf := am_ifF c7 hf
      refine g_iinc (pc := 41) (v := (v4 + 1)) 3 [(4, .int (v4 + 1)), (0, .ref (am_ad X 2 0)), (1, .ref (am_ad X 3 r1)), (3, .int v3)] dX2_firstHour_41 rfl rfl (Nat.le_of_ble_eq_true rfl) rfl ?_
      refine g_goto (pc := 44) 3 dX2_firstHour_44 rfl ?_
      have hz := hk0 _ (Option.some.inj hf).symm
      exact am_sub [1, 2, 3, 0] rfl hz
    replace hf := am_ifF c5 hf
    refine g_iinc (pc := 41) (v := (v4 + 1)) 3 [(4, .int (v4 + 1)), (0, .ref (am_ad X 2 0)), (1, .ref (am_ad X 3 r1)), (3, .int v3)] dX2_firstHour_41 rfl rfl (Nat.le_of_ble_eq_true rfl) rfl ?_
    refine g_goto (pc := 44) 3 dX2_firstHour_44 rfl ?_
    have hz := hk0 _ (Option.some.inj hf).symm
    exact am_sub [1, 2, 3, 0] rfl hz
  replace hf := am_ifF c3 hf
  refine g_iinc (pc := 41) (v := (v4 + 1)) 3 [(4, .int (v4 + 1)), (0, .ref (am_ad X 2 0)), (1, .ref (am_ad X 3 r1)), (3, .int v3)] dX2_firstHour_41 rfl rfl (Nat.le_of_ble_eq_true rfl) rfl ?_
  refine g_goto (pc := 44) 3 dX2_firstHour_44 rfl ?_
  have hz := hk0 _ (Option.some.inj hf).symm
  exact am_sub [1, 2, 3, 0] rfl hz
set_option maxRecDepth 100000 in
set_option maxHeartbeats 4000000 in
theorem l_X2_firstHour_3 {X : am_X} (hX : am_wC X) {Q : Option Value → am_H → Prop} (r1 : Nat) (v3 : Int32) (hr1 : r1 < 3) (σ : am_H) (s : Int32) {o : (Int32) ⊕ (Unit)} (hf : am_loop (fun s => f_X2_firstHour_3 r1 v3 s σ) s = some o) (hk1 : ∀ t, o = (.inl t) → am_G X gm_X2_firstHour Q 38 [(4, .int t)] [] σ) (hk2 : ∀ t, o = (.inr t) → am_G X gm_X2_firstHour Q 47 [] [] σ) : am_G X gm_X2_firstHour Q 3 [(0, .ref (am_ad X 2 0)), (1, .ref (am_ad X 3 r1)), (3, .int v3), (4, .int s)] [] σ := by
  refine am_loop_ind (P := fun s => am_G X gm_X2_firstHour Q 3 [(0, .ref (am_ad X 2 0)), (1, .ref (am_ad X 3 r1)), (3, .int v3), (4, .int s)] [] σ) (K := fun r => r = o) ?_ hf rfl
  intro s o1 hb hi hr
  exact q_X2_firstHour_3 hX r1 v3 s  hr1 σ hb hi (fun t e => hk1 t (hr _ e).symm) (fun t e => hk2 t (hr _ e).symm)
noncomputable def f_X2_firstHour (r1 : Nat) (v2 : Int32) (v3 : Int32) (σ : am_H) : Option (Int32) :=
  (am_loop (fun s => f_X2_firstHour_3 r1 v3 s σ) v2).bind fun w1 =>
  Sum.elim (fun t1_0 =>
   some t1_0) (fun u1_0 =>
   some (-1)) w1
set_option maxRecDepth 100000 in
set_option maxHeartbeats 4000000 in
theorem q_X2_firstHour {X : am_X} (hX : am_wC X) {Q : Option Value → am_H → Prop} (r1 : Nat) (v2 : Int32) (v3 : Int32) (hr1 : r1 < 3) (σ : am_H) {o : Int32} (hf : f_X2_firstHour r1 v2 v3 σ = some o) (hk : Q (some (.int o)) σ) : am_G X gm_X2_firstHour Q 0 [(0, .ref (am_ad X 2 0)), (1, .ref (am_ad X 3 r1)), (2, .int v2), (3, .int v3)] [] σ := by
  unfold f_X2_firstHour at hf
  refine g_iload_n (pc := 0) 2 rfl dX2_firstHour_0 rfl ?_
  refine g_istore (pc := 1) [(4, .int v2), (0, .ref (am_ad X 2 0)), (1, .ref (am_ad X 3 r1)), (2, .int v2), (3, .int v3)] dX2_firstHour_1 (Nat.le_of_ble_eq_true rfl) rfl ?_
  obtain ⟨w1, hw1, hf⟩ := am_bd hf
  refine am_sub [1, 2, 4, 0] rfl (l_X2_firstHour_3 hX r1 v3 (by omega) σ v2 hw1 ?_ ?_)
  · intro t1_0 e
    subst e
    replace hf := am_elL hf
    refine g_iload (pc := 38) 0 rfl dX2_firstHour_38 ?_
    have ho := Option.some.inj hf
    subst ho
    exact g_ireturn (pc := 40) (st := []) rfl dX2_firstHour_40 hk
  · intro u1_0 e
    subst e
    replace hf := am_elR hf
    refine g_iconst (pc := 47) (v := (-1)) dX2_firstHour_47 (by decide) ?_
    have ho := Option.some.inj hf
    subst ho
    exact g_ireturn (pc := 48) (st := []) rfl dX2_firstHour_48 hk
theorem k_X2_firstHour {X : am_X} (hX : am_wC X) (r1 : Nat) (v2 : Int32) (v3 : Int32) (hr1 : r1 < 3) (σ : am_H) {o : Int32} (hf : f_X2_firstHour r1 v2 v3 σ = some o) : am_C X gm_X2_firstHour [.ref (am_ad X 2 0), .ref (am_ad X 3 r1), .int v2, .int v3] σ (am_is (some (.int o)) σ) :=
  am_ofG rfl (Nat.le_of_ble_eq_true rfl) rfl (q_X2_firstHour hX r1 v2 v3 hr1 σ hf ⟨rfl, rfl⟩)
theorem dX5_isAtEnd_0 : decode cX5_isAtEnd 0 = .ok (.aload_n 0, 1) := by decide +kernel
theorem dX5_isAtEnd_1 : decode cX5_isAtEnd 1 = .ok (.getfield 57, 3) := by decide +kernel
theorem dX5_isAtEnd_4 : decode cX5_isAtEnd 4 = .ok (.ifCond .ne 7, 3) := by decide +kernel
theorem dX5_isAtEnd_7 : decode cX5_isAtEnd 7 = .ok (.iconst 1, 1) := by decide +kernel
theorem dX5_isAtEnd_8 : decode cX5_isAtEnd 8 = .ok (.goto 4, 3) := by decide +kernel
theorem dX5_isAtEnd_11 : decode cX5_isAtEnd 11 = .ok (.iconst 0, 1) := by decide +kernel
theorem dX5_isAtEnd_12 : decode cX5_isAtEnd 12 = .ok (.ireturn, 1) := by decide +kernel
noncomputable def f_X5_isAtEnd (σ : am_H) : Option (Bool) :=
  if (σ.1 5 0 3) = 0 then
   (some true)
  else
  some false
set_option maxRecDepth 100000 in
set_option maxHeartbeats 4000000 in
theorem q_X5_isAtEnd {X : am_X} (hX : am_wC X) {Q : Option Value → am_H → Prop} (σ : am_H) {o : Bool} (hf : f_X5_isAtEnd σ = some o) (hk : Q (some (.int (am_b o))) σ) : am_G X gm_X5_isAtEnd Q 0 [(0, .ref (am_ad X 5 0))] [] σ := by
  unfold f_X5_isAtEnd at hf
  refine g_aload_n (pc := 0) 0 rfl dX5_isAtEnd_0 rfl ?_
  refine g_getI (pc := 1) (in_5 hX.1 (by omega)) fr_X5_57 dX5_isAtEnd_1 ?_
  refine bz_ne (pc := 4) 11 dX5_isAtEnd_4 rfl (fun c1 => ?_) (fun c1 => ?_)
  · replace hf := am_ifT c1 hf
    refine g_iconst (pc := 7) (v := 1) dX5_isAtEnd_7 (by decide) ?_
    refine g_goto (pc := 8) 12 dX5_isAtEnd_8 rfl ?_
    have ho := Option.some.inj hf
    subst ho
    exact g_zreturn (pc := 12) (st := []) (x := true) rfl dX5_isAtEnd_12 hk
  replace hf := am_ifF c1 hf
  refine g_iconst (pc := 11) (v := 0) dX5_isAtEnd_11 (by decide) ?_
  have ho := Option.some.inj hf
  subst ho
  exact g_zreturn (pc := 12) (st := []) (x := false) rfl dX5_isAtEnd_12 hk
theorem k_X5_isAtEnd {X : am_X} (hX : am_wC X) (σ : am_H) {o : Bool} (hf : f_X5_isAtEnd σ = some o) : am_C X gm_X5_isAtEnd [.ref (am_ad X 5 0)] σ (am_is (some (.int (am_b o))) σ) :=
  am_ofG rfl (Nat.le_of_ble_eq_true rfl) rfl (q_X5_isAtEnd hX σ hf ⟨rfl, rfl⟩)
theorem dX5_byteAt_0 : decode cX5_byteAt 0 = .ok (.iload_n 1, 1) := by decide +kernel
theorem dX5_byteAt_1 : decode cX5_byteAt 1 = .ok (.ifCond .lt 10, 3) := by decide +kernel
theorem dX5_byteAt_4 : decode cX5_byteAt 4 = .ok (.iload_n 1, 1) := by decide +kernel
theorem dX5_byteAt_5 : decode cX5_byteAt 5 = .ok (.sipush 600, 3) := by decide +kernel
theorem dX5_byteAt_8 : decode cX5_byteAt 8 = .ok (.if_icmp .lt 7, 3) := by decide +kernel
theorem dX5_byteAt_11 : decode cX5_byteAt 11 = .ok (.iconst (-1), 1) := by decide +kernel
theorem dX5_byteAt_12 : decode cX5_byteAt 12 = .ok (.goto 13, 3) := by decide +kernel
theorem dX5_byteAt_15 : decode cX5_byteAt 15 = .ok (.aload_n 0, 1) := by decide +kernel
theorem dX5_byteAt_16 : decode cX5_byteAt 16 = .ok (.getfield 9, 3) := by decide +kernel
theorem dX5_byteAt_19 : decode cX5_byteAt 19 = .ok (.iload_n 1, 1) := by decide +kernel
theorem dX5_byteAt_20 : decode cX5_byteAt 20 = .ok (.baload, 1) := by decide +kernel
theorem dX5_byteAt_21 : decode cX5_byteAt 21 = .ok (.sipush 255, 3) := by decide +kernel
theorem dX5_byteAt_24 : decode cX5_byteAt 24 = .ok (.iand, 1) := by decide +kernel
theorem dX5_byteAt_25 : decode cX5_byteAt 25 = .ok (.ireturn, 1) := by decide +kernel
noncomputable def f_X5_byteAt (v1 : Int32) (σ : am_H) : Option (Int32) :=
  if v1 < 0 then
   (some (-1))
  else
  if v1 < 600 then
   ((am_ix 600 v1).bind fun j3 =>
   some ((σ.1 600 0 j3) &&& 255))
  else
  some (-1)
set_option maxRecDepth 100000 in
set_option maxHeartbeats 4000000 in
theorem q_X5_byteAt {X : am_X} (hX : am_wC X) {Q : Option Value → am_H → Prop} (v1 : Int32) (σ : am_H) {o : Int32} (hf : f_X5_byteAt v1 σ = some o) (hk : Q (some (.int o)) σ) : am_G X gm_X5_byteAt Q 0 [(0, .ref (am_ad X 5 0)), (1, .int v1)] [] σ := by
  unfold f_X5_byteAt at hf
  refine g_iload_n (pc := 0) 1 rfl dX5_byteAt_0 rfl ?_
  refine bz_lt (pc := 1) 11 dX5_byteAt_1 rfl (fun c1 => ?_) (fun c1 => ?_)
  · replace hf := am_ifT c1 hf
    refine g_iconst (pc := 11) (v := (-1)) dX5_byteAt_11 (by decide) ?_
    refine g_goto (pc := 12) 25 dX5_byteAt_12 rfl ?_
    have ho := Option.some.inj hf
    subst ho
    exact g_ireturn (pc := 25) (st := []) rfl dX5_byteAt_25 hk
  replace hf := am_ifF c1 hf
  refine g_iload_n (pc := 4) 1 rfl dX5_byteAt_4 rfl ?_
  refine g_sipush (pc := 5) (v := 600) dX5_byteAt_5 (by decide) ?_
  refine bi_lt (pc := 8) 15 dX5_byteAt_8 rfl (fun c2 => ?_) (fun c2 => ?_)
  · replace hf := am_ifT c2 hf
    refine g_aload_n (pc := 15) 0 rfl dX5_byteAt_15 rfl ?_
    refine g_getC (pc := 16) (e := 0) (in_5 hX.1 (by omega)) fr_X5_9 dX5_byteAt_16 rfl ?_
    refine g_iload_n (pc := 19) 1 rfl dX5_byteAt_19 rfl ?_
    obtain ⟨j3, hj3, hf⟩ := am_bd hf
    have gj3 := am_ix_lt hj3
    refine g_aB (pc := 20) (in_600 hX.1 (by omega)) ak_600 hj3 dX5_byteAt_20 ?_
    refine g_sipush (pc := 21) (v := 255) dX5_byteAt_21 (by decide) ?_
    refine g_iand (pc := 24) dX5_byteAt_24 ?_
    have ho := Option.some.inj hf
    subst ho
    exact g_ireturn (pc := 25) (st := []) rfl dX5_byteAt_25 hk
  replace hf := am_ifF c2 hf
  refine g_iconst (pc := 11) (v := (-1)) dX5_byteAt_11 (by decide) ?_
  refine g_goto (pc := 12) 25 dX5_byteAt_12 rfl ?_
  have ho := Option.some.inj hf
  subst ho
  exact g_ireturn (pc := 25) (st := []) rfl dX5_byteAt_25 hk
theorem k_X5_byteAt {X : am_X} (hX : am_wC X) (v1 : Int32) (σ : am_H) {o : Int32} (hf : f_X5_byteAt v1 σ = some o) : am_C X gm_X5_byteAt [.ref (am_ad X 5 0), .int v1] σ (am_is (some (.int o)) σ) :=
  am_ofG rfl (Nat.le_of_ble_eq_true rfl) rfl (q_X5_byteAt hX v1 σ hf ⟨rfl, rfl⟩)
theorem dX5_isWord_0 : decode cX5_isWord 0 = .ok (.aload_n 1, 1) := by decide +kernel
theorem dX5_isWord_1 : decode cX5_isWord 1 = .ok (.invokevirtual 60, 3) := by decide +kernel
theorem dX5_isWord_4 : decode cX5_isWord 4 = .ok (.istore_n 2, 1) := by decide +kernel
theorem dX5_isWord_5 : decode cX5_isWord 5 = .ok (.aload_n 0, 1) := by decide +kernel
theorem dX5_isWord_6 : decode cX5_isWord 6 = .ok (.getfield 57, 3) := by decide +kernel
theorem dX5_isWord_9 : decode cX5_isWord 9 = .ok (.iconst 1, 1) := by decide +kernel
theorem dX5_isWord_10 : decode cX5_isWord 10 = .ok (.if_icmp .ne 16, 3) := by decide +kernel
theorem dX5_isWord_13 : decode cX5_isWord 13 = .ok (.aload_n 0, 1) := by decide +kernel
theorem dX5_isWord_14 : decode cX5_isWord 14 = .ok (.getfield 37, 3) := by decide +kernel
theorem dX5_isWord_17 : decode cX5_isWord 17 = .ok (.aload_n 0, 1) := by decide +kernel
theorem dX5_isWord_18 : decode cX5_isWord 18 = .ok (.getfield 47, 3) := by decide +kernel
theorem dX5_isWord_21 : decode cX5_isWord 21 = .ok (.isub, 1) := by decide +kernel
theorem dX5_isWord_22 : decode cX5_isWord 22 = .ok (.iload_n 2, 1) := by decide +kernel
theorem dX5_isWord_23 : decode cX5_isWord 23 = .ok (.if_icmp .eq 5, 3) := by decide +kernel
theorem dX5_isWord_26 : decode cX5_isWord 26 = .ok (.iconst 0, 1) := by decide +kernel
theorem dX5_isWord_27 : decode cX5_isWord 27 = .ok (.ireturn, 1) := by decide +kernel
theorem dX5_isWord_28 : decode cX5_isWord 28 = .ok (.iconst 0, 1) := by decide +kernel
theorem dX5_isWord_29 : decode cX5_isWord 29 = .ok (.istore_n 3, 1) := by decide +kernel
theorem dX5_isWord_30 : decode cX5_isWord 30 = .ok (.iload_n 3, 1) := by decide +kernel
theorem dX5_isWord_31 : decode cX5_isWord 31 = .ok (.iload_n 2, 1) := by decide +kernel
theorem dX5_isWord_32 : decode cX5_isWord 32 = .ok (.if_icmp .ge 29, 3) := by decide +kernel
theorem dX5_isWord_35 : decode cX5_isWord 35 = .ok (.aload_n 0, 1) := by decide +kernel
theorem dX5_isWord_36 : decode cX5_isWord 36 = .ok (.aload_n 0, 1) := by decide +kernel
theorem dX5_isWord_37 : decode cX5_isWord 37 = .ok (.getfield 47, 3) := by decide +kernel
theorem dX5_isWord_40 : decode cX5_isWord 40 = .ok (.iload_n 3, 1) := by decide +kernel
theorem dX5_isWord_41 : decode cX5_isWord 41 = .ok (.iadd, 1) := by decide +kernel
theorem dX5_isWord_42 : decode cX5_isWord 42 = .ok (.invokevirtual 65, 3) := by decide +kernel
theorem dX5_isWord_45 : decode cX5_isWord 45 = .ok (.aload_n 1, 1) := by decide +kernel
theorem dX5_isWord_46 : decode cX5_isWord 46 = .ok (.iload_n 3, 1) := by decide +kernel
theorem dX5_isWord_47 : decode cX5_isWord 47 = .ok (.invokevirtual 68, 3) := by decide +kernel
theorem dX5_isWord_50 : decode cX5_isWord 50 = .ok (.if_icmp .eq 5, 3) := by decide +kernel
theorem dX5_isWord_53 : decode cX5_isWord 53 = .ok (.iconst 0, 1) := by decide +kernel
theorem dX5_isWord_54 : decode cX5_isWord 54 = .ok (.ireturn, 1) := by decide +kernel
theorem dX5_isWord_55 : decode cX5_isWord 55 = .ok (.iinc 3 1, 3) := by decide +kernel
theorem dX5_isWord_58 : decode cX5_isWord 58 = .ok (.goto (-28), 3) := by decide +kernel
theorem dX5_isWord_61 : decode cX5_isWord 61 = .ok (.iconst 1, 1) := by decide +kernel
theorem dX5_isWord_62 : decode cX5_isWord 62 = .ok (.ireturn, 1) := by decide +kernel
noncomputable def f_X5_isWord_30 (r1 : Nat) (v2 : Int32) (v3 : Int32) (σ : am_H) : Option ((Int32) ⊕ ((Unit) ⊕ (Unit))) :=
  if v3 < v2 then
   ((f_X5_byteAt ((σ.1 5 0 4) + v3) σ).bind fun p2 =>
   (am_ix (am_sL.getD r1 0) v3).bind fun j3 =>
   if p2 = (am_sch r1 j3) then
    (some (.inl (v3 + 1)))
   else
   some (.inr (.inl ())))
  else
  some (.inr (.inr ()))
set_option maxRecDepth 100000 in
set_option maxHeartbeats 4000000 in
theorem q_X5_isWord_30 {X : am_X} (hX : am_wC X) {Q : Option Value → am_H → Prop} (r1 : Nat) (v2 : Int32) (v3 : Int32) (hr1 : r1 < am_sN) (σ : am_H) {o : (Int32) ⊕ ((Unit) ⊕ (Unit))} (hf : f_X5_isWord_30 r1 v2 v3 σ = some o) (hk0 : ∀ s, o = .inl s → am_G X gm_X5_isWord Q 30 [(0, .ref (am_ad X 5 0)), (1, .ref (am_kK X r1)), (2, .int v2), (3, .int s)] [] σ) (hk1 : ∀ t, o = .inr (.inl t) → am_G X gm_X5_isWord Q 53 [] [] σ) (hk2 : ∀ t, o = .inr (.inr t) → am_G X gm_X5_isWord Q 61 [] [] σ) : am_G X gm_X5_isWord Q 30 [(0, .ref (am_ad X 5 0)), (1, .ref (am_kK X r1)), (2, .int v2), (3, .int v3)] [] σ := by
  unfold f_X5_isWord_30 at hf
  refine g_iload_n (pc := 30) 3 rfl dX5_isWord_30 rfl ?_
  refine g_iload_n (pc := 31) 2 rfl dX5_isWord_31 rfl ?_
  refine bi_ge (pc := 32) 61 dX5_isWord_32 rfl (fun c1 => ?_) (fun c1 => ?_)
  · replace hf := am_ifT c1 hf
    refine g_aload_n (pc := 35) 0 rfl dX5_isWord_35 rfl ?_
    refine g_aload_n (pc := 36) 0 rfl dX5_isWord_36 rfl ?_
    refine g_getI (pc := 37) (in_5 hX.1 (by omega)) fr_X5_47 dX5_isWord_37 ?_
    refine g_iload_n (pc := 40) 3 rfl dX5_isWord_40 rfl ?_
    refine g_iadd (pc := 41) dX5_isWord_41 ?_
    obtain ⟨p2, hp2, hf⟩ := am_bd hf
    refine g_cV (pc := 42) (As := [.int ((σ.1 5 0 4) + v3)]) (st := []) (st1 := [.int p2]) (in_5 hX.1 (by omega)) kk_5 mV_X5_byteAt ln_X5_65 rfl (Nat.le_of_ble_eq_true rfl) (Nat.le_of_ble_eq_true rfl) (k_X5_byteAt hX ((σ.1 5 0 4) + v3) σ hp2) dX5_isWord_42 rfl rfl ?_
    refine g_aload_n (pc := 45) 1 rfl dX5_isWord_45 rfl ?_
    refine g_iload_n (pc := 46) 3 rfl dX5_isWord_46 rfl ?_
    obtain ⟨j3, hj3, hf⟩ := am_bd hf
    refine g_schr (pc := 47) hX.2 (by first | assumption | decide) (Nat.le_of_ble_eq_true rfl) (Nat.le_of_ble_eq_true rfl) sp_X5_68 hj3 dX5_isWord_47 ?_
    refine bi_eq (pc := 50) 55 dX5_isWord_50 rfl (fun c4 => ?_) (fun c4 => ?_)
    · replace hf := am_ifT c4 hf
      refine g_iinc (pc := 55) (v := (v3 + 1)) 3 [(3, .int (v3 + 1)), (0, .ref (am_ad X 5 0)), (1, .ref (am_kK X r1)), (2, .int v2)] dX5_isWord_55 rfl rfl (Nat.le_of_ble_eq_true rfl) rfl ?_
      refine g_goto (pc := 58) 30 dX5_isWord_58 rfl ?_
      have hz := hk0 _ (Option.some.inj hf).symm
      exact am_sub [1, 2, 3, 0] rfl hz
    replace hf := am_ifF c4 hf
    have hz := hk1 _ (Option.some.inj hf).symm
    exact am_sub [] rfl hz
  replace hf := am_ifF c1 hf
  have hz := hk2 _ (Option.some.inj hf).symm
  exact am_sub [] rfl hz
set_option maxRecDepth 100000 in
set_option maxHeartbeats 4000000 in
theorem l_X5_isWord_30 {X : am_X} (hX : am_wC X) {Q : Option Value → am_H → Prop} (r1 : Nat) (v2 : Int32) (hr1 : r1 < am_sN) (σ : am_H) (s : Int32) {o : (Unit) ⊕ (Unit)} (hf : am_loop (fun s => f_X5_isWord_30 r1 v2 s σ) s = some o) (hk1 : ∀ t, o = (.inl t) → am_G X gm_X5_isWord Q 53 [] [] σ) (hk2 : ∀ t, o = (.inr t) → am_G X gm_X5_isWord Q 61 [] [] σ) : am_G X gm_X5_isWord Q 30 [(0, .ref (am_ad X 5 0)), (1, .ref (am_kK X r1)), (2, .int v2), (3, .int s)] [] σ := by
  refine am_loop_ind (P := fun s => am_G X gm_X5_isWord Q 30 [(0, .ref (am_ad X 5 0)), (1, .ref (am_kK X r1)), (2, .int v2), (3, .int s)] [] σ) (K := fun r => r = o) ?_ hf rfl
  intro s o1 hb hi hr
  exact q_X5_isWord_30 hX r1 v2 s  hr1 σ hb hi (fun t e => hk1 t (hr _ e).symm) (fun t e => hk2 t (hr _ e).symm)
noncomputable def f_X5_isWord (r1 : Nat) (σ : am_H) : Option (Bool) :=
  if (σ.1 5 0 3) = 1 then
   (if ((σ.1 5 0 5) - (σ.1 5 0 4)) = (am_slen r1) then
    ((am_loop (fun s => f_X5_isWord_30 r1 (am_slen r1) s σ) 0).bind fun w3 =>
    Sum.elim (fun t3_0 =>
     some false) (fun u3_0 =>
     some true) w3)
   else
   some false)
  else
  some false
set_option maxRecDepth 100000 in
set_option maxHeartbeats 4000000 in
theorem q_X5_isWord {X : am_X} (hX : am_wC X) {Q : Option Value → am_H → Prop} (r1 : Nat) (hr1 : r1 < am_sN) (σ : am_H) {o : Bool} (hf : f_X5_isWord r1 σ = some o) (hk : Q (some (.int (am_b o))) σ) : am_G X gm_X5_isWord Q 0 [(0, .ref (am_ad X 5 0)), (1, .ref (am_kK X r1))] [] σ := by
  unfold f_X5_isWord at hf
  refine g_aload_n (pc := 0) 1 rfl dX5_isWord_0 rfl ?_
  refine g_slen (pc := 1) hX.2 (by first | assumption | decide) (Nat.le_of_ble_eq_true rfl) (Nat.le_of_ble_eq_true rfl) sp_X5_60 dX5_isWord_1 ?_
  refine g_istore_n (pc := 4) [(2, .int (am_slen r1)), (0, .ref (am_ad X 5 0)), (1, .ref (am_kK X r1))] dX5_isWord_4 rfl (Nat.le_of_ble_eq_true rfl) rfl ?_
  refine g_aload_n (pc := 5) 1 rfl dX5_isWord_5 rfl ?_
  refine g_getI (pc := 6) (in_5 hX.1 (by omega)) fr_X5_57 dX5_isWord_6 ?_
  refine g_iconst (pc := 9) (v := 1) dX5_isWord_9 (by decide) ?_
  refine bi_ne (pc := 10) 26 dX5_isWord_10 rfl (fun c1 => ?_) (fun c1 => ?_)
  · replace hf := am_ifT c1 hf
    refine g_aload_n (pc := 13) 1 rfl dX5_isWord_13 rfl ?_
    refine g_getI (pc := 14) (in_5 hX.1 (by omega)) fr_X5_37 dX5_isWord_14 ?_
    refine g_aload_n (pc := 17) 1 rfl dX5_isWord_17 rfl ?_
    refine g_getI (pc := 18) (in_5 hX.1 (by omega)) fr_X5_47 dX5_isWord_18 ?_
    refine g_isub (pc := 21) dX5_isWord_21 ?_
    refine g_iload_n (pc := 22) 0 rfl dX5_isWord_22 rfl ?_
    refine bi_eq (pc := 23) 28 dX5_isWord_23 rfl (fun c2 => ?_) (fun c2 => ?_)
    · replace hf := am_ifT c2 hf
      refine g_iconst (pc := 28) (v := 0) dX5_isWord_28 (by decide) ?_
      refine g_istore_n (pc := 29) [(3, .int 0), (2, .int (am_slen r1)), (0, .ref (am_ad X 5 0)), (1, .ref (am_kK X r1))] dX5_isWord_29 rfl (Nat.le_of_ble_eq_true rfl) rfl ?_
      obtain ⟨w3, hw3, hf⟩ := am_bd hf
      refine am_sub [2, 3, 1, 0] rfl (l_X5_isWord_30 hX r1 (am_slen r1) (by assumption) σ 0 hw3 ?_ ?_)
      · intro t3_0 e
        subst e
        replace hf := am_elL hf
        refine g_iconst (pc := 53) (v := 0) dX5_isWord_53 (by decide) ?_
        have ho := Option.some.inj hf
        subst ho
        exact g_zreturn (pc := 54) (st := []) (x := false) rfl dX5_isWord_54 hk
      · intro u3_0 e
        subst e
        replace hf := am_elR hf
        refine g_iconst (pc := 61) (v := 1) dX5_isWord_61 (by decide) ?_
        have ho := Option.some.inj hf
        subst ho
        exact g_zreturn (pc := 62) (st := []) (x := true) rfl dX5_isWord_62 hk
    replace hf := am_ifF c2 hf
    refine g_iconst (pc := 26) (v := 0) dX5_isWord_26 (by decide) ?_
    have ho := Option.some.inj hf
    subst ho
    exact g_zreturn (pc := 27) (st := []) (x := false) rfl dX5_isWord_27 hk
  replace hf := am_ifF c1 hf
  refine g_iconst (pc := 26) (v := 0) dX5_isWord_26 (by decide) ?_
  have ho := Option.some.inj hf
  subst ho
  exact g_zreturn (pc := 27) (st := []) (x := false) rfl dX5_isWord_27 hk
theorem k_X5_isWord {X : am_X} (hX : am_wC X) (r1 : Nat) (hr1 : r1 < am_sN) (σ : am_H) {o : Bool} (hf : f_X5_isWord r1 σ = some o) : am_C X gm_X5_isWord [.ref (am_ad X 5 0), .ref (am_kK X r1)] σ (am_is (some (.int (am_b o))) σ) :=
  am_ofG rfl (Nat.le_of_ble_eq_true rfl) rfl (q_X5_isWord hX r1 hr1 σ hf ⟨rfl, rfl⟩)
theorem dX5_isBlank_0 : decode cX5_isBlank 0 = .ok (.iload_n 0, 1) := by decide +kernel
theorem dX5_isBlank_1 : decode cX5_isBlank 1 = .ok (.bipush 10, 2) := by decide +kernel
theorem dX5_isBlank_3 : decode cX5_isBlank 3 = .ok (.if_icmp .eq 9, 3) := by decide +kernel
theorem dX5_isBlank_6 : decode cX5_isBlank 6 = .ok (.iload_n 0, 1) := by decide +kernel
theorem dX5_isBlank_7 : decode cX5_isBlank 7 = .ok (.bipush 32, 2) := by decide +kernel
theorem dX5_isBlank_9 : decode cX5_isBlank 9 = .ok (.if_icmp .ne 7, 3) := by decide +kernel
theorem dX5_isBlank_12 : decode cX5_isBlank 12 = .ok (.iconst 1, 1) := by decide +kernel
theorem dX5_isBlank_13 : decode cX5_isBlank 13 = .ok (.goto 4, 3) := by decide +kernel
theorem dX5_isBlank_16 : decode cX5_isBlank 16 = .ok (.iconst 0, 1) := by decide +kernel
theorem dX5_isBlank_17 : decode cX5_isBlank 17 = .ok (.ireturn, 1) := by decide +kernel
noncomputable def f_X5_isBlank (v0 : Int32) (σ : am_H) : Option (Bool) :=
  if v0 = 10 then
   (some true)
  else
  if v0 = 32 then
   (some true)
  else
  some false
set_option maxRecDepth 100000 in
set_option maxHeartbeats 4000000 in
theorem q_X5_isBlank {X : am_X} (hX : am_wC X) {Q : Option Value → am_H → Prop} (v0 : Int32) (σ : am_H) {o : Bool} (hf : f_X5_isBlank v0 σ = some o) (hk : Q (some (.int (am_b o))) σ) : am_G X gm_X5_isBlank Q 0 [(0, .int v0)] [] σ := by
  unfold f_X5_isBlank at hf
  refine g_iload_n (pc := 0) 0 rfl dX5_isBlank_0 rfl ?_
  refine g_bipush (pc := 1) (v := 10) dX5_isBlank_1 (by decide) ?_
  refine bi_eq (pc := 3) 12 dX5_isBlank_3 rfl (fun c1 => ?_) (fun c1 => ?_)
  · replace hf := am_ifT c1 hf
    refine g_iconst (pc := 12) (v := 1) dX5_isBlank_12 (by decide) ?_
    refine g_goto (pc := 13) 17 dX5_isBlank_13 rfl ?_
    have ho := Option.some.inj hf
    subst ho
    exact g_zreturn (pc := 17) (st := []) (x := true) rfl dX5_isBlank_17 hk
  replace hf := am_ifF c1 hf
  refine g_iload_n (pc := 6) 0 rfl dX5_isBlank_6 rfl ?_
  refine g_bipush (pc := 7) (v := 32) dX5_isBlank_7 (by decide) ?_
  refine bi_ne (pc := 9) 16 dX5_isBlank_9 rfl (fun c2 => ?_) (fun c2 => ?_)
  · replace hf := am_ifT c2 hf
    refine g_iconst (pc := 12) (v := 1) dX5_isBlank_12 (by decide) ?_
    refine g_goto (pc := 13) 17 dX5_isBlank_13 rfl ?_
    have ho := Option.some.inj hf
    subst ho
    exact g_zreturn (pc := 17) (st := []) (x := true) rfl dX5_isBlank_17 hk
  replace hf := am_ifF c2 hf
  refine g_iconst (pc := 16) (v := 0) dX5_isBlank_16 (by decide) ?_
  have ho := Option.some.inj hf
  subst ho
  exact g_zreturn (pc := 17) (st := []) (x := false) rfl dX5_isBlank_17 hk
theorem k_X5_isBlank {X : am_X} (hX : am_wC X) (v0 : Int32) (σ : am_H) {o : Bool} (hf : f_X5_isBlank v0 σ = some o) : am_C X gm_X5_isBlank [.int v0] σ (am_is (some (.int (am_b o))) σ) :=
  am_ofG rfl (Nat.le_of_ble_eq_true rfl) rfl (q_X5_isBlank hX v0 σ hf ⟨rfl, rfl⟩)
theorem dX5_sortOf_0 : decode cX5_sortOf 0 = .ok (.iload_n 0, 1) := by decide +kernel
theorem dX5_sortOf_1 : decode cX5_sortOf 1 = .ok (.bipush 97, 2) := by decide +kernel
theorem dX5_sortOf_3 : decode cX5_sortOf 3 = .ok (.if_icmp .lt 11, 3) := by decide +kernel
theorem dX5_sortOf_6 : decode cX5_sortOf 6 = .ok (.iload_n 0, 1) := by decide +kernel
theorem dX5_sortOf_7 : decode cX5_sortOf 7 = .ok (.bipush 122, 2) := by decide +kernel
theorem dX5_sortOf_9 : decode cX5_sortOf 9 = .ok (.if_icmp .gt 5, 3) := by decide +kernel
theorem dX5_sortOf_12 : decode cX5_sortOf 12 = .ok (.iconst 1, 1) := by decide +kernel
theorem dX5_sortOf_13 : decode cX5_sortOf 13 = .ok (.ireturn, 1) := by decide +kernel
theorem dX5_sortOf_14 : decode cX5_sortOf 14 = .ok (.iload_n 0, 1) := by decide +kernel
theorem dX5_sortOf_15 : decode cX5_sortOf 15 = .ok (.bipush 48, 2) := by decide +kernel
theorem dX5_sortOf_17 : decode cX5_sortOf 17 = .ok (.if_icmp .lt 11, 3) := by decide +kernel
theorem dX5_sortOf_20 : decode cX5_sortOf 20 = .ok (.iload_n 0, 1) := by decide +kernel
theorem dX5_sortOf_21 : decode cX5_sortOf 21 = .ok (.bipush 57, 2) := by decide +kernel
theorem dX5_sortOf_23 : decode cX5_sortOf 23 = .ok (.if_icmp .gt 5, 3) := by decide +kernel
theorem dX5_sortOf_26 : decode cX5_sortOf 26 = .ok (.iconst 2, 1) := by decide +kernel
theorem dX5_sortOf_27 : decode cX5_sortOf 27 = .ok (.ireturn, 1) := by decide +kernel
theorem dX5_sortOf_28 : decode cX5_sortOf 28 = .ok (.iload_n 0, 1) := by decide +kernel
theorem dX5_sortOf_29 : decode cX5_sortOf 29 = .ok (.bipush 59, 2) := by decide +kernel
theorem dX5_sortOf_31 : decode cX5_sortOf 31 = .ok (.if_icmp .ne 7, 3) := by decide +kernel
theorem dX5_sortOf_34 : decode cX5_sortOf 34 = .ok (.iconst 3, 1) := by decide +kernel
theorem dX5_sortOf_35 : decode cX5_sortOf 35 = .ok (.goto 4, 3) := by decide +kernel
theorem dX5_sortOf_38 : decode cX5_sortOf 38 = .ok (.iconst 4, 1) := by decide +kernel
theorem dX5_sortOf_39 : decode cX5_sortOf 39 = .ok (.ireturn, 1) := by decide +kernel
noncomputable def f_X5_sortOf_28 (v0 : Int32) (σ : am_H) : Option (Int32) :=
  if v0 = 59 then
   (some 3)
  else
  some 4
set_option maxRecDepth 100000 in
set_option maxHeartbeats 4000000 in
theorem q_X5_sortOf_28 {X : am_X} (hX : am_wC X) {Q : Option Value → am_H → Prop} (v0 : Int32) (σ : am_H) {o : Int32} (hf : f_X5_sortOf_28 v0 σ = some o) (hk : Q (some (.int o)) σ) : am_G X gm_X5_sortOf Q 28 [(0, .int v0)] [] σ := by
  unfold f_X5_sortOf_28 at hf
  refine g_iload_n (pc := 28) 0 rfl dX5_sortOf_28 rfl ?_
  refine g_bipush (pc := 29) (v := 59) dX5_sortOf_29 (by decide) ?_
  refine bi_ne (pc := 31) 38 dX5_sortOf_31 rfl (fun c1 => ?_) (fun c1 => ?_)
  · replace hf := am_ifT c1 hf
    refine g_iconst (pc := 34) (v := 3) dX5_sortOf_34 (by decide) ?_
    refine g_goto (pc := 35) 39 dX5_sortOf_35 rfl ?_
    have ho := Option.some.inj hf
    subst ho
    exact g_ireturn (pc := 39) (st := []) rfl dX5_sortOf_39 hk
  replace hf := am_ifF c1 hf
  refine g_iconst (pc := 38) (v := 4) dX5_sortOf_38 (by decide) ?_
  have ho := Option.some.inj hf
  subst ho
  exact g_ireturn (pc := 39) (st := []) rfl dX5_sortOf_39 hk
noncomputable def f_X5_sortOf_14 (v0 : Int32) (σ : am_H) : Option (Int32) :=
  if v0 < 48 then
   (f_X5_sortOf_28 v0 σ)
  else
  if 57 < v0 then
   (f_X5_sortOf_28 v0 σ)
  else
  some 2
set_option maxRecDepth 100000 in
set_option maxHeartbeats 4000000 in
theorem q_X5_sortOf_14 {X : am_X} (hX : am_wC X) {Q : Option Value → am_H → Prop} (v0 : Int32) (σ : am_H) {o : Int32} (hf : f_X5_sortOf_14 v0 σ = some o) (hk : Q (some (.int o)) σ) : am_G X gm_X5_sortOf Q 14 [(0, .int v0)] [] σ := by
  unfold f_X5_sortOf_14 at hf
  refine g_iload_n (pc := 14) 0 rfl dX5_sortOf_14 rfl ?_
  refine g_bipush (pc := 15) (v := 48) dX5_sortOf_15 (by decide) ?_
  refine bi_lt (pc := 17) 28 dX5_sortOf_17 rfl (fun c1 => ?_) (fun c1 => ?_)
  · replace hf := am_ifT c1 hf
    exact q_X5_sortOf_28 hX v0 σ hf hk
  replace hf := am_ifF c1 hf
  refine g_iload_n (pc := 20) 0 rfl dX5_sortOf_20 rfl ?_
  refine g_bipush (pc := 21) (v := 57) dX5_sortOf_21 (by decide) ?_
  refine bi_gt (pc := 23) 28 dX5_sortOf_23 rfl (fun c2 => ?_) (fun c2 => ?_)
  · replace hf := am_ifT c2 hf
    exact q_X5_sortOf_28 hX v0 σ hf hk
  replace hf := am_ifF c2 hf
  refine g_iconst (pc := 26) (v := 2) dX5_sortOf_26 (by decide) ?_
  have ho := Option.some.inj hf
  subst ho
  exact g_ireturn (pc := 27) (st := []) rfl dX5_sortOf_27 hk
noncomputable def f_X5_sortOf (v0 : Int32) (σ : am_H) : Option (Int32) :=
  if v0 < 97 then
   (f_X5_sortOf_14 v0 σ)
  else
  if 122 < v0 then
   (f_X5_sortOf_14 v0 σ)
  else
  some 1
set_option maxRecDepth 100000 in
set_option maxHeartbeats 4000000 in
theorem q_X5_sortOf {X : am_X} (hX : am_wC X) {Q : Option Value → am_H → Prop} (v0 : Int32) (σ : am_H) {o : Int32} (hf : f_X5_sortOf v0 σ = some o) (hk : Q (some (.int o)) σ) : am_G X gm_X5_sortOf Q 0 [(0, .int v0)] [] σ := by
  unfold f_X5_sortOf at hf
  refine g_iload_n (pc := 0) 0 rfl dX5_sortOf_0 rfl ?_
  refine g_bipush (pc := 1) (v := 97) dX5_sortOf_1 (by decide) ?_
  refine bi_lt (pc := 3) 14 dX5_sortOf_3 rfl (fun c1 => ?_) (fun c1 => ?_)
  · replace hf := am_ifT c1 hf
    exact q_X5_sortOf_14 hX v0 σ hf hk
  replace hf := am_ifF c1 hf
  refine g_iload_n (pc := 6) 0 rfl dX5_sortOf_6 rfl ?_
  refine g_bipush (pc := 7) (v := 122) dX5_sortOf_7 (by decide) ?_
  refine bi_gt (pc := 9) 14 dX5_sortOf_9 rfl (fun c2 => ?_) (fun c2 => ?_)
  · replace hf := am_ifT c2 hf
    exact q_X5_sortOf_14 hX v0 σ hf hk
  replace hf := am_ifF c2 hf
  refine g_iconst (pc := 12) (v := 1) dX5_sortOf_12 (by decide) ?_
  have ho := Option.some.inj hf
  subst ho
  exact g_ireturn (pc := 13) (st := []) rfl dX5_sortOf_13 hk
theorem k_X5_sortOf {X : am_X} (hX : am_wC X) (v0 : Int32) (σ : am_H) {o : Int32} (hf : f_X5_sortOf v0 σ = some o) : am_C X gm_X5_sortOf [.int v0] σ (am_is (some (.int o)) σ) :=
  am_ofG rfl (Nat.le_of_ble_eq_true rfl) rfl (q_X5_sortOf hX v0 σ hf ⟨rfl, rfl⟩)
theorem dX5_advance_0 : decode cX5_advance 0 = .ok (.aload_n 0, 1) := by decide +kernel
theorem dX5_advance_1 : decode cX5_advance 1 = .ok (.getfield 37, 3) := by decide +kernel
theorem dX5_advance_4 : decode cX5_advance 4 = .ok (.istore_n 1, 1) := by decide +kernel
theorem dX5_advance_5 : decode cX5_advance 5 = .ok (.iload_n 1, 1) := by decide +kernel
theorem dX5_advance_6 : decode cX5_advance 6 = .ok (.aload_n 0, 1) := by decide +kernel
theorem dX5_advance_7 : decode cX5_advance 7 = .ok (.getfield 34, 3) := by decide +kernel
theorem dX5_advance_10 : decode cX5_advance 10 = .ok (.if_icmp .ge 21, 3) := by decide +kernel
theorem dX5_advance_13 : decode cX5_advance 13 = .ok (.aload_n 0, 1) := by decide +kernel
theorem dX5_advance_14 : decode cX5_advance 14 = .ok (.getfield 9, 3) := by decide +kernel
theorem dX5_advance_17 : decode cX5_advance 17 = .ok (.iload_n 1, 1) := by decide +kernel
theorem dX5_advance_18 : decode cX5_advance 18 = .ok (.baload, 1) := by decide +kernel
theorem dX5_advance_19 : decode cX5_advance 19 = .ok (.invokestatic 43, 3) := by decide +kernel
theorem dX5_advance_22 : decode cX5_advance 22 = .ok (.ifCond .eq 9, 3) := by decide +kernel
theorem dX5_advance_25 : decode cX5_advance 25 = .ok (.iinc 1 1, 3) := by decide +kernel
theorem dX5_advance_28 : decode cX5_advance 28 = .ok (.goto (-23), 3) := by decide +kernel
theorem dX5_advance_31 : decode cX5_advance 31 = .ok (.aload_n 0, 1) := by decide +kernel
theorem dX5_advance_32 : decode cX5_advance 32 = .ok (.iload_n 1, 1) := by decide +kernel
theorem dX5_advance_33 : decode cX5_advance 33 = .ok (.putfield 47, 3) := by decide +kernel
theorem dX5_advance_36 : decode cX5_advance 36 = .ok (.aload_n 0, 1) := by decide +kernel
theorem dX5_advance_37 : decode cX5_advance 37 = .ok (.iconst 0, 1) := by decide +kernel
theorem dX5_advance_38 : decode cX5_advance 38 = .ok (.putfield 50, 3) := by decide +kernel
theorem dX5_advance_41 : decode cX5_advance 41 = .ok (.aload_n 0, 1) := by decide +kernel
theorem dX5_advance_42 : decode cX5_advance 42 = .ok (.iload_n 1, 1) := by decide +kernel
theorem dX5_advance_43 : decode cX5_advance 43 = .ok (.aload_n 0, 1) := by decide +kernel
theorem dX5_advance_44 : decode cX5_advance 44 = .ok (.getfield 34, 3) := by decide +kernel
theorem dX5_advance_47 : decode cX5_advance 47 = .ok (.if_icmp .ge 15, 3) := by decide +kernel
theorem dX5_advance_50 : decode cX5_advance 50 = .ok (.aload_n 0, 1) := by decide +kernel
theorem dX5_advance_51 : decode cX5_advance 51 = .ok (.getfield 9, 3) := by decide +kernel
theorem dX5_advance_54 : decode cX5_advance 54 = .ok (.iload_n 1, 1) := by decide +kernel
theorem dX5_advance_55 : decode cX5_advance 55 = .ok (.baload, 1) := by decide +kernel
theorem dX5_advance_56 : decode cX5_advance 56 = .ok (.invokestatic 53, 3) := by decide +kernel
theorem dX5_advance_59 : decode cX5_advance 59 = .ok (.goto 4, 3) := by decide +kernel
theorem dX5_advance_62 : decode cX5_advance 62 = .ok (.iconst 0, 1) := by decide +kernel
theorem dX5_advance_63 : decode cX5_advance 63 = .ok (.putfield 57, 3) := by decide +kernel
theorem dX5_advance_66 : decode cX5_advance 66 = .ok (.aload_n 0, 1) := by decide +kernel
theorem dX5_advance_67 : decode cX5_advance 67 = .ok (.getfield 57, 3) := by decide +kernel
theorem dX5_advance_70 : decode cX5_advance 70 = .ok (.iconst 3, 1) := by decide +kernel
theorem dX5_advance_71 : decode cX5_advance 71 = .ok (.if_icmp .ne 6, 3) := by decide +kernel
theorem dX5_advance_74 : decode cX5_advance 74 = .ok (.iinc 1 1, 3) := by decide +kernel
theorem dX5_advance_77 : decode cX5_advance 77 = .ok (.aload_n 0, 1) := by decide +kernel
theorem dX5_advance_78 : decode cX5_advance 78 = .ok (.getfield 57, 3) := by decide +kernel
theorem dX5_advance_81 : decode cX5_advance 81 = .ok (.iconst 1, 1) := by decide +kernel
theorem dX5_advance_82 : decode cX5_advance 82 = .ok (.if_icmp .ne 30, 3) := by decide +kernel
theorem dX5_advance_85 : decode cX5_advance 85 = .ok (.iload_n 1, 1) := by decide +kernel
theorem dX5_advance_86 : decode cX5_advance 86 = .ok (.aload_n 0, 1) := by decide +kernel
theorem dX5_advance_87 : decode cX5_advance 87 = .ok (.getfield 34, 3) := by decide +kernel
theorem dX5_advance_90 : decode cX5_advance 90 = .ok (.if_icmp .ge 22, 3) := by decide +kernel
theorem dX5_advance_93 : decode cX5_advance 93 = .ok (.aload_n 0, 1) := by decide +kernel
theorem dX5_advance_94 : decode cX5_advance 94 = .ok (.getfield 9, 3) := by decide +kernel
theorem dX5_advance_97 : decode cX5_advance 97 = .ok (.iload_n 1, 1) := by decide +kernel
theorem dX5_advance_98 : decode cX5_advance 98 = .ok (.baload, 1) := by decide +kernel
theorem dX5_advance_99 : decode cX5_advance 99 = .ok (.invokestatic 53, 3) := by decide +kernel
theorem dX5_advance_102 : decode cX5_advance 102 = .ok (.iconst 1, 1) := by decide +kernel
theorem dX5_advance_103 : decode cX5_advance 103 = .ok (.if_icmp .ne 9, 3) := by decide +kernel
theorem dX5_advance_106 : decode cX5_advance 106 = .ok (.iinc 1 1, 3) := by decide +kernel
theorem dX5_advance_109 : decode cX5_advance 109 = .ok (.goto (-32), 3) := by decide +kernel
theorem dX5_advance_112 : decode cX5_advance 112 = .ok (.aload_n 0, 1) := by decide +kernel
theorem dX5_advance_113 : decode cX5_advance 113 = .ok (.getfield 57, 3) := by decide +kernel
theorem dX5_advance_116 : decode cX5_advance 116 = .ok (.iconst 2, 1) := by decide +kernel
theorem dX5_advance_117 : decode cX5_advance 117 = .ok (.if_icmp .ne 68, 3) := by decide +kernel
theorem dX5_advance_120 : decode cX5_advance 120 = .ok (.iload_n 1, 1) := by decide +kernel
theorem dX5_advance_121 : decode cX5_advance 121 = .ok (.aload_n 0, 1) := by decide +kernel
theorem dX5_advance_122 : decode cX5_advance 122 = .ok (.getfield 34, 3) := by decide +kernel
theorem dX5_advance_125 : decode cX5_advance 125 = .ok (.if_icmp .ge 60, 3) := by decide +kernel
theorem dX5_advance_128 : decode cX5_advance 128 = .ok (.aload_n 0, 1) := by decide +kernel
theorem dX5_advance_129 : decode cX5_advance 129 = .ok (.getfield 9, 3) := by decide +kernel
theorem dX5_advance_132 : decode cX5_advance 132 = .ok (.iload_n 1, 1) := by decide +kernel
theorem dX5_advance_133 : decode cX5_advance 133 = .ok (.baload, 1) := by decide +kernel
theorem dX5_advance_134 : decode cX5_advance 134 = .ok (.invokestatic 53, 3) := by decide +kernel
theorem dX5_advance_137 : decode cX5_advance 137 = .ok (.iconst 2, 1) := by decide +kernel
theorem dX5_advance_138 : decode cX5_advance 138 = .ok (.if_icmp .ne 47, 3) := by decide +kernel
theorem dX5_advance_141 : decode cX5_advance 141 = .ok (.aload_n 0, 1) := by decide +kernel
theorem dX5_advance_142 : decode cX5_advance 142 = .ok (.iload_n 1, 1) := by decide +kernel
theorem dX5_advance_143 : decode cX5_advance 143 = .ok (.aload_n 0, 1) := by decide +kernel
theorem dX5_advance_144 : decode cX5_advance 144 = .ok (.getfield 47, 3) := by decide +kernel
theorem dX5_advance_147 : decode cX5_advance 147 = .ok (.isub, 1) := by decide +kernel
theorem dX5_advance_148 : decode cX5_advance 148 = .ok (.iconst 4, 1) := by decide +kernel
theorem dX5_advance_149 : decode cX5_advance 149 = .ok (.if_icmp .ge 23, 3) := by decide +kernel
theorem dX5_advance_152 : decode cX5_advance 152 = .ok (.aload_n 0, 1) := by decide +kernel
theorem dX5_advance_153 : decode cX5_advance 153 = .ok (.getfield 50, 3) := by decide +kernel
theorem dX5_advance_156 : decode cX5_advance 156 = .ok (.bipush 10, 2) := by decide +kernel
theorem dX5_advance_158 : decode cX5_advance 158 = .ok (.imul, 1) := by decide +kernel
theorem dX5_advance_159 : decode cX5_advance 159 = .ok (.aload_n 0, 1) := by decide +kernel
theorem dX5_advance_160 : decode cX5_advance 160 = .ok (.getfield 9, 3) := by decide +kernel
theorem dX5_advance_163 : decode cX5_advance 163 = .ok (.iload_n 1, 1) := by decide +kernel
theorem dX5_advance_164 : decode cX5_advance 164 = .ok (.baload, 1) := by decide +kernel
theorem dX5_advance_165 : decode cX5_advance 165 = .ok (.iadd, 1) := by decide +kernel
theorem dX5_advance_166 : decode cX5_advance 166 = .ok (.bipush 48, 2) := by decide +kernel
theorem dX5_advance_168 : decode cX5_advance 168 = .ok (.isub, 1) := by decide +kernel
theorem dX5_advance_169 : decode cX5_advance 169 = .ok (.goto 7, 3) := by decide +kernel
theorem dX5_advance_172 : decode cX5_advance 172 = .ok (.aload_n 0, 1) := by decide +kernel
theorem dX5_advance_173 : decode cX5_advance 173 = .ok (.getfield 50, 3) := by decide +kernel
theorem dX5_advance_176 : decode cX5_advance 176 = .ok (.putfield 50, 3) := by decide +kernel
theorem dX5_advance_179 : decode cX5_advance 179 = .ok (.iinc 1 1, 3) := by decide +kernel
theorem dX5_advance_182 : decode cX5_advance 182 = .ok (.goto (-70), 3) := by decide +kernel
theorem dX5_advance_185 : decode cX5_advance 185 = .ok (.aload_n 0, 1) := by decide +kernel
theorem dX5_advance_186 : decode cX5_advance 186 = .ok (.getfield 57, 3) := by decide +kernel
theorem dX5_advance_189 : decode cX5_advance 189 = .ok (.iconst 2, 1) := by decide +kernel
theorem dX5_advance_190 : decode cX5_advance 190 = .ok (.if_icmp .ne 18, 3) := by decide +kernel
theorem dX5_advance_193 : decode cX5_advance 193 = .ok (.iload_n 1, 1) := by decide +kernel
theorem dX5_advance_194 : decode cX5_advance 194 = .ok (.aload_n 0, 1) := by decide +kernel
theorem dX5_advance_195 : decode cX5_advance 195 = .ok (.getfield 47, 3) := by decide +kernel
theorem dX5_advance_198 : decode cX5_advance 198 = .ok (.isub, 1) := by decide +kernel
theorem dX5_advance_199 : decode cX5_advance 199 = .ok (.iconst 4, 1) := by decide +kernel
theorem dX5_advance_200 : decode cX5_advance 200 = .ok (.if_icmp .le 8, 3) := by decide +kernel
theorem dX5_advance_203 : decode cX5_advance 203 = .ok (.aload_n 0, 1) := by decide +kernel
theorem dX5_advance_204 : decode cX5_advance 204 = .ok (.iconst 4, 1) := by decide +kernel
theorem dX5_advance_205 : decode cX5_advance 205 = .ok (.putfield 57, 3) := by decide +kernel
theorem dX5_advance_208 : decode cX5_advance 208 = .ok (.aload_n 0, 1) := by decide +kernel
theorem dX5_advance_209 : decode cX5_advance 209 = .ok (.iload_n 1, 1) := by decide +kernel
theorem dX5_advance_210 : decode cX5_advance 210 = .ok (.putfield 37, 3) := by decide +kernel
theorem dX5_advance_213 : decode cX5_advance 213 = .ok (.return_, 1) := by decide +kernel
noncomputable def f_X5_advance_5 (v1 : Int32) (σ : am_H) : Option ((Int32) ⊕ (Int32)) :=
  if v1 < (σ.1 5 0 2) then
   ((am_ix 600 v1).bind fun j2 =>
   (f_X5_isBlank (σ.1 600 0 j2) σ).bind fun p3 =>
   if p3 = true then
    (some (.inl (v1 + 1)))
   else
   some (.inr v1))
  else
  some (.inr v1)
set_option maxRecDepth 100000 in
set_option maxHeartbeats 4000000 in
theorem q_X5_advance_5 {X : am_X} (hX : am_wC X) {Q : Option Value → am_H → Prop} (v1 : Int32) (σ : am_H) {o : (Int32) ⊕ (Int32)} (hf : f_X5_advance_5 v1 σ = some o) (hk0 : ∀ s, o = .inl s → am_G X gm_X5_advance Q 5 [(0, .ref (am_ad X 5 0)), (1, .int s)] [] σ) (hk1 : ∀ t, o = .inr t → am_G X gm_X5_advance Q 31 [(0, .ref (am_ad X 5 0)), (1, .int t)] [] σ) : am_G X gm_X5_advance Q 5 [(0, .ref (am_ad X 5 0)), (1, .int v1)] [] σ := by
  unfold f_X5_advance_5 at hf
  refine g_iload_n (pc := 5) 1 rfl dX5_advance_5 rfl ?_
  refine g_aload_n (pc := 6) 0 rfl dX5_advance_6 rfl ?_
  refine g_getI (pc := 7) (in_5 hX.1 (by omega)) fr_X5_34 dX5_advance_7 ?_
  refine bi_ge (pc := 10) 31 dX5_advance_10 rfl (fun c1 => ?_) (fun c1 => ?_)
  · replace hf := am_ifT c1 hf
    refine g_aload_n (pc := 13) 0 rfl dX5_advance_13 rfl ?_
    refine g_getC (pc := 14) (e := 0) (in_5 hX.1 (by omega)) fr_X5_9 dX5_advance_14 rfl ?_
    refine g_iload_n (pc := 17) 1 rfl dX5_advance_17 rfl ?_
    obtain ⟨j2, hj2, hf⟩ := am_bd hf
    have gj2 := am_ix_lt hj2
    refine g_aB (pc := 18) (in_600 hX.1 (by omega)) ak_600 hj2 dX5_advance_18 ?_
    obtain ⟨p3, hp3, hf⟩ := am_bd hf
    refine g_cS (pc := 19) (As := [.int (σ.1 600 0 j2)]) (st := []) (st1 := [.int (am_b p3)]) mS_X5_isBlank ln_X5_43 rfl (Nat.le_of_ble_eq_true rfl) (Nat.le_of_ble_eq_true rfl) (k_X5_isBlank hX (σ.1 600 0 j2) σ hp3) dX5_advance_19 rfl rfl ?_
    refine bt_eq (pc := 22) 31 dX5_advance_22 rfl (fun c4 => ?_) (fun c4 => ?_)
    · replace hf := am_ifT c4 hf
      refine g_iinc (pc := 25) (v := (v1 + 1)) 1 [(1, .int (v1 + 1)), (0, .ref (am_ad X 5 0))] dX5_advance_25 rfl rfl (Nat.le_of_ble_eq_true rfl) rfl ?_
      refine g_goto (pc := 28) 5 dX5_advance_28 rfl ?_
      have hz := hk0 _ (Option.some.inj hf).symm
      exact am_sub [1, 0] rfl hz
    replace hf := am_ifF c4 hf
    have hz := hk1 _ (Option.some.inj hf).symm
    exact hz
  replace hf := am_ifF c1 hf
  have hz := hk1 _ (Option.some.inj hf).symm
  exact hz
set_option maxRecDepth 100000 in
set_option maxHeartbeats 4000000 in
theorem l_X5_advance_5 {X : am_X} (hX : am_wC X) {Q : Option Value → am_H → Prop} (σ : am_H) (s : Int32) {o : Int32} (hf : am_loop (fun s => f_X5_advance_5 s σ) s = some o) (hk1 : ∀ t, o = t → am_G X gm_X5_advance Q 31 [(0, .ref (am_ad X 5 0)), (1, .int t)] [] σ) : am_G X gm_X5_advance Q 5 [(0, .ref (am_ad X 5 0)), (1, .int s)] [] σ := by
  refine am_loop_ind (P := fun s => am_G X gm_X5_advance Q 5 [(0, .ref (am_ad X 5 0)), (1, .int s)] [] σ) (K := fun r => r = o) ?_ hf rfl
  intro s o1 hb hi hr
  exact q_X5_advance_5 hX s  σ hb hi (fun t e => hk1 t (hr _ e).symm)
noncomputable def f_X5_advance_77 (v1 : Int32) (σ : am_H) : Option ((Int32) ⊕ (Int32)) :=
  if (σ.1 5 0 3) = 1 then
   (if v1 < (σ.1 5 0 2) then
    ((am_ix 600 v1).bind fun j3 =>
    (f_X5_sortOf (σ.1 600 0 j3) σ).bind fun p4 =>
    if p4 = 1 then
     (some (.inl (v1 + 1)))
    else
    some (.inr v1))
   else
   some (.inr v1))
  else
  some (.inr v1)
set_option maxRecDepth 100000 in
set_option maxHeartbeats 4000000 in
theorem q_X5_advance_77 {X : am_X} (hX : am_wC X) {Q : Option Value → am_H → Prop} (v1 : Int32) (σ : am_H) {o : (Int32) ⊕ (Int32)} (hf : f_X5_advance_77 v1 σ = some o) (hk0 : ∀ s, o = .inl s → am_G X gm_X5_advance Q 77 [(0, .ref (am_ad X 5 0)), (1, .int s)] [] σ) (hk1 : ∀ t, o = .inr t → am_G X gm_X5_advance Q 112 [(0, .ref (am_ad X 5 0)), (1, .int t)] [] σ) : am_G X gm_X5_advance Q 77 [(0, .ref (am_ad X 5 0)), (1, .int v1)] [] σ := by
  unfold f_X5_advance_77 at hf
  refine g_aload_n (pc := 77) 0 rfl dX5_advance_77 rfl ?_
  refine g_getI (pc := 78) (in_5 hX.1 (by omega)) fr_X5_57 dX5_advance_78 ?_
  refine g_iconst (pc := 81) (v := 1) dX5_advance_81 (by decide) ?_
  refine bi_ne (pc := 82) 112 dX5_advance_82 rfl (fun c1 => ?_) (fun c1 => ?_)
  · replace hf := am_ifT c1 hf
    refine g_iload_n (pc := 85) 1 rfl dX5_advance_85 rfl ?_
    refine g_aload_n (pc := 86) 0 rfl dX5_advance_86 rfl ?_
    refine g_getI (pc := 87) (in_5 hX.1 (by omega)) fr_X5_34 dX5_advance_87 ?_
    refine bi_ge (pc := 90) 112 dX5_advance_90 rfl (fun c2 => ?_) (fun c2 => ?_)
    · replace hf := am_ifT c2 hf
      refine g_aload_n (pc := 93) 0 rfl dX5_advance_93 rfl ?_
      refine g_getC (pc := 94) (e := 0) (in_5 hX.1 (by omega)) fr_X5_9 dX5_advance_94 rfl ?_
      refine g_iload_n (pc := 97) 1 rfl dX5_advance_97 rfl ?_
      obtain ⟨j3, hj3, hf⟩ := am_bd hf
      have gj3 := am_ix_lt hj3
      refine g_aB (pc := 98) (in_600 hX.1 (by omega)) ak_600 hj3 dX5_advance_98 ?_
      obtain ⟨p4, hp4, hf⟩ := am_bd hf
      refine g_cS (pc := 99) (As := [.int (σ.1 600 0 j3)]) (st := []) (st1 := [.int p4]) mS_X5_sortOf ln_X5_53 rfl (Nat.le_of_ble_eq_true rfl) (Nat.le_of_ble_eq_true rfl) (k_X5_sortOf hX (σ.1 600 0 j3) σ hp4) dX5_advance_99 rfl rfl ?_
      refine g_iconst (pc := 102) (v := 1) dX5_advance_102 (by decide) ?_
      refine bi_ne (pc := 103) 112 dX5_advance_103 rfl (fun c5 => ?_) (fun c5 => ?_)
      · replace hf := am_ifT c5 hf
        refine g_iinc (pc := 106) (v := (v1 + 1)) 1 [(1, .int (v1 + 1)), (0, .ref (am_ad X 5 0))] dX5_advance_106 rfl rfl (Nat.le_of_ble_eq_true rfl) rfl ?_
        refine g_goto (pc := 109) 77 dX5_advance_109 rfl ?_
        have hz := hk0 _ (Option.some.inj hf).symm
        exact am_sub [1, 0] rfl hz
      replace hf := am_ifF c5 hf
      have hz := hk1 _ (Option.some.inj hf).symm
      exact hz
    replace hf := am_ifF c2 hf
    have hz := hk1 _ (Option.some.inj hf).symm
    exact hz
  replace hf := am_ifF c1 hf
  have hz := hk1 _ (Option.some.inj hf).symm
  exact hz
set_option maxRecDepth 100000 in
set_option maxHeartbeats 4000000 in
theorem l_X5_advance_77 {X : am_X} (hX : am_wC X) {Q : Option Value → am_H → Prop} (σ : am_H) (s : Int32) {o : Int32} (hf : am_loop (fun s => f_X5_advance_77 s σ) s = some o) (hk1 : ∀ t, o = t → am_G X gm_X5_advance Q 112 [(0, .ref (am_ad X 5 0)), (1, .int t)] [] σ) : am_G X gm_X5_advance Q 77 [(0, .ref (am_ad X 5 0)), (1, .int s)] [] σ := by
  refine am_loop_ind (P := fun s => am_G X gm_X5_advance Q 77 [(0, .ref (am_ad X 5 0)), (1, .int s)] [] σ) (K := fun r => r = o) ?_ hf rfl
  intro s o1 hb hi hr
  exact q_X5_advance_77 hX s  σ hb hi (fun t e => hk1 t (hr _ e).symm)
noncomputable def f_X5_advance_176 (v1 : Int32) (k1 : Int32) (σ : am_H) : Option ((Int32 × am_H) ⊕ (Int32 × am_H)) :=
  (some (am_wI σ 5 0 6 k1)).bind fun s1 =>
  some (.inl ((v1 + 1), s1))
set_option maxRecDepth 100000 in
set_option maxHeartbeats 4000000 in
theorem q_X5_advance_176 {X : am_X} (hX : am_wC X) {Q : Option Value → am_H → Prop} (v1 : Int32) (k1 : Int32) (σ : am_H) {o : (Int32 × am_H) ⊕ (Int32 × am_H)} (hf : f_X5_advance_176 v1 k1 σ = some o) (hk0 : ∀ s, o = .inl s → am_G X gm_X5_advance Q 112 [(0, .ref (am_ad X 5 0)), (1, .int s.1)] [] s.2) (hk1 : ∀ t, o = .inr t → am_G X gm_X5_advance Q 185 [(0, .ref (am_ad X 5 0)), (1, .int t.1)] [] t.2) : am_G X gm_X5_advance Q 176 [(0, .ref (am_ad X 5 0)), (1, .int v1)] [.int k1, .ref (am_ad X 5 0)] σ := by
  unfold f_X5_advance_176 at hf
  obtain ⟨s1, hs1, hf⟩ := am_bd hf
  refine g_setI (pc := 176) (in_5 hX.1 (by omega)) fr_X5_50 dX5_advance_176 (Option.some.inj hs1) ?_
  refine g_iinc (pc := 179) (v := (v1 + 1)) 1 [(1, .int (v1 + 1)), (0, .ref (am_ad X 5 0))] dX5_advance_179 rfl rfl (Nat.le_of_ble_eq_true rfl) rfl ?_
  refine g_goto (pc := 182) 112 dX5_advance_182 rfl ?_
  have hz := hk0 _ (Option.some.inj hf).symm
  exact am_sub [1, 0] rfl hz
noncomputable def f_X5_advance_112 (v1 : Int32) (σ : am_H) : Option ((Int32 × am_H) ⊕ (Int32 × am_H)) :=
  if (σ.1 5 0 3) = 2 then
   (if v1 < (σ.1 5 0 2) then
    ((am_ix 600 v1).bind fun j3 =>
    (f_X5_sortOf (σ.1 600 0 j3) σ).bind fun p4 =>
    if p4 = 2 then
     (if (v1 - (σ.1 5 0 4)) < 4 then
      ((am_ix 600 v1).bind fun j7 =>
      f_X5_advance_176 v1 ((((σ.1 5 0 6) * 10) + (σ.1 600 0 j7)) - 48) σ)
     else
     f_X5_advance_176 v1 (σ.1 5 0 6) σ)
    else
    some (.inr (v1, σ)))
   else
   some (.inr (v1, σ)))
  else
  some (.inr (v1, σ))
set_option maxRecDepth 100000 in
set_option maxHeartbeats 4000000 in
theorem q_X5_advance_112 {X : am_X} (hX : am_wC X) {Q : Option Value → am_H → Prop} (v1 : Int32) (σ : am_H) {o : (Int32 × am_H) ⊕ (Int32 × am_H)} (hf : f_X5_advance_112 v1 σ = some o) (hk0 : ∀ s, o = .inl s → am_G X gm_X5_advance Q 112 [(0, .ref (am_ad X 5 0)), (1, .int s.1)] [] s.2) (hk1 : ∀ t, o = .inr t → am_G X gm_X5_advance Q 185 [(0, .ref (am_ad X 5 0)), (1, .int t.1)] [] t.2) : am_G X gm_X5_advance Q 112 [(0, .ref (am_ad X 5 0)), (1, .int v1)] [] σ := by
  unfold f_X5_advance_112 at hf
  refine g_aload_n (pc := 112) 0 rfl dX5_advance_112 rfl ?_
  refine g_getI (pc := 113) (in_5 hX.1 (by omega)) fr_X5_57 dX5_advance_113 ?_
  refine g_iconst (pc := 116) (v := 2) dX5_advance_116 (by decide) ?_
  refine bi_ne (pc := 117) 185 dX5_advance_117 rfl (fun c1 => ?_) (fun c1 => ?_)
  · replace hf := am_ifT c1 hf
    refine g_iload_n (pc := 120) 1 rfl dX5_advance_120 rfl ?_
    refine g_aload_n (pc := 121) 0 rfl dX5_advance_121 rfl ?_
    refine g_getI (pc := 122) (in_5 hX.1 (by omega)) fr_X5_34 dX5_advance_122 ?_
    refine bi_ge (pc := 125) 185 dX5_advance_125 rfl (fun c2 => ?_) (fun c2 => ?_)
    · replace hf := am_ifT c2 hf
      refine g_aload_n (pc := 128) 0 rfl dX5_advance_128 rfl ?_
      refine g_getC (pc := 129) (e := 0) (in_5 hX.1 (by omega)) fr_X5_9 dX5_advance_129 rfl ?_
      refine g_iload_n (pc := 132) 1 rfl dX5_advance_132 rfl ?_
      obtain ⟨j3, hj3, hf⟩ := am_bd hf
      have gj3 := am_ix_lt hj3
      refine g_aB (pc := 133) (in_600 hX.1 (by omega)) ak_600 hj3 dX5_advance_133 ?_
      obtain ⟨p4, hp4, hf⟩ := am_bd hf
      refine g_cS (pc := 134) (As := [.int (σ.1 600 0 j3)]) (st := []) (st1 := [.int p4]) mS_X5_sortOf ln_X5_53 rfl (Nat.le_of_ble_eq_true rfl) (Nat.le_of_ble_eq_true rfl) (k_X5_sortOf hX (σ.1 600 0 j3) σ hp4) dX5_advance_134 rfl rfl ?_
      refine g_iconst (pc := 137) (v := 2) dX5_advance_137 (by decide) ?_
      refine bi_ne (pc := 138) 185 dX5_advance_138 rfl (fun c5 => ?_) (fun c5 => ?_)
      · replace hf := am_ifT c5 hf
        refine g_aload_n (pc := 141) 0 rfl dX5_advance_141 rfl ?_
        refine g_iload_n (pc := 142) 1 rfl dX5_advance_142 rfl ?_
        refine g_aload_n (pc := 143) 0 rfl dX5_advance_143 rfl ?_
        refine g_getI (pc := 144) (in_5 hX.1 (by omega)) fr_X5_47 dX5_advance_144 ?_
        refine g_isub (pc := 147) dX5_advance_147 ?_
        refine g_iconst (pc := 148) (v := 4) dX5_advance_148 (by decide) ?_
        refine bi_ge (pc := 149) 172 dX5_advance_149 rfl (fun c6 => ?_) (fun c6 => ?_)
        · replace hf := am_ifT c6 hf
          refine g_aload_n (pc := 152) 0 rfl dX5_advance_152 rfl ?_
          refine g_getI (pc := 153) (in_5 hX.1 (by omega)) fr_X5_50 dX5_advance_153 ?_
          refine g_bipush (pc := 156) (v := 10) dX5_advance_156 (by decide) ?_
          refine g_imul (pc := 158) dX5_advance_158 ?_
          refine g_aload_n (pc := 159) 0 rfl dX5_advance_159 rfl ?_
          refine g_getC (pc := 160) (e := 0) (in_5 hX.1 (by omega)) fr_X5_9 dX5_advance_160 rfl ?_
          refine g_iload_n (pc := 163) 1 rfl dX5_advance_163 rfl ?_
          obtain ⟨j7, hj7, hf⟩ := am_bd hf
          have gj7 := am_ix_lt hj7
          refine g_aB (pc := 164) (in_600 hX.1 (by omega)) ak_600 hj7 dX5_advance_164 ?_
          refine g_iadd (pc := 165) dX5_advance_165 ?_
          refine g_bipush (pc := 166) (v := 48) dX5_advance_166 (by decide) ?_
          refine g_isub (pc := 168) dX5_advance_168 ?_
          refine g_goto (pc := 169) 176 dX5_advance_169 rfl ?_
          exact q_X5_advance_176 hX v1 ((((σ.1 5 0 6) * 10) + (σ.1 600 0 j7)) - 48) σ hf hk0 hk1
        replace hf := am_ifF c6 hf
        refine g_aload_n (pc := 172) 0 rfl dX5_advance_172 rfl ?_
        refine g_getI (pc := 173) (in_5 hX.1 (by omega)) fr_X5_50 dX5_advance_173 ?_
        exact q_X5_advance_176 hX v1 (σ.1 5 0 6) σ hf hk0 hk1
      replace hf := am_ifF c5 hf
      have hz := hk1 _ (Option.some.inj hf).symm
      exact hz
    replace hf := am_ifF c2 hf
    have hz := hk1 _ (Option.some.inj hf).symm
    exact hz
  replace hf := am_ifF c1 hf
  have hz := hk1 _ (Option.some.inj hf).symm
  exact hz
set_option maxRecDepth 100000 in
set_option maxHeartbeats 4000000 in
theorem l_X5_advance_112 {X : am_X} (hX : am_wC X) {Q : Option Value → am_H → Prop} (σ : am_H) (s : Int32 × am_H) {o : Int32 × am_H} (hf : am_loop (fun s => f_X5_advance_112 s.1 s.2) s = some o) (hk1 : ∀ t, o = t → am_G X gm_X5_advance Q 185 [(0, .ref (am_ad X 5 0)), (1, .int t.1)] [] t.2) : am_G X gm_X5_advance Q 112 [(0, .ref (am_ad X 5 0)), (1, .int s.1)] [] s.2 := by
  refine am_loop_ind (P := fun s => am_G X gm_X5_advance Q 112 [(0, .ref (am_ad X 5 0)), (1, .int s.1)] [] s.2) (K := fun r => r = o) ?_ hf rfl
  intro s o1 hb hi hr
  exact q_X5_advance_112 hX s.1  s.2 hb hi (fun t e => hk1 t (hr _ e).symm)
noncomputable def f_X5_advance_208 (v1 : Int32) (σ : am_H) : Option (am_H) :=
  (some (am_wI σ 5 0 5 v1)).bind fun s1 =>
  some s1
set_option maxRecDepth 100000 in
set_option maxHeartbeats 4000000 in
theorem q_X5_advance_208 {X : am_X} (hX : am_wC X) {Q : Option Value → am_H → Prop} (v1 : Int32) (σ : am_H) {o : am_H} (hf : f_X5_advance_208 v1 σ = some o) (hk : Q none o) : am_G X gm_X5_advance Q 208 [(0, .ref (am_ad X 5 0)), (1, .int v1)] [] σ := by
  unfold f_X5_advance_208 at hf
  refine g_aload_n (pc := 208) 0 rfl dX5_advance_208 rfl ?_
  refine g_iload_n (pc := 209) 1 rfl dX5_advance_209 rfl ?_
  obtain ⟨s1, hs1, hf⟩ := am_bd hf
  refine g_setI (pc := 210) (in_5 hX.1 (by omega)) fr_X5_37 dX5_advance_210 (Option.some.inj hs1) ?_
  have ho := Option.some.inj hf
  subst ho
  exact g_vreturn (pc := 213) (st := []) rfl dX5_advance_213 hk
noncomputable def f_X5_advance_63 (v1 : Int32) (k1 : Int32) (σ : am_H) : Option (am_H) :=
  (some (am_wI σ 5 0 3 k1)).bind fun s1 =>
  if (s1.1 5 0 3) = 3 then
   ((am_loop (fun s => f_X5_advance_77 s s1) (v1 + 1)).bind fun w3 =>
   (am_loop (fun s => f_X5_advance_112 s.1 s.2) (w3, s1)).bind fun w4 =>
   if (w4.2.1 5 0 3) = 2 then
    (if 4 < (w4.1 - (w4.2.1 5 0 4)) then
     ((some (am_wI w4.2 5 0 3 4)).bind fun s7 =>
     f_X5_advance_208 w4.1 s7)
    else
    f_X5_advance_208 w4.1 w4.2)
   else
   f_X5_advance_208 w4.1 w4.2)
  else
  (am_loop (fun s => f_X5_advance_77 s s1) v1).bind fun w8 =>
  (am_loop (fun s => f_X5_advance_112 s.1 s.2) (w8, s1)).bind fun w9 =>
  if (w9.2.1 5 0 3) = 2 then
   (if 4 < (w9.1 - (w9.2.1 5 0 4)) then
    ((some (am_wI w9.2 5 0 3 4)).bind fun s12 =>
    f_X5_advance_208 w9.1 s12)
   else
   f_X5_advance_208 w9.1 w9.2)
  else
  f_X5_advance_208 w9.1 w9.2
set_option maxRecDepth 100000 in
set_option maxHeartbeats 4000000 in
theorem q_X5_advance_63 {X : am_X} (hX : am_wC X) {Q : Option Value → am_H → Prop} (v1 : Int32) (k1 : Int32) (σ : am_H) {o : am_H} (hf : f_X5_advance_63 v1 k1 σ = some o) (hk : Q none o) : am_G X gm_X5_advance Q 63 [(0, .ref (am_ad X 5 0)), (1, .int v1)] [.int k1, .ref (am_ad X 5 0)] σ := by
  unfold f_X5_advance_63 at hf
  obtain ⟨s1, hs1, hf⟩ := am_bd hf
  refine g_setI (pc := 63) (in_5 hX.1 (by omega)) fr_X5_57 dX5_advance_63 (Option.some.inj hs1) ?_
  refine g_aload_n (pc := 66) 0 rfl dX5_advance_66 rfl ?_
  refine g_getI (pc := 67) (in_5 hX.1 (by omega)) fr_X5_57 dX5_advance_67 ?_
  refine g_iconst (pc := 70) (v := 3) dX5_advance_70 (by decide) ?_
  refine bi_ne (pc := 71) 77 dX5_advance_71 rfl (fun c2 => ?_) (fun c2 => ?_)
  · replace hf := am_ifT c2 hf
    refine g_iinc (pc := 74) (v := (v1 + 1)) 1 [(1, .int (v1 + 1)), (0, .ref (am_ad X 5 0))] dX5_advance_74 rfl rfl (Nat.le_of_ble_eq_true rfl) rfl ?_
    obtain ⟨w3, hw3, hf⟩ := am_bd hf
    refine am_sub [1, 0] rfl (l_X5_advance_77 hX  s1 (v1 + 1) hw3 ?_)
    intro t e
    subst e
    obtain ⟨w4, hw4, hf⟩ := am_bd hf
    refine (l_X5_advance_112 hX  s1 (w3, s1) hw4 ?_)
    intro t e
    subst e
    refine g_aload_n (pc := 185) 0 rfl dX5_advance_185 rfl ?_
    refine g_getI (pc := 186) (in_5 hX.1 (by omega)) fr_X5_57 dX5_advance_186 ?_
    refine g_iconst (pc := 189) (v := 2) dX5_advance_189 (by decide) ?_
    refine bi_ne (pc := 190) 208 dX5_advance_190 rfl (fun c5 => ?_) (fun c5 => ?_)
    · replace hf := am_ifT c5 hf
      refine g_iload_n (pc := 193) 1 rfl dX5_advance_193 rfl ?_
      refine g_aload_n (pc := 194) 0 rfl dX5_advance_194 rfl ?_
      refine g_getI (pc := 195) (in_5 hX.1 (by omega)) fr_X5_47 dX5_advance_195 ?_
      refine g_isub (pc := 198) dX5_advance_198 ?_
      refine g_iconst (pc := 199) (v := 4) dX5_advance_199 (by decide) ?_
      refine bi_le (pc := 200) 208 dX5_advance_200 rfl (fun c6 => ?_) (fun c6 => ?_)
      · replace hf := am_ifT c6 hf
        refine g_aload_n (pc := 203) 0 rfl dX5_advance_203 rfl ?_
        refine g_iconst (pc := 204) (v := 4) dX5_advance_204 (by decide) ?_
        obtain ⟨s7, hs7, hf⟩ := am_bd hf
        refine g_setI (pc := 205) (in_5 hX.1 (by omega)) fr_X5_57 dX5_advance_205 (Option.some.inj hs7) ?_
        exact q_X5_advance_208 hX w4.1 s7 hf hk
      replace hf := am_ifF c6 hf
      exact q_X5_advance_208 hX w4.1 w4.2 hf hk
    replace hf := am_ifF c5 hf
    exact q_X5_advance_208 hX w4.1 w4.2 hf hk
  replace hf := am_ifF c2 hf
  obtain ⟨w8, hw8, hf⟩ := am_bd hf
  refine (l_X5_advance_77 hX  s1 v1 hw8 ?_)
  intro t e
  subst e
  obtain ⟨w9, hw9, hf⟩ := am_bd hf
  refine (l_X5_advance_112 hX  s1 (w8, s1) hw9 ?_)
  intro t e
  subst e
  refine g_aload_n (pc := 185) 0 rfl dX5_advance_185 rfl ?_
  refine g_getI (pc := 186) (in_5 hX.1 (by omega)) fr_X5_57 dX5_advance_186 ?_
  refine g_iconst (pc := 189) (v := 2) dX5_advance_189 (by decide) ?_
  refine bi_ne (pc := 190) 208 dX5_advance_190 rfl (fun c10 => ?_) (fun c10 => ?_)
  · replace hf := am_ifT c10 hf
    refine g_iload_n (pc := 193) 1 rfl dX5_advance_193 rfl ?_
    refine g_aload_n (pc := 194) 0 rfl dX5_advance_194 rfl ?_
    refine g_getI (pc := 195) (in_5 hX.1 (by omega)) fr_X5_47 dX5_advance_195 ?_
    refine g_isub (pc := 198) dX5_advance_198 ?_
    refine g_iconst (pc := 199) (v := 4) dX5_advance_199 (by decide) ?_
    refine bi_le (pc := 200) 208 dX5_advance_200 rfl (fun c11 => ?_) (fun c11 => ?_)
    · replace hf := am_ifT c11 hf
      refine g_aload_n (pc := 203) 0 rfl dX5_advance_203 rfl ?_
      refine g_iconst (pc := 204) (v := 4) dX5_advance_204 (by decide) ?_
      obtain ⟨s12, hs12, hf⟩ := am_bd hf
      refine g_setI (pc := 205) (in_5 hX.1 (by omega)) fr_X5_57 dX5_advance_205 (Option.some.inj hs12) ?_
      exact q_X5_advance_208 hX w9.1 s12 hf hk
    replace hf := am_ifF c11 hf
    exact q_X5_advance_208 hX w9.1 w9.2 hf hk
  replace hf := am_ifF c10 hf
  exact q_X5_advance_208 hX w9.1 w9.2 hf hk
noncomputable def f_X5_advance (σ : am_H) : Option (am_H) :=
  (am_loop (fun s => f_X5_advance_5 s σ) (σ.1 5 0 5)).bind fun w1 =>
  (some (am_wI σ 5 0 4 w1)).bind fun s2 =>
  (some (am_wI s2 5 0 6 0)).bind fun s3 =>
  if w1 < (s3.1 5 0 2) then
   ((am_ix 600 w1).bind fun j5 =>
   (f_X5_sortOf (s3.1 600 0 j5) s3).bind fun p6 =>
   f_X5_advance_63 w1 p6 s3)
  else
  f_X5_advance_63 w1 0 s3
set_option maxRecDepth 100000 in
set_option maxHeartbeats 4000000 in
theorem q_X5_advance {X : am_X} (hX : am_wC X) {Q : Option Value → am_H → Prop} (σ : am_H) {o : am_H} (hf : f_X5_advance σ = some o) (hk : Q none o) : am_G X gm_X5_advance Q 0 [(0, .ref (am_ad X 5 0))] [] σ := by
  unfold f_X5_advance at hf
  refine g_aload_n (pc := 0) 0 rfl dX5_advance_0 rfl ?_
  refine g_getI (pc := 1) (in_5 hX.1 (by omega)) fr_X5_37 dX5_advance_1 ?_
  refine g_istore_n (pc := 4) [(1, .int (σ.1 5 0 5)), (0, .ref (am_ad X 5 0))] dX5_advance_4 rfl (Nat.le_of_ble_eq_true rfl) rfl ?_
  obtain ⟨w1, hw1, hf⟩ := am_bd hf
  refine am_sub [1, 0] rfl (l_X5_advance_5 hX  σ (σ.1 5 0 5) hw1 ?_)
  intro t e
  subst e
  refine g_aload_n (pc := 31) 0 rfl dX5_advance_31 rfl ?_
  refine g_iload_n (pc := 32) 1 rfl dX5_advance_32 rfl ?_
  obtain ⟨s2, hs2, hf⟩ := am_bd hf
  refine g_setI (pc := 33) (in_5 hX.1 (by omega)) fr_X5_47 dX5_advance_33 (Option.some.inj hs2) ?_
  refine g_aload_n (pc := 36) 0 rfl dX5_advance_36 rfl ?_
  refine g_iconst (pc := 37) (v := 0) dX5_advance_37 (by decide) ?_
  obtain ⟨s3, hs3, hf⟩ := am_bd hf
  refine g_setI (pc := 38) (in_5 hX.1 (by omega)) fr_X5_50 dX5_advance_38 (Option.some.inj hs3) ?_
  refine g_aload_n (pc := 41) 0 rfl dX5_advance_41 rfl ?_
  refine g_iload_n (pc := 42) 1 rfl dX5_advance_42 rfl ?_
  refine g_aload_n (pc := 43) 0 rfl dX5_advance_43 rfl ?_
  refine g_getI (pc := 44) (in_5 hX.1 (by omega)) fr_X5_34 dX5_advance_44 ?_
  refine bi_ge (pc := 47) 62 dX5_advance_47 rfl (fun c4 => ?_) (fun c4 => ?_)
  · replace hf := am_ifT c4 hf
    refine g_aload_n (pc := 50) 0 rfl dX5_advance_50 rfl ?_
    refine g_getC (pc := 51) (e := 0) (in_5 hX.1 (by omega)) fr_X5_9 dX5_advance_51 rfl ?_
    refine g_iload_n (pc := 54) 1 rfl dX5_advance_54 rfl ?_
    obtain ⟨j5, hj5, hf⟩ := am_bd hf
    have gj5 := am_ix_lt hj5
    refine g_aB (pc := 55) (in_600 hX.1 (by omega)) ak_600 hj5 dX5_advance_55 ?_
    obtain ⟨p6, hp6, hf⟩ := am_bd hf
    refine g_cS (pc := 56) (As := [.int (s3.1 600 0 j5)]) (st := [.ref (am_ad X 5 0)]) (st1 := [.int p6, .ref (am_ad X 5 0)]) mS_X5_sortOf ln_X5_53 rfl (Nat.le_of_ble_eq_true rfl) (Nat.le_of_ble_eq_true rfl) (k_X5_sortOf hX (s3.1 600 0 j5) s3 hp6) dX5_advance_56 rfl rfl ?_
    refine g_goto (pc := 59) 63 dX5_advance_59 rfl ?_
    exact q_X5_advance_63 hX w1 p6 s3 hf hk
  replace hf := am_ifF c4 hf
  refine g_iconst (pc := 62) (v := 0) dX5_advance_62 (by decide) ?_
  exact q_X5_advance_63 hX w1 0 s3 hf hk
theorem k_X5_advance {X : am_X} (hX : am_wC X) (σ : am_H) {o : am_H} (hf : f_X5_advance σ = some o) : am_C X gm_X5_advance [.ref (am_ad X 5 0)] σ (am_is none o) :=
  am_ofG rfl (Nat.le_of_ble_eq_true rfl) rfl (q_X5_advance hX σ hf ⟨rfl, rfl⟩)
theorem dX5_isKept_0 : decode cX5_isKept 0 = .ok (.aload_n 0, 1) := by decide +kernel
theorem dX5_isKept_1 : decode cX5_isKept 1 = .ok (.ldc 76, 2) := by decide +kernel
theorem dX5_isKept_3 : decode cX5_isKept 3 = .ok (.invokevirtual 78, 3) := by decide +kernel
theorem dX5_isKept_6 : decode cX5_isKept 6 = .ok (.ifCond .ne 84, 3) := by decide +kernel
theorem dX5_isKept_9 : decode cX5_isKept 9 = .ok (.aload_n 0, 1) := by decide +kernel
theorem dX5_isKept_10 : decode cX5_isKept 10 = .ok (.ldc 82, 2) := by decide +kernel
theorem dX5_isKept_12 : decode cX5_isKept 12 = .ok (.invokevirtual 78, 3) := by decide +kernel
theorem dX5_isKept_15 : decode cX5_isKept 15 = .ok (.ifCond .ne 75, 3) := by decide +kernel
theorem dX5_isKept_18 : decode cX5_isKept 18 = .ok (.aload_n 0, 1) := by decide +kernel
theorem dX5_isKept_19 : decode cX5_isKept 19 = .ok (.ldc 84, 2) := by decide +kernel
theorem dX5_isKept_21 : decode cX5_isKept 21 = .ok (.invokevirtual 78, 3) := by decide +kernel
theorem dX5_isKept_24 : decode cX5_isKept 24 = .ok (.ifCond .ne 66, 3) := by decide +kernel
theorem dX5_isKept_27 : decode cX5_isKept 27 = .ok (.aload_n 0, 1) := by decide +kernel
theorem dX5_isKept_28 : decode cX5_isKept 28 = .ok (.ldc 86, 2) := by decide +kernel
theorem dX5_isKept_30 : decode cX5_isKept 30 = .ok (.invokevirtual 78, 3) := by decide +kernel
theorem dX5_isKept_33 : decode cX5_isKept 33 = .ok (.ifCond .ne 57, 3) := by decide +kernel
theorem dX5_isKept_36 : decode cX5_isKept 36 = .ok (.aload_n 0, 1) := by decide +kernel
theorem dX5_isKept_37 : decode cX5_isKept 37 = .ok (.ldc 88, 2) := by decide +kernel
theorem dX5_isKept_39 : decode cX5_isKept 39 = .ok (.invokevirtual 78, 3) := by decide +kernel
theorem dX5_isKept_42 : decode cX5_isKept 42 = .ok (.ifCond .ne 48, 3) := by decide +kernel
theorem dX5_isKept_45 : decode cX5_isKept 45 = .ok (.aload_n 0, 1) := by decide +kernel
theorem dX5_isKept_46 : decode cX5_isKept 46 = .ok (.ldc 90, 2) := by decide +kernel
theorem dX5_isKept_48 : decode cX5_isKept 48 = .ok (.invokevirtual 78, 3) := by decide +kernel
theorem dX5_isKept_51 : decode cX5_isKept 51 = .ok (.ifCond .ne 39, 3) := by decide +kernel
theorem dX5_isKept_54 : decode cX5_isKept 54 = .ok (.aload_n 0, 1) := by decide +kernel
theorem dX5_isKept_55 : decode cX5_isKept 55 = .ok (.ldc 92, 2) := by decide +kernel
theorem dX5_isKept_57 : decode cX5_isKept 57 = .ok (.invokevirtual 78, 3) := by decide +kernel
theorem dX5_isKept_60 : decode cX5_isKept 60 = .ok (.ifCond .ne 30, 3) := by decide +kernel
theorem dX5_isKept_63 : decode cX5_isKept 63 = .ok (.aload_n 0, 1) := by decide +kernel
theorem dX5_isKept_64 : decode cX5_isKept 64 = .ok (.ldc 94, 2) := by decide +kernel
theorem dX5_isKept_66 : decode cX5_isKept 66 = .ok (.invokevirtual 78, 3) := by decide +kernel
theorem dX5_isKept_69 : decode cX5_isKept 69 = .ok (.ifCond .ne 21, 3) := by decide +kernel
theorem dX5_isKept_72 : decode cX5_isKept 72 = .ok (.aload_n 0, 1) := by decide +kernel
theorem dX5_isKept_73 : decode cX5_isKept 73 = .ok (.ldc 96, 2) := by decide +kernel
theorem dX5_isKept_75 : decode cX5_isKept 75 = .ok (.invokevirtual 78, 3) := by decide +kernel
theorem dX5_isKept_78 : decode cX5_isKept 78 = .ok (.ifCond .ne 12, 3) := by decide +kernel
theorem dX5_isKept_81 : decode cX5_isKept 81 = .ok (.aload_n 0, 1) := by decide +kernel
theorem dX5_isKept_82 : decode cX5_isKept 82 = .ok (.ldc 98, 2) := by decide +kernel
theorem dX5_isKept_84 : decode cX5_isKept 84 = .ok (.invokevirtual 78, 3) := by decide +kernel
theorem dX5_isKept_87 : decode cX5_isKept 87 = .ok (.ifCond .eq 7, 3) := by decide +kernel
theorem dX5_isKept_90 : decode cX5_isKept 90 = .ok (.iconst 1, 1) := by decide +kernel
theorem dX5_isKept_91 : decode cX5_isKept 91 = .ok (.goto 4, 3) := by decide +kernel
theorem dX5_isKept_94 : decode cX5_isKept 94 = .ok (.iconst 0, 1) := by decide +kernel
theorem dX5_isKept_95 : decode cX5_isKept 95 = .ok (.ireturn, 1) := by decide +kernel
noncomputable def f_X5_isKept (σ : am_H) : Option (Bool) :=
  (f_X5_isWord 0 σ).bind fun p1 =>
  if p1 = true then
   (some true)
  else
  (f_X5_isWord 1 σ).bind fun p3 =>
  if p3 = true then
   (some true)
  else
  (f_X5_isWord 2 σ).bind fun p5 =>
  if p5 = true then
   (some true)
  else
  (f_X5_isWord 3 σ).bind fun p7 =>
  if p7 = true then
   (some true)
  else
  (f_X5_isWord 4 σ).bind fun p9 =>
  if p9 = true then
   (some true)
  else
  (f_X5_isWord 5 σ).bind fun p11 =>
  if p11 = true then
   (some true)
  else
  (f_X5_isWord 6 σ).bind fun p13 =>
  if p13 = true then
   (some true)
  else
  (f_X5_isWord 7 σ).bind fun p15 =>
  if p15 = true then
   (some true)
  else
  (f_X5_isWord 8 σ).bind fun p17 =>
  if p17 = true then
   (some true)
  else
  (f_X5_isWord 9 σ).bind fun p19 =>
  if p19 = true then
   (some true)
  else
  some false
set_option maxRecDepth 100000 in
set_option maxHeartbeats 4000000 in
theorem q_X5_isKept {X : am_X} (hX : am_wC X) {Q : Option Value → am_H → Prop} (σ : am_H) {o : Bool} (hf : f_X5_isKept σ = some o) (hk : Q (some (.int (am_b o))) σ) : am_G X gm_X5_isKept Q 0 [(0, .ref (am_ad X 5 0))] [] σ := by
  unfold f_X5_isKept at hf
  refine g_aload_n (pc := 0) 0 rfl dX5_isKept_0 rfl ?_
  refine g_ldcS (pc := 1) 1 hX.2 rfl dX5_isKept_1 ?_
  obtain ⟨p1, hp1, hf⟩ := am_bd hf
  refine g_cV (pc := 3) (As := [.ref (am_kK X 0)]) (st := []) (st1 := [.int (am_b p1)]) (in_5 hX.1 (by omega)) kk_5 mV_X5_isWord ln_X5_78 rfl (Nat.le_of_ble_eq_true rfl) (Nat.le_of_ble_eq_true rfl) (k_X5_isWord hX 0 (by first | assumption | decide) σ hp1) dX5_isKept_3 rfl rfl ?_
  refine bt_ne (pc := 6) 90 dX5_isKept_6 rfl (fun c2 => ?_) (fun c2 => ?_)
  · replace hf := am_ifT c2 hf
    refine g_iconst (pc := 90) (v := 1) dX5_isKept_90 (by decide) ?_
    refine g_goto (pc := 91) 95 dX5_isKept_91 rfl ?_
    have ho := Option.some.inj hf
    subst ho
    exact g_zreturn (pc := 95) (st := []) (x := true) rfl dX5_isKept_95 hk
  replace hf := am_ifF c2 hf
  refine g_aload_n (pc := 9) 0 rfl dX5_isKept_9 rfl ?_
  refine g_ldcS (pc := 10) 2 hX.2 rfl dX5_isKept_10 ?_
  obtain ⟨p3, hp3, hf⟩ := am_bd hf
  refine g_cV (pc := 12) (As := [.ref (am_kK X 1)]) (st := []) (st1 := [.int (am_b p3)]) (in_5 hX.1 (by omega)) kk_5 mV_X5_isWord ln_X5_78 rfl (Nat.le_of_ble_eq_true rfl) (Nat.le_of_ble_eq_true rfl) (k_X5_isWord hX 1 (by first | assumption | decide) σ hp3) dX5_isKept_12 rfl rfl ?_
  refine bt_ne (pc := 15) 90 dX5_isKept_15 rfl (fun c4 => ?_) (fun c4 => ?_)
  · replace hf := am_ifT c4 hf
    refine g_iconst (pc := 90) (v := 1) dX5_isKept_90 (by decide) ?_
    refine g_goto (pc := 91) 95 dX5_isKept_91 rfl ?_
    have ho := Option.some.inj hf
    subst ho
    exact g_zreturn (pc := 95) (st := []) (x := true) rfl dX5_isKept_95 hk
  replace hf := am_ifF c4 hf
  refine g_aload_n (pc := 18) 0 rfl dX5_isKept_18 rfl ?_
  refine g_ldcS (pc := 19) 3 hX.2 rfl dX5_isKept_19 ?_
  obtain ⟨p5, hp5, hf⟩ := am_bd hf
  refine g_cV (pc := 21) (As := [.ref (am_kK X 2)]) (st := []) (st1 := [.int (am_b p5)]) (in_5 hX.1 (by omega)) kk_5 mV_X5_isWord ln_X5_78 rfl (Nat.le_of_ble_eq_true rfl) (Nat.le_of_ble_eq_true rfl) (k_X5_isWord hX 2 (by first | assumption | decide) σ hp5) dX5_isKept_21 rfl rfl ?_
  refine bt_ne (pc := 24) 90 dX5_isKept_24 rfl (fun c6 => ?_) (fun c6 => ?_)
  · replace hf := am_ifT c6 hf
    refine g_iconst (pc := 90) (v := 1) dX5_isKept_90 (by decide) ?_
    refine g_goto (pc := 91) 95 dX5_isKept_91 rfl ?_
    have ho := Option.some.inj hf
    subst ho
    exact g_zreturn (pc := 95) (st := []) (x := true) rfl dX5_isKept_95 hk
  replace hf := am_ifF c6 hf
  refine g_aload_n (pc := 27) 0 rfl dX5_isKept_27 rfl ?_
  refine g_ldcS (pc := 28) 4 hX.2 rfl dX5_isKept_28 ?_
  obtain ⟨p7, hp7, hf⟩ := am_bd hf
  refine g_cV (pc := 30) (As := [.ref (am_kK X 3)]) (st := []) (st1 := [.int (am_b p7)]) (in_5 hX.1 (by omega)) kk_5 mV_X5_isWord ln_X5_78 rfl (Nat.le_of_ble_eq_true rfl) (Nat.le_of_ble_eq_true rfl) (k_X5_isWord hX 3 (by first | assumption | decide) σ hp7) dX5_isKept_30 rfl rfl ?_
  refine bt_ne (pc := 33) 90 dX5_isKept_33 rfl (fun c8 => ?_) (fun c8 => ?_)
  · replace hf := am_ifT c8 hf
    refine g_iconst (pc := 90) (v := 1) dX5_isKept_90 (by decide) ?_
    refine g_goto (pc := 91) 95 dX5_isKept_91 rfl ?_
    have ho := Option.some.inj hf
    subst ho
    exact g_zreturn (pc := 95) (st := []) (x := true) rfl dX5_isKept_95 hk
  replace hf := am_ifF c8 hf
  refine g_aload_n (pc := 36) 0 rfl dX5_isKept_36 rfl ?_
  refine g_ldcS (pc := 37) 5 hX.2 rfl dX5_isKept_37 ?_
  obtain ⟨p9, hp9, hf⟩ := am_bd hf
  refine g_cV (pc := 39) (As := [.ref (am_kK X 4)]) (st := []) (st1 := [.int (am_b p9)]) (in_5 hX.1 (by omega)) kk_5 mV_X5_isWord ln_X5_78 rfl (Nat.le_of_ble_eq_true rfl) (Nat.le_of_ble_eq_true rfl) (k_X5_isWord hX 4 (by first | assumption | decide) σ hp9) dX5_isKept_39 rfl rfl ?_
  refine bt_ne (pc := 42) 90 dX5_isKept_42 rfl (fun c10 => ?_) (fun c10 => ?_)
  · replace hf := am_ifT c10 hf
    refine g_iconst (pc := 90) (v := 1) dX5_isKept_90 (by decide) ?_
    refine g_goto (pc := 91) 95 dX5_isKept_91 rfl ?_
    have ho := Option.some.inj hf
    subst ho
    exact g_zreturn (pc := 95) (st := []) (x := true) rfl dX5_isKept_95 hk
  replace hf := am_ifF c10 hf
  refine g_aload_n (pc := 45) 0 rfl dX5_isKept_45 rfl ?_
  refine g_ldcS (pc := 46) 6 hX.2 rfl dX5_isKept_46 ?_
  obtain ⟨p11, hp11, hf⟩ := am_bd hf
  refine g_cV (pc := 48) (As := [.ref (am_kK X 5)]) (st := []) (st1 := [.int (am_b p11)]) (in_5 hX.1 (by omega)) kk_5 mV_X5_isWord ln_X5_78 rfl (Nat.le_of_ble_eq_true rfl) (Nat.le_of_ble_eq_true rfl) (k_X5_isWord hX 5 (by first | assumption | decide) σ hp11) dX5_isKept_48 rfl rfl ?_
  refine bt_ne (pc := 51) 90 dX5_isKept_51 rfl (fun c12 => ?_) (fun c12 => ?_)
  · replace hf := am_ifT c12 hf
    refine g_iconst (pc := 90) (v := 1) dX5_isKept_90 (by decide) ?_
    refine g_goto (pc := 91) 95 dX5_isKept_91 rfl ?_
    have ho := Option.some.inj hf
    subst ho
    exact g_zreturn (pc := 95) (st := []) (x := true) rfl dX5_isKept_95 hk
  replace hf := am_ifF c12 hf
  refine g_aload_n (pc := 54) 0 rfl dX5_isKept_54 rfl ?_
  refine g_ldcS (pc := 55) 7 hX.2 rfl dX5_isKept_55 ?_
  obtain ⟨p13, hp13, hf⟩ := am_bd hf
  refine g_cV (pc := 57) (As := [.ref (am_kK X 6)]) (st := []) (st1 := [.int (am_b p13)]) (in_5 hX.1 (by omega)) kk_5 mV_X5_isWord ln_X5_78 rfl (Nat.le_of_ble_eq_true rfl) (Nat.le_of_ble_eq_true rfl) (k_X5_isWord hX 6 (by first | assumption | decide) σ hp13) dX5_isKept_57 rfl rfl ?_
  refine bt_ne (pc := 60) 90 dX5_isKept_60 rfl (fun c14 => ?_) (fun c14 => ?_)
  · replace hf := am_ifT c14 hf
    refine g_iconst (pc := 90) (v := 1) dX5_isKept_90 (by decide) ?_
    refine g_goto (pc := 91) 95 dX5_isKept_91 rfl ?_
    have ho := Option.some.inj hf
    subst ho
    exact g_zreturn (pc := 95) (st := []) (x := true) rfl dX5_isKept_95 hk
  replace hf := am_ifF c14 hf
  refine g_aload_n (pc := 63) 0 rfl dX5_isKept_63 rfl ?_
  refine g_ldcS (pc := 64) 8 hX.2 rfl dX5_isKept_64 ?_
  obtain ⟨p15, hp15, hf⟩ := am_bd hf
  refine g_cV (pc := 66) (As := [.ref (am_kK X 7)]) (st := []) (st1 := [.int (am_b p15)]) (in_5 hX.1 (by omega)) kk_5 mV_X5_isWord ln_X5_78 rfl (Nat.le_of_ble_eq_true rfl) (Nat.le_of_ble_eq_true rfl) (k_X5_isWord hX 7 (by first | assumption | decide) σ hp15) dX5_isKept_66 rfl rfl ?_
  refine bt_ne (pc := 69) 90 dX5_isKept_69 rfl (fun c16 => ?_) (fun c16 => ?_)
  · replace hf := am_ifT c16 hf
    refine g_iconst (pc := 90) (v := 1) dX5_isKept_90 (by decide) ?_
    refine g_goto (pc := 91) 95 dX5_isKept_91 rfl ?_
    have ho := Option.some.inj hf
    subst ho
    exact g_zreturn (pc := 95) (st := []) (x := true) rfl dX5_isKept_95 hk
  replace hf := am_ifF c16 hf
  refine g_aload_n (pc := 72) 0 rfl dX5_isKept_72 rfl ?_
  refine g_ldcS (pc := 73) 9 hX.2 rfl dX5_isKept_73 ?_
  obtain ⟨p17, hp17, hf⟩ := am_bd hf
  refine g_cV (pc := 75) (As := [.ref (am_kK X 8)]) (st := []) (st1 := [.int (am_b p17)]) (in_5 hX.1 (by omega)) kk_5 mV_X5_isWord ln_X5_78 rfl (Nat.le_of_ble_eq_true rfl) (Nat.le_of_ble_eq_true rfl) (k_X5_isWord hX 8 (by first | assumption | decide) σ hp17) dX5_isKept_75 rfl rfl ?_
  refine bt_ne (pc := 78) 90 dX5_isKept_78 rfl (fun c18 => ?_) (fun c18 => ?_)
  · replace hf := am_ifT c18 hf
    refine g_iconst (pc := 90) (v := 1) dX5_isKept_90 (by decide) ?_
    refine g_goto (pc := 91) 95 dX5_isKept_91 rfl ?_
    have ho := Option.some.inj hf
    subst ho
    exact g_zreturn (pc := 95) (st := []) (x := true) rfl dX5_isKept_95 hk
  replace hf := am_ifF c18 hf
  refine g_aload_n (pc := 81) 0 rfl dX5_isKept_81 rfl ?_
  refine g_ldcS (pc := 82) 10 hX.2 rfl dX5_isKept_82 ?_
  obtain ⟨p19, hp19, hf⟩ := am_bd hf
  refine g_cV (pc := 84) (As := [.ref (am_kK X 9)]) (st := []) (st1 := [.int (am_b p19)]) (in_5 hX.1 (by omega)) kk_5 mV_X5_isWord ln_X5_78 rfl (Nat.le_of_ble_eq_true rfl) (Nat.le_of_ble_eq_true rfl) (k_X5_isWord hX 9 (by first | assumption | decide) σ hp19) dX5_isKept_84 rfl rfl ?_
  refine bt_eq (pc := 87) 94 dX5_isKept_87 rfl (fun c20 => ?_) (fun c20 => ?_)
  · replace hf := am_ifT c20 hf
    refine g_iconst (pc := 90) (v := 1) dX5_isKept_90 (by decide) ?_
    refine g_goto (pc := 91) 95 dX5_isKept_91 rfl ?_
    have ho := Option.some.inj hf
    subst ho
    exact g_zreturn (pc := 95) (st := []) (x := true) rfl dX5_isKept_95 hk
  replace hf := am_ifF c20 hf
  refine g_iconst (pc := 94) (v := 0) dX5_isKept_94 (by decide) ?_
  have ho := Option.some.inj hf
  subst ho
  exact g_zreturn (pc := 95) (st := []) (x := false) rfl dX5_isKept_95 hk
theorem k_X5_isKept {X : am_X} (hX : am_wC X) (σ : am_H) {o : Bool} (hf : f_X5_isKept σ = some o) : am_C X gm_X5_isKept [.ref (am_ad X 5 0)] σ (am_is (some (.int (am_b o))) σ) :=
  am_ofG rfl (Nat.le_of_ble_eq_true rfl) rfl (q_X5_isKept hX σ hf ⟨rfl, rfl⟩)
theorem dX5_isName_0 : decode cX5_isName 0 = .ok (.aload_n 0, 1) := by decide +kernel
theorem dX5_isName_1 : decode cX5_isName 1 = .ok (.getfield 57, 3) := by decide +kernel
theorem dX5_isName_4 : decode cX5_isName 4 = .ok (.iconst 1, 1) := by decide +kernel
theorem dX5_isName_5 : decode cX5_isName 5 = .ok (.if_icmp .ne 28, 3) := by decide +kernel
theorem dX5_isName_8 : decode cX5_isName 8 = .ok (.aload_n 0, 1) := by decide +kernel
theorem dX5_isName_9 : decode cX5_isName 9 = .ok (.getfield 37, 3) := by decide +kernel
theorem dX5_isName_12 : decode cX5_isName 12 = .ok (.aload_n 0, 1) := by decide +kernel
theorem dX5_isName_13 : decode cX5_isName 13 = .ok (.getfield 47, 3) := by decide +kernel
theorem dX5_isName_16 : decode cX5_isName 16 = .ok (.isub, 1) := by decide +kernel
theorem dX5_isName_17 : decode cX5_isName 17 = .ok (.bipush 8, 2) := by decide +kernel
theorem dX5_isName_19 : decode cX5_isName 19 = .ok (.if_icmp .gt 14, 3) := by decide +kernel
theorem dX5_isName_22 : decode cX5_isName 22 = .ok (.aload_n 0, 1) := by decide +kernel
theorem dX5_isName_23 : decode cX5_isName 23 = .ok (.invokevirtual 72, 3) := by decide +kernel
theorem dX5_isName_26 : decode cX5_isName 26 = .ok (.ifCond .ne 7, 3) := by decide +kernel
theorem dX5_isName_29 : decode cX5_isName 29 = .ok (.iconst 1, 1) := by decide +kernel
theorem dX5_isName_30 : decode cX5_isName 30 = .ok (.goto 4, 3) := by decide +kernel
theorem dX5_isName_33 : decode cX5_isName 33 = .ok (.iconst 0, 1) := by decide +kernel
theorem dX5_isName_34 : decode cX5_isName 34 = .ok (.ireturn, 1) := by decide +kernel
noncomputable def f_X5_isName (σ : am_H) : Option (Bool) :=
  if (σ.1 5 0 3) = 1 then
   (if 8 < ((σ.1 5 0 5) - (σ.1 5 0 4)) then
    (some false)
   else
   (f_X5_isKept σ).bind fun p3 =>
   if p3 = true then
    (some false)
   else
   some true)
  else
  some false
set_option maxRecDepth 100000 in
set_option maxHeartbeats 4000000 in
theorem q_X5_isName {X : am_X} (hX : am_wC X) {Q : Option Value → am_H → Prop} (σ : am_H) {o : Bool} (hf : f_X5_isName σ = some o) (hk : Q (some (.int (am_b o))) σ) : am_G X gm_X5_isName Q 0 [(0, .ref (am_ad X 5 0))] [] σ := by
  unfold f_X5_isName at hf
  refine g_aload_n (pc := 0) 0 rfl dX5_isName_0 rfl ?_
  refine g_getI (pc := 1) (in_5 hX.1 (by omega)) fr_X5_57 dX5_isName_1 ?_
  refine g_iconst (pc := 4) (v := 1) dX5_isName_4 (by decide) ?_
  refine bi_ne (pc := 5) 33 dX5_isName_5 rfl (fun c1 => ?_) (fun c1 => ?_)
  · replace hf := am_ifT c1 hf
    refine g_aload_n (pc := 8) 0 rfl dX5_isName_8 rfl ?_
    refine g_getI (pc := 9) (in_5 hX.1 (by omega)) fr_X5_37 dX5_isName_9 ?_
    refine g_aload_n (pc := 12) 0 rfl dX5_isName_12 rfl ?_
    refine g_getI (pc := 13) (in_5 hX.1 (by omega)) fr_X5_47 dX5_isName_13 ?_
    refine g_isub (pc := 16) dX5_isName_16 ?_
    refine g_bipush (pc := 17) (v := 8) dX5_isName_17 (by decide) ?_
    refine bi_gt (pc := 19) 33 dX5_isName_19 rfl (fun c2 => ?_) (fun c2 => ?_)
    · replace hf := am_ifT c2 hf
      refine g_iconst (pc := 33) (v := 0) dX5_isName_33 (by decide) ?_
      have ho := Option.some.inj hf
      subst ho
      exact g_zreturn (pc := 34) (st := []) (x := false) rfl dX5_isName_34 hk
    replace hf := am_ifF c2 hf
    refine g_aload_n (pc := 22) 0 rfl dX5_isName_22 rfl ?_
    obtain ⟨p3, hp3, hf⟩ := am_bd hf
    refine g_cV (pc := 23) (As := []) (st := []) (st1 := [.int (am_b p3)]) (in_5 hX.1 (by omega)) kk_5 mV_X5_isKept ln_X5_72 rfl (Nat.le_of_ble_eq_true rfl) (Nat.le_of_ble_eq_true rfl) (k_X5_isKept hX σ hp3) dX5_isName_23 rfl rfl ?_
    refine bt_ne (pc := 26) 33 dX5_isName_26 rfl (fun c4 => ?_) (fun c4 => ?_)
    · replace hf := am_ifT c4 hf
      refine g_iconst (pc := 33) (v := 0) dX5_isName_33 (by decide) ?_
      have ho := Option.some.inj hf
      subst ho
      exact g_zreturn (pc := 34) (st := []) (x := false) rfl dX5_isName_34 hk
    replace hf := am_ifF c4 hf
    refine g_iconst (pc := 29) (v := 1) dX5_isName_29 (by decide) ?_
    refine g_goto (pc := 30) 34 dX5_isName_30 rfl ?_
    have ho := Option.some.inj hf
    subst ho
    exact g_zreturn (pc := 34) (st := []) (x := true) rfl dX5_isName_34 hk
  replace hf := am_ifF c1 hf
  refine g_iconst (pc := 33) (v := 0) dX5_isName_33 (by decide) ?_
  have ho := Option.some.inj hf
  subst ho
  exact g_zreturn (pc := 34) (st := []) (x := false) rfl dX5_isName_34 hk
theorem k_X5_isName {X : am_X} (hX : am_wC X) (σ : am_H) {o : Bool} (hf : f_X5_isName σ = some o) : am_C X gm_X5_isName [.ref (am_ad X 5 0)] σ (am_is (some (.int (am_b o))) σ) :=
  am_ofG rfl (Nat.le_of_ble_eq_true rfl) rfl (q_X5_isName hX σ hf ⟨rfl, rfl⟩)
theorem dX5_refuse_0 : decode cX5_refuse 0 = .ok (.aload_n 0, 1) := by decide +kernel
theorem dX5_refuse_1 : decode cX5_refuse 1 = .ok (.aload_n 0, 1) := by decide +kernel
theorem dX5_refuse_2 : decode cX5_refuse 2 = .ok (.getfield 57, 3) := by decide +kernel
theorem dX5_refuse_5 : decode cX5_refuse 5 = .ok (.iconst 4, 1) := by decide +kernel
theorem dX5_refuse_6 : decode cX5_refuse 6 = .ok (.if_icmp .ne 7, 3) := by decide +kernel
theorem dX5_refuse_9 : decode cX5_refuse 9 = .ok (.iconst 1, 1) := by decide +kernel
theorem dX5_refuse_10 : decode cX5_refuse 10 = .ok (.goto 4, 3) := by decide +kernel
theorem dX5_refuse_13 : decode cX5_refuse 13 = .ok (.iload_n 1, 1) := by decide +kernel
theorem dX5_refuse_14 : decode cX5_refuse 14 = .ok (.putfield 15, 3) := by decide +kernel
theorem dX5_refuse_17 : decode cX5_refuse 17 = .ok (.aload_n 0, 1) := by decide +kernel
theorem dX5_refuse_18 : decode cX5_refuse 18 = .ok (.aload_n 0, 1) := by decide +kernel
theorem dX5_refuse_19 : decode cX5_refuse 19 = .ok (.getfield 47, 3) := by decide +kernel
theorem dX5_refuse_22 : decode cX5_refuse 22 = .ok (.putfield 19, 3) := by decide +kernel
theorem dX5_refuse_25 : decode cX5_refuse 25 = .ok (.iconst 0, 1) := by decide +kernel
theorem dX5_refuse_26 : decode cX5_refuse 26 = .ok (.ireturn, 1) := by decide +kernel
noncomputable def f_X5_refuse_14 (k1 : Int32) (σ : am_H) : Option (Bool × am_H) :=
  (some (am_wI σ 5 0 7 k1)).bind fun s1 =>
  (some (am_wI s1 5 0 8 (s1.1 5 0 4))).bind fun s2 =>
  some (false, s2)
set_option maxRecDepth 100000 in
set_option maxHeartbeats 4000000 in
theorem q_X5_refuse_14 {X : am_X} (hX : am_wC X) {Q : Option Value → am_H → Prop} (k1 : Int32) (σ : am_H) {o : Bool × am_H} (hf : f_X5_refuse_14 k1 σ = some o) (hk : Q (some (.int (am_b o.1))) o.2) : am_G X gm_X5_refuse Q 14 [(0, .ref (am_ad X 5 0))] [.int k1, .ref (am_ad X 5 0)] σ := by
  unfold f_X5_refuse_14 at hf
  obtain ⟨s1, hs1, hf⟩ := am_bd hf
  refine g_setI (pc := 14) (in_5 hX.1 (by omega)) fr_X5_15 dX5_refuse_14 (Option.some.inj hs1) ?_
  refine g_aload_n (pc := 17) 0 rfl dX5_refuse_17 rfl ?_
  refine g_aload_n (pc := 18) 0 rfl dX5_refuse_18 rfl ?_
  refine g_getI (pc := 19) (in_5 hX.1 (by omega)) fr_X5_47 dX5_refuse_19 ?_
  obtain ⟨s2, hs2, hf⟩ := am_bd hf
  refine g_setI (pc := 22) (in_5 hX.1 (by omega)) fr_X5_19 dX5_refuse_22 (Option.some.inj hs2) ?_
  refine g_iconst (pc := 25) (v := 0) dX5_refuse_25 (by decide) ?_
  have ho := Option.some.inj hf
  subst ho
  exact g_zreturn (pc := 26) (st := []) (x := false) rfl dX5_refuse_26 hk
noncomputable def f_X5_refuse (v1 : Int32) (σ : am_H) : Option (Bool × am_H) :=
  if (σ.1 5 0 3) = 4 then
   (f_X5_refuse_14 1 σ)
  else
  f_X5_refuse_14 v1 σ
set_option maxRecDepth 100000 in
set_option maxHeartbeats 4000000 in
theorem q_X5_refuse {X : am_X} (hX : am_wC X) {Q : Option Value → am_H → Prop} (v1 : Int32) (σ : am_H) {o : Bool × am_H} (hf : f_X5_refuse v1 σ = some o) (hk : Q (some (.int (am_b o.1))) o.2) : am_G X gm_X5_refuse Q 0 [(0, .ref (am_ad X 5 0)), (1, .int v1)] [] σ := by
  unfold f_X5_refuse at hf
  refine g_aload_n (pc := 0) 0 rfl dX5_refuse_0 rfl ?_
  refine g_aload_n (pc := 1) 0 rfl dX5_refuse_1 rfl ?_
  refine g_getI (pc := 2) (in_5 hX.1 (by omega)) fr_X5_57 dX5_refuse_2 ?_
  refine g_iconst (pc := 5) (v := 4) dX5_refuse_5 (by decide) ?_
  refine bi_ne (pc := 6) 13 dX5_refuse_6 rfl (fun c1 => ?_) (fun c1 => ?_)
  · replace hf := am_ifT c1 hf
    refine g_iconst (pc := 9) (v := 1) dX5_refuse_9 (by decide) ?_
    refine g_goto (pc := 10) 14 dX5_refuse_10 rfl ?_
    exact am_sub [0] rfl (q_X5_refuse_14 hX 1 σ hf hk)
  replace hf := am_ifF c1 hf
  refine g_iload_n (pc := 13) 1 rfl dX5_refuse_13 rfl ?_
  exact am_sub [0] rfl (q_X5_refuse_14 hX v1 σ hf hk)
theorem k_X5_refuse {X : am_X} (hX : am_wC X) (v1 : Int32) (σ : am_H) {o : Bool × am_H} (hf : f_X5_refuse v1 σ = some o) : am_C X gm_X5_refuse [.ref (am_ad X 5 0), .int v1] σ (am_is (some (.int (am_b o.1))) o.2) :=
  am_ofG rfl (Nat.le_of_ble_eq_true rfl) rfl (q_X5_refuse hX v1 σ hf ⟨rfl, rfl⟩)
theorem dX5_nameCode_0 : decode cX5_nameCode 0 = .ok (.lconst 0, 1) := by decide +kernel
theorem dX5_nameCode_1 : decode cX5_nameCode 1 = .ok (.lstore_n 1, 1) := by decide +kernel
theorem dX5_nameCode_2 : decode cX5_nameCode 2 = .ok (.aload_n 0, 1) := by decide +kernel
theorem dX5_nameCode_3 : decode cX5_nameCode 3 = .ok (.getfield 47, 3) := by decide +kernel
theorem dX5_nameCode_6 : decode cX5_nameCode 6 = .ok (.istore_n 3, 1) := by decide +kernel
theorem dX5_nameCode_7 : decode cX5_nameCode 7 = .ok (.iload_n 3, 1) := by decide +kernel
theorem dX5_nameCode_8 : decode cX5_nameCode 8 = .ok (.aload_n 0, 1) := by decide +kernel
theorem dX5_nameCode_9 : decode cX5_nameCode 9 = .ok (.getfield 37, 3) := by decide +kernel
theorem dX5_nameCode_12 : decode cX5_nameCode 12 = .ok (.if_icmp .ge 39, 3) := by decide +kernel
theorem dX5_nameCode_15 : decode cX5_nameCode 15 = .ok (.iload_n 3, 1) := by decide +kernel
theorem dX5_nameCode_16 : decode cX5_nameCode 16 = .ok (.aload_n 0, 1) := by decide +kernel
theorem dX5_nameCode_17 : decode cX5_nameCode 17 = .ok (.getfield 47, 3) := by decide +kernel
theorem dX5_nameCode_20 : decode cX5_nameCode 20 = .ok (.bipush 8, 2) := by decide +kernel
theorem dX5_nameCode_22 : decode cX5_nameCode 22 = .ok (.iadd, 1) := by decide +kernel
theorem dX5_nameCode_23 : decode cX5_nameCode 23 = .ok (.if_icmp .ge 28, 3) := by decide +kernel
theorem dX5_nameCode_26 : decode cX5_nameCode 26 = .ok (.lload_n 1, 1) := by decide +kernel
theorem dX5_nameCode_27 : decode cX5_nameCode 27 = .ok (.ldc2_w 100, 3) := by decide +kernel
theorem dX5_nameCode_30 : decode cX5_nameCode 30 = .ok (.lmul, 1) := by decide +kernel
theorem dX5_nameCode_31 : decode cX5_nameCode 31 = .ok (.aload_n 0, 1) := by decide +kernel
theorem dX5_nameCode_32 : decode cX5_nameCode 32 = .ok (.iload_n 3, 1) := by decide +kernel
theorem dX5_nameCode_33 : decode cX5_nameCode 33 = .ok (.invokevirtual 65, 3) := by decide +kernel
theorem dX5_nameCode_36 : decode cX5_nameCode 36 = .ok (.i2l, 1) := by decide +kernel
theorem dX5_nameCode_37 : decode cX5_nameCode 37 = .ok (.ladd, 1) := by decide +kernel
theorem dX5_nameCode_38 : decode cX5_nameCode 38 = .ok (.ldc2_w 102, 3) := by decide +kernel
theorem dX5_nameCode_41 : decode cX5_nameCode 41 = .ok (.lsub, 1) := by decide +kernel
theorem dX5_nameCode_42 : decode cX5_nameCode 42 = .ok (.lconst 1, 1) := by decide +kernel
theorem dX5_nameCode_43 : decode cX5_nameCode 43 = .ok (.ladd, 1) := by decide +kernel
theorem dX5_nameCode_44 : decode cX5_nameCode 44 = .ok (.lstore_n 1, 1) := by decide +kernel
theorem dX5_nameCode_45 : decode cX5_nameCode 45 = .ok (.iinc 3 1, 3) := by decide +kernel
theorem dX5_nameCode_48 : decode cX5_nameCode 48 = .ok (.goto (-41), 3) := by decide +kernel
theorem dX5_nameCode_51 : decode cX5_nameCode 51 = .ok (.lload_n 1, 1) := by decide +kernel
theorem dX5_nameCode_52 : decode cX5_nameCode 52 = .ok (.lreturn, 1) := by decide +kernel
noncomputable def f_X5_nameCode_7 (v1 : Int64) (v3 : Int32) (σ : am_H) : Option ((Int64 × Int32) ⊕ (Int64)) :=
  if v3 < (σ.1 5 0 5) then
   (if v3 < ((σ.1 5 0 4) + 8) then
    ((f_X5_byteAt v3 σ).bind fun p3 =>
    some (.inl (((((v1 * 27) + (Int32.toInt64 p3)) - 97) + 1), (v3 + 1))))
   else
   some (.inr v1))
  else
  some (.inr v1)
set_option maxRecDepth 100000 in
set_option maxHeartbeats 4000000 in
theorem q_X5_nameCode_7 {X : am_X} (hX : am_wC X) {Q : Option Value → am_H → Prop} (v1 : Int64) (v3 : Int32) (σ : am_H) {o : (Int64 × Int32) ⊕ (Int64)} (hf : f_X5_nameCode_7 v1 v3 σ = some o) (hk0 : ∀ s, o = .inl s → am_G X gm_X5_nameCode Q 7 [(0, .ref (am_ad X 5 0)), (1, .long s.1), (3, .int s.2)] [] σ) (hk1 : ∀ t, o = .inr t → am_G X gm_X5_nameCode Q 51 [(1, .long t)] [] σ) : am_G X gm_X5_nameCode Q 7 [(0, .ref (am_ad X 5 0)), (1, .long v1), (3, .int v3)] [] σ := by
  unfold f_X5_nameCode_7 at hf
  refine g_iload_n (pc := 7) 2 rfl dX5_nameCode_7 rfl ?_
  refine g_aload_n (pc := 8) 0 rfl dX5_nameCode_8 rfl ?_
  refine g_getI (pc := 9) (in_5 hX.1 (by omega)) fr_X5_37 dX5_nameCode_9 ?_
  refine bi_ge (pc := 12) 51 dX5_nameCode_12 rfl (fun c1 => ?_) (fun c1 => ?_)
  · replace hf := am_ifT c1 hf
    refine g_iload_n (pc := 15) 2 rfl dX5_nameCode_15 rfl ?_
    refine g_aload_n (pc := 16) 0 rfl dX5_nameCode_16 rfl ?_
    refine g_getI (pc := 17) (in_5 hX.1 (by omega)) fr_X5_47 dX5_nameCode_17 ?_
    refine g_bipush (pc := 20) (v := 8) dX5_nameCode_20 (by decide) ?_
    refine g_iadd (pc := 22) dX5_nameCode_22 ?_
    refine bi_ge (pc := 23) 51 dX5_nameCode_23 rfl (fun c2 => ?_) (fun c2 => ?_)
    · replace hf := am_ifT c2 hf
      refine g_lload_n (pc := 26) 1 rfl dX5_nameCode_26 rfl ?_
      refine g_ldc2 (pc := 27) (v := 27) (tb_4 (List.mem_of_getElem? (i := 41) (by decide +kernel))) dX5_nameCode_27 ?_
      refine g_lmul (pc := 30) dX5_nameCode_30 ?_
      refine g_aload_n (pc := 31) 0 rfl dX5_nameCode_31 rfl ?_
      refine g_iload_n (pc := 32) 2 rfl dX5_nameCode_32 rfl ?_
      obtain ⟨p3, hp3, hf⟩ := am_bd hf
      refine g_cV (pc := 33) (As := [.int v3]) (st := [.long (v1 * 27)]) (st1 := [.int p3, .long (v1 * 27)]) (in_5 hX.1 (by omega)) kk_5 mV_X5_byteAt ln_X5_65 rfl (Nat.le_of_ble_eq_true rfl) (Nat.le_of_ble_eq_true rfl) (k_X5_byteAt hX v3 σ hp3) dX5_nameCode_33 rfl rfl ?_
      refine g_i2l (pc := 36) dX5_nameCode_36 ?_
      refine g_ladd (pc := 37) dX5_nameCode_37 ?_
      refine g_ldc2 (pc := 38) (v := 97) (tb_4 (List.mem_of_getElem? (i := 42) (by decide +kernel))) dX5_nameCode_38 ?_
      refine g_lsub (pc := 41) dX5_nameCode_41 ?_
      refine g_lconst (pc := 42) (v := 1) dX5_nameCode_42 (by decide) ?_
      refine g_ladd (pc := 43) dX5_nameCode_43 ?_
      refine g_lstore_n (pc := 44) [(1, .long ((((v1 * 27) + (Int32.toInt64 p3)) - 97) + 1)), (0, .ref (am_ad X 5 0)), (3, .int v3)] dX5_nameCode_44 rfl (Nat.le_of_ble_eq_true rfl) rfl ?_
      refine g_iinc (pc := 45) (v := (v3 + 1)) 2 [(3, .int (v3 + 1)), (1, .long ((((v1 * 27) + (Int32.toInt64 p3)) - 97) + 1)), (0, .ref (am_ad X 5 0))] dX5_nameCode_45 rfl rfl (Nat.le_of_ble_eq_true rfl) rfl ?_
      refine g_goto (pc := 48) 7 dX5_nameCode_48 rfl ?_
      have hz := hk0 _ (Option.some.inj hf).symm
      exact am_sub [2, 1, 0] rfl hz
    replace hf := am_ifF c2 hf
    have hz := hk1 _ (Option.some.inj hf).symm
    exact am_sub [1] rfl hz
  replace hf := am_ifF c1 hf
  have hz := hk1 _ (Option.some.inj hf).symm
  exact am_sub [1] rfl hz
set_option maxRecDepth 100000 in
set_option maxHeartbeats 4000000 in
theorem l_X5_nameCode_7 {X : am_X} (hX : am_wC X) {Q : Option Value → am_H → Prop} (σ : am_H) (s : Int64 × Int32) {o : Int64} (hf : am_loop (fun s => f_X5_nameCode_7 s.1 s.2 σ) s = some o) (hk1 : ∀ t, o = t → am_G X gm_X5_nameCode Q 51 [(1, .long t)] [] σ) : am_G X gm_X5_nameCode Q 7 [(0, .ref (am_ad X 5 0)), (1, .long s.1), (3, .int s.2)] [] σ := by
  refine am_loop_ind (P := fun s => am_G X gm_X5_nameCode Q 7 [(0, .ref (am_ad X 5 0)), (1, .long s.1), (3, .int s.2)] [] σ) (K := fun r => r = o) ?_ hf rfl
  intro s o1 hb hi hr
  exact q_X5_nameCode_7 hX s.1 s.2  σ hb hi (fun t e => hk1 t (hr _ e).symm)
noncomputable def f_X5_nameCode (σ : am_H) : Option (Int64) :=
  (am_loop (fun s => f_X5_nameCode_7 s.1 s.2 σ) (0, (σ.1 5 0 4))).bind fun w1 =>
  some w1
set_option maxRecDepth 100000 in
set_option maxHeartbeats 4000000 in
theorem q_X5_nameCode {X : am_X} (hX : am_wC X) {Q : Option Value → am_H → Prop} (σ : am_H) {o : Int64} (hf : f_X5_nameCode σ = some o) (hk : Q (some (.long o)) σ) : am_G X gm_X5_nameCode Q 0 [(0, .ref (am_ad X 5 0))] [] σ := by
  unfold f_X5_nameCode at hf
  refine g_lconst (pc := 0) (v := 0) dX5_nameCode_0 (by decide) ?_
  refine g_lstore_n (pc := 1) [(1, .long 0), (0, .ref (am_ad X 5 0))] dX5_nameCode_1 rfl (Nat.le_of_ble_eq_true rfl) rfl ?_
  refine g_aload_n (pc := 2) 1 rfl dX5_nameCode_2 rfl ?_
  refine g_getI (pc := 3) (in_5 hX.1 (by omega)) fr_X5_47 dX5_nameCode_3 ?_
  refine g_istore_n (pc := 6) [(3, .int (σ.1 5 0 4)), (1, .long 0), (0, .ref (am_ad X 5 0))] dX5_nameCode_6 rfl (Nat.le_of_ble_eq_true rfl) rfl ?_
  obtain ⟨w1, hw1, hf⟩ := am_bd hf
  refine am_sub [2, 1, 0] rfl (l_X5_nameCode_7 hX  σ (0, (σ.1 5 0 4)) hw1 ?_)
  intro t e
  subst e
  refine g_lload_n (pc := 51) 0 rfl dX5_nameCode_51 rfl ?_
  have ho := Option.some.inj hf
  subst ho
  exact g_lreturn (pc := 52) (st := []) rfl dX5_nameCode_52 hk
theorem k_X5_nameCode {X : am_X} (hX : am_wC X) (σ : am_H) {o : Int64} (hf : f_X5_nameCode σ = some o) : am_C X gm_X5_nameCode [.ref (am_ad X 5 0)] σ (am_is (some (.long o)) σ) :=
  am_ofG rfl (Nat.le_of_ble_eq_true rfl) rfl (q_X5_nameCode hX σ hf ⟨rfl, rfl⟩)
theorem dX3_hasName_0 : decode cX3_hasName 0 = .ok (.iconst 0, 1) := by decide +kernel
theorem dX3_hasName_1 : decode cX3_hasName 1 = .ok (.istore_n 3, 1) := by decide +kernel
theorem dX3_hasName_2 : decode cX3_hasName 2 = .ok (.iload_n 3, 1) := by decide +kernel
theorem dX3_hasName_3 : decode cX3_hasName 3 = .ok (.aload_n 0, 1) := by decide +kernel
theorem dX3_hasName_4 : decode cX3_hasName 4 = .ok (.getfield 32, 3) := by decide +kernel
theorem dX3_hasName_7 : decode cX3_hasName 7 = .ok (.if_icmp .ge 25, 3) := by decide +kernel
theorem dX3_hasName_10 : decode cX3_hasName 10 = .ok (.aload_n 0, 1) := by decide +kernel
theorem dX3_hasName_11 : decode cX3_hasName 11 = .ok (.getfield 27, 3) := by decide +kernel
theorem dX3_hasName_14 : decode cX3_hasName 14 = .ok (.iload_n 3, 1) := by decide +kernel
theorem dX3_hasName_15 : decode cX3_hasName 15 = .ok (.aaload, 1) := by decide +kernel
theorem dX3_hasName_16 : decode cX3_hasName 16 = .ok (.getfield 99, 3) := by decide +kernel
theorem dX3_hasName_19 : decode cX3_hasName 19 = .ok (.lload_n 1, 1) := by decide +kernel
theorem dX3_hasName_20 : decode cX3_hasName 20 = .ok (.lcmp, 1) := by decide +kernel
theorem dX3_hasName_21 : decode cX3_hasName 21 = .ok (.ifCond .ne 5, 3) := by decide +kernel
theorem dX3_hasName_24 : decode cX3_hasName 24 = .ok (.iconst 1, 1) := by decide +kernel
theorem dX3_hasName_25 : decode cX3_hasName 25 = .ok (.ireturn, 1) := by decide +kernel
theorem dX3_hasName_26 : decode cX3_hasName 26 = .ok (.iinc 3 1, 3) := by decide +kernel
theorem dX3_hasName_29 : decode cX3_hasName 29 = .ok (.goto (-27), 3) := by decide +kernel
theorem dX3_hasName_32 : decode cX3_hasName 32 = .ok (.iconst 0, 1) := by decide +kernel
theorem dX3_hasName_33 : decode cX3_hasName 33 = .ok (.ireturn, 1) := by decide +kernel
noncomputable def f_X3_hasName_2 (r0 : Nat) (v1 : Int64) (v3 : Int32) (σ : am_H) : Option ((Int32) ⊕ ((Unit) ⊕ (Unit))) :=
  if v3 < (σ.1 3 r0 1) then
   ((am_ix 6 v3).bind fun j2 =>
   if (σ.2.1 10 (6 * r0 + j2) 0) = v1 then
    (some (.inr (.inl ())))
   else
   some (.inl (v3 + 1)))
  else
  some (.inr (.inr ()))
set_option maxRecDepth 100000 in
set_option maxHeartbeats 4000000 in
theorem q_X3_hasName_2 {X : am_X} (hX : am_wC X) {Q : Option Value → am_H → Prop} (r0 : Nat) (v1 : Int64) (v3 : Int32) (hr0 : r0 < 3) (σ : am_H) {o : (Int32) ⊕ ((Unit) ⊕ (Unit))} (hf : f_X3_hasName_2 r0 v1 v3 σ = some o) (hk0 : ∀ s, o = .inl s → am_G X gm_X3_hasName Q 2 [(0, .ref (am_ad X 3 r0)), (1, .long v1), (3, .int s)] [] σ) (hk1 : ∀ t, o = .inr (.inl t) → am_G X gm_X3_hasName Q 24 [] [] σ) (hk2 : ∀ t, o = .inr (.inr t) → am_G X gm_X3_hasName Q 32 [] [] σ) : am_G X gm_X3_hasName Q 2 [(0, .ref (am_ad X 3 r0)), (1, .long v1), (3, .int v3)] [] σ := by
  unfold f_X3_hasName_2 at hf
  refine g_iload_n (pc := 2) 2 rfl dX3_hasName_2 rfl ?_
  refine g_aload_n (pc := 3) 0 rfl dX3_hasName_3 rfl ?_
  refine g_getI (pc := 4) (in_3 hX.1 (by omega)) fr_X3_32 dX3_hasName_4 ?_
  refine bi_ge (pc := 7) 32 dX3_hasName_7 rfl (fun c1 => ?_) (fun c1 => ?_)
  · replace hf := am_ifT c1 hf
    refine g_aload_n (pc := 10) 0 rfl dX3_hasName_10 rfl ?_
    refine g_getC (pc := 11) (e := r0) (in_3 hX.1 (by omega)) fr_X3_27 dX3_hasName_11 rfl ?_
    refine g_iload_n (pc := 14) 2 rfl dX3_hasName_14 rfl ?_
    obtain ⟨j2, hj2, hf⟩ := am_bd hf
    have gj2 := am_ix_lt hj2
    refine g_aC (pc := 15) (e := (6 * r0 + j2)) (in_400 hX.1 (by omega)) ak_400 hj2 rfl dX3_hasName_15 ?_
    refine g_getJ (pc := 16) (in_10 hX.1 (by omega)) fr_X3_99 dX3_hasName_16 ?_
    refine g_lload_n (pc := 19) 1 rfl dX3_hasName_19 rfl ?_
    refine g_lcm (pc := 20) dX3_hasName_20 ?_
    refine bl_ne (pc := 21) 26 dX3_hasName_21 rfl (fun c3 => ?_) (fun c3 => ?_)
    · replace hf := am_ifT c3 hf
      have hz := hk1 _ (Option.some.inj hf).symm
      exact am_sub [] rfl hz
    replace hf := am_ifF c3 hf
    refine g_iinc (pc := 26) (v := (v3 + 1)) 2 [(3, .int (v3 + 1)), (0, .ref (am_ad X 3 r0)), (1, .long v1)] dX3_hasName_26 rfl rfl (Nat.le_of_ble_eq_true rfl) rfl ?_
    refine g_goto (pc := 29) 2 dX3_hasName_29 rfl ?_
    have hz := hk0 _ (Option.some.inj hf).symm
    exact am_sub [1, 2, 0] rfl hz
  replace hf := am_ifF c1 hf
  have hz := hk2 _ (Option.some.inj hf).symm
  exact am_sub [] rfl hz
set_option maxRecDepth 100000 in
set_option maxHeartbeats 4000000 in
theorem l_X3_hasName_2 {X : am_X} (hX : am_wC X) {Q : Option Value → am_H → Prop} (r0 : Nat) (v1 : Int64) (hr0 : r0 < 3) (σ : am_H) (s : Int32) {o : (Unit) ⊕ (Unit)} (hf : am_loop (fun s => f_X3_hasName_2 r0 v1 s σ) s = some o) (hk1 : ∀ t, o = (.inl t) → am_G X gm_X3_hasName Q 24 [] [] σ) (hk2 : ∀ t, o = (.inr t) → am_G X gm_X3_hasName Q 32 [] [] σ) : am_G X gm_X3_hasName Q 2 [(0, .ref (am_ad X 3 r0)), (1, .long v1), (3, .int s)] [] σ := by
  refine am_loop_ind (P := fun s => am_G X gm_X3_hasName Q 2 [(0, .ref (am_ad X 3 r0)), (1, .long v1), (3, .int s)] [] σ) (K := fun r => r = o) ?_ hf rfl
  intro s o1 hb hi hr
  exact q_X3_hasName_2 hX r0 v1 s  hr0 σ hb hi (fun t e => hk1 t (hr _ e).symm) (fun t e => hk2 t (hr _ e).symm)
noncomputable def f_X3_hasName (r0 : Nat) (v1 : Int64) (σ : am_H) : Option (Bool) :=
  (am_loop (fun s => f_X3_hasName_2 r0 v1 s σ) 0).bind fun w1 =>
  Sum.elim (fun t1_0 =>
   some true) (fun u1_0 =>
   some false) w1
set_option maxRecDepth 100000 in
set_option maxHeartbeats 4000000 in
theorem q_X3_hasName {X : am_X} (hX : am_wC X) {Q : Option Value → am_H → Prop} (r0 : Nat) (v1 : Int64) (hr0 : r0 < 3) (σ : am_H) {o : Bool} (hf : f_X3_hasName r0 v1 σ = some o) (hk : Q (some (.int (am_b o))) σ) : am_G X gm_X3_hasName Q 0 [(0, .ref (am_ad X 3 r0)), (1, .long v1)] [] σ := by
  unfold f_X3_hasName at hf
  refine g_iconst (pc := 0) (v := 0) dX3_hasName_0 (by decide) ?_
  refine g_istore_n (pc := 1) [(3, .int 0), (0, .ref (am_ad X 3 r0)), (1, .long v1)] dX3_hasName_1 rfl (Nat.le_of_ble_eq_true rfl) rfl ?_
  obtain ⟨w1, hw1, hf⟩ := am_bd hf
  refine am_sub [1, 2, 0] rfl (l_X3_hasName_2 hX r0 v1 (by omega) σ 0 hw1 ?_ ?_)
  · intro t1_0 e
    subst e
    replace hf := am_elL hf
    refine g_iconst (pc := 24) (v := 1) dX3_hasName_24 (by decide) ?_
    have ho := Option.some.inj hf
    subst ho
    exact g_zreturn (pc := 25) (st := []) (x := true) rfl dX3_hasName_25 hk
  · intro u1_0 e
    subst e
    replace hf := am_elR hf
    refine g_iconst (pc := 32) (v := 0) dX3_hasName_32 (by decide) ?_
    have ho := Option.some.inj hf
    subst ho
    exact g_zreturn (pc := 33) (st := []) (x := false) rfl dX3_hasName_33 hk
theorem k_X3_hasName {X : am_X} (hX : am_wC X) (r0 : Nat) (v1 : Int64) (hr0 : r0 < 3) (σ : am_H) {o : Bool} (hf : f_X3_hasName r0 v1 σ = some o) : am_C X gm_X3_hasName [.ref (am_ad X 3 r0), .long v1] σ (am_is (some (.int (am_b o))) σ) :=
  am_ofG rfl (Nat.le_of_ble_eq_true rfl) rfl (q_X3_hasName hX r0 v1 hr0 σ hf ⟨rfl, rfl⟩)
theorem dX10_multiplyTeeth_0 : decode cX10_multiplyTeeth 0 = .ok (.aload_n 0, 1) := by decide +kernel
theorem dX10_multiplyTeeth_1 : decode cX10_multiplyTeeth 1 = .ok (.aload_n 0, 1) := by decide +kernel
theorem dX10_multiplyTeeth_2 : decode cX10_multiplyTeeth 2 = .ok (.getfield 18, 3) := by decide +kernel
theorem dX10_multiplyTeeth_5 : decode cX10_multiplyTeeth 5 = .ok (.iconst 0, 1) := by decide +kernel
theorem dX10_multiplyTeeth_6 : decode cX10_multiplyTeeth 6 = .ok (.iaload, 1) := by decide +kernel
theorem dX10_multiplyTeeth_7 : decode cX10_multiplyTeeth 7 = .ok (.i2l, 1) := by decide +kernel
theorem dX10_multiplyTeeth_8 : decode cX10_multiplyTeeth 8 = .ok (.aload_n 0, 1) := by decide +kernel
theorem dX10_multiplyTeeth_9 : decode cX10_multiplyTeeth 9 = .ok (.getfield 18, 3) := by decide +kernel
theorem dX10_multiplyTeeth_12 : decode cX10_multiplyTeeth 12 = .ok (.iconst 2, 1) := by decide +kernel
theorem dX10_multiplyTeeth_13 : decode cX10_multiplyTeeth 13 = .ok (.iaload, 1) := by decide +kernel
theorem dX10_multiplyTeeth_14 : decode cX10_multiplyTeeth 14 = .ok (.i2l, 1) := by decide +kernel
theorem dX10_multiplyTeeth_15 : decode cX10_multiplyTeeth 15 = .ok (.lmul, 1) := by decide +kernel
theorem dX10_multiplyTeeth_16 : decode cX10_multiplyTeeth 16 = .ok (.putfield 22, 3) := by decide +kernel
theorem dX10_multiplyTeeth_19 : decode cX10_multiplyTeeth 19 = .ok (.aload_n 0, 1) := by decide +kernel
theorem dX10_multiplyTeeth_20 : decode cX10_multiplyTeeth 20 = .ok (.aload_n 0, 1) := by decide +kernel
theorem dX10_multiplyTeeth_21 : decode cX10_multiplyTeeth 21 = .ok (.getfield 18, 3) := by decide +kernel
theorem dX10_multiplyTeeth_24 : decode cX10_multiplyTeeth 24 = .ok (.iconst 1, 1) := by decide +kernel
theorem dX10_multiplyTeeth_25 : decode cX10_multiplyTeeth 25 = .ok (.iaload, 1) := by decide +kernel
theorem dX10_multiplyTeeth_26 : decode cX10_multiplyTeeth 26 = .ok (.i2l, 1) := by decide +kernel
theorem dX10_multiplyTeeth_27 : decode cX10_multiplyTeeth 27 = .ok (.aload_n 0, 1) := by decide +kernel
theorem dX10_multiplyTeeth_28 : decode cX10_multiplyTeeth 28 = .ok (.getfield 18, 3) := by decide +kernel
theorem dX10_multiplyTeeth_31 : decode cX10_multiplyTeeth 31 = .ok (.iconst 3, 1) := by decide +kernel
theorem dX10_multiplyTeeth_32 : decode cX10_multiplyTeeth 32 = .ok (.iaload, 1) := by decide +kernel
theorem dX10_multiplyTeeth_33 : decode cX10_multiplyTeeth 33 = .ok (.i2l, 1) := by decide +kernel
theorem dX10_multiplyTeeth_34 : decode cX10_multiplyTeeth 34 = .ok (.lmul, 1) := by decide +kernel
theorem dX10_multiplyTeeth_35 : decode cX10_multiplyTeeth 35 = .ok (.putfield 26, 3) := by decide +kernel
theorem dX10_multiplyTeeth_38 : decode cX10_multiplyTeeth 38 = .ok (.return_, 1) := by decide +kernel
noncomputable def f_X10_multiplyTeeth (r0 : Nat) (σ : am_H) : Option (am_H) :=
  (am_ix 4 0).bind fun j1 =>
  (am_ix 4 2).bind fun j2 =>
  (some (am_wL σ 10 r0 7 ((Int32.toInt64 (σ.1 1106 r0 j1)) * (Int32.toInt64 (σ.1 1106 r0 j2))))).bind fun s3 =>
  (am_ix 4 1).bind fun j4 =>
  (am_ix 4 3).bind fun j5 =>
  (some (am_wL s3 10 r0 8 ((Int32.toInt64 (s3.1 1106 r0 j4)) * (Int32.toInt64 (s3.1 1106 r0 j5))))).bind fun s6 =>
  some s6
set_option maxRecDepth 100000 in
set_option maxHeartbeats 4000000 in
theorem q_X10_multiplyTeeth {X : am_X} (hX : am_wC X) {Q : Option Value → am_H → Prop} (r0 : Nat) (hr0 : r0 < 18) (σ : am_H) {o : am_H} (hf : f_X10_multiplyTeeth r0 σ = some o) (hk : Q none o) : am_G X gm_X10_multiplyTeeth Q 0 [(0, .ref (am_ad X 10 r0))] [] σ := by
  unfold f_X10_multiplyTeeth at hf
  refine g_aload_n (pc := 0) 0 rfl dX10_multiplyTeeth_0 rfl ?_
  refine g_aload_n (pc := 1) 0 rfl dX10_multiplyTeeth_1 rfl ?_
  refine g_getC (pc := 2) (e := r0) (in_10 hX.1 (by omega)) fr_X10_18 dX10_multiplyTeeth_2 rfl ?_
  refine g_iconst (pc := 5) (v := 0) dX10_multiplyTeeth_5 (by decide) ?_
  obtain ⟨j1, hj1, hf⟩ := am_bd hf
  have gj1 := am_ix_lt hj1
  refine g_aI (pc := 6) (in_1106 hX.1 (by omega)) ak_1106 hj1 dX10_multiplyTeeth_6 ?_
  refine g_i2l (pc := 7) dX10_multiplyTeeth_7 ?_
  refine g_aload_n (pc := 8) 0 rfl dX10_multiplyTeeth_8 rfl ?_
  refine g_getC (pc := 9) (e := r0) (in_10 hX.1 (by omega)) fr_X10_18 dX10_multiplyTeeth_9 rfl ?_
  refine g_iconst (pc := 12) (v := 2) dX10_multiplyTeeth_12 (by decide) ?_
  obtain ⟨j2, hj2, hf⟩ := am_bd hf
  have gj2 := am_ix_lt hj2
  refine g_aI (pc := 13) (in_1106 hX.1 (by omega)) ak_1106 hj2 dX10_multiplyTeeth_13 ?_
  refine g_i2l (pc := 14) dX10_multiplyTeeth_14 ?_
  refine g_lmul (pc := 15) dX10_multiplyTeeth_15 ?_
  obtain ⟨s3, hs3, hf⟩ := am_bd hf
  refine g_setJ (pc := 16) (in_10 hX.1 (by omega)) fr_X10_22 dX10_multiplyTeeth_16 (Option.some.inj hs3) ?_
  refine g_aload_n (pc := 19) 0 rfl dX10_multiplyTeeth_19 rfl ?_
  refine g_aload_n (pc := 20) 0 rfl dX10_multiplyTeeth_20 rfl ?_
  refine g_getC (pc := 21) (e := r0) (in_10 hX.1 (by omega)) fr_X10_18 dX10_multiplyTeeth_21 rfl ?_
  refine g_iconst (pc := 24) (v := 1) dX10_multiplyTeeth_24 (by decide) ?_
  obtain ⟨j4, hj4, hf⟩ := am_bd hf
  have gj4 := am_ix_lt hj4
  refine g_aI (pc := 25) (in_1106 hX.1 (by omega)) ak_1106 hj4 dX10_multiplyTeeth_25 ?_
  refine g_i2l (pc := 26) dX10_multiplyTeeth_26 ?_
  refine g_aload_n (pc := 27) 0 rfl dX10_multiplyTeeth_27 rfl ?_
  refine g_getC (pc := 28) (e := r0) (in_10 hX.1 (by omega)) fr_X10_18 dX10_multiplyTeeth_28 rfl ?_
  refine g_iconst (pc := 31) (v := 3) dX10_multiplyTeeth_31 (by decide) ?_
  obtain ⟨j5, hj5, hf⟩ := am_bd hf
  have gj5 := am_ix_lt hj5
  refine g_aI (pc := 32) (in_1106 hX.1 (by omega)) ak_1106 hj5 dX10_multiplyTeeth_32 ?_
  refine g_i2l (pc := 33) dX10_multiplyTeeth_33 ?_
  refine g_lmul (pc := 34) dX10_multiplyTeeth_34 ?_
  obtain ⟨s6, hs6, hf⟩ := am_bd hf
  refine g_setJ (pc := 35) (in_10 hX.1 (by omega)) fr_X10_26 dX10_multiplyTeeth_35 (Option.some.inj hs6) ?_
  have ho := Option.some.inj hf
  subst ho
  exact g_vreturn (pc := 38) (st := []) rfl dX10_multiplyTeeth_38 hk
theorem k_X10_multiplyTeeth {X : am_X} (hX : am_wC X) (r0 : Nat) (hr0 : r0 < 18) (σ : am_H) {o : am_H} (hf : f_X10_multiplyTeeth r0 σ = some o) : am_C X gm_X10_multiplyTeeth [.ref (am_ad X 10 r0)] σ (am_is none o) :=
  am_ofG rfl (Nat.le_of_ble_eq_true rfl) rfl (q_X10_multiplyTeeth hX r0 hr0 σ hf ⟨rfl, rfl⟩)
theorem dX10_clear_0 : decode cX10_clear 0 = .ok (.aload_n 0, 1) := by decide +kernel
theorem dX10_clear_1 : decode cX10_clear 1 = .ok (.lload_n 1, 1) := by decide +kernel
theorem dX10_clear_2 : decode cX10_clear 2 = .ok (.putfield 29, 3) := by decide +kernel
theorem dX10_clear_5 : decode cX10_clear 5 = .ok (.aload_n 0, 1) := by decide +kernel
theorem dX10_clear_6 : decode cX10_clear 6 = .ok (.iconst 1, 1) := by decide +kernel
theorem dX10_clear_7 : decode cX10_clear 7 = .ok (.putfield 9, 3) := by decide +kernel
theorem dX10_clear_10 : decode cX10_clear 10 = .ok (.aload_n 0, 1) := by decide +kernel
theorem dX10_clear_11 : decode cX10_clear 11 = .ok (.iconst 1, 1) := by decide +kernel
theorem dX10_clear_12 : decode cX10_clear 12 = .ok (.putfield 15, 3) := by decide +kernel
theorem dX10_clear_15 : decode cX10_clear 15 = .ok (.aload_n 0, 1) := by decide +kernel
theorem dX10_clear_16 : decode cX10_clear 16 = .ok (.iconst 0, 1) := by decide +kernel
theorem dX10_clear_17 : decode cX10_clear 17 = .ok (.putfield 32, 3) := by decide +kernel
theorem dX10_clear_20 : decode cX10_clear 20 = .ok (.aload_n 0, 1) := by decide +kernel
theorem dX10_clear_21 : decode cX10_clear 21 = .ok (.iconst 0, 1) := by decide +kernel
theorem dX10_clear_22 : decode cX10_clear 22 = .ok (.putfield 35, 3) := by decide +kernel
theorem dX10_clear_25 : decode cX10_clear 25 = .ok (.aload_n 0, 1) := by decide +kernel
theorem dX10_clear_26 : decode cX10_clear 26 = .ok (.iconst 0, 1) := by decide +kernel
theorem dX10_clear_27 : decode cX10_clear 27 = .ok (.putfield 38, 3) := by decide +kernel
theorem dX10_clear_30 : decode cX10_clear 30 = .ok (.iconst 0, 1) := by decide +kernel
theorem dX10_clear_31 : decode cX10_clear 31 = .ok (.istore_n 3, 1) := by decide +kernel
theorem dX10_clear_32 : decode cX10_clear 32 = .ok (.iload_n 3, 1) := by decide +kernel
theorem dX10_clear_33 : decode cX10_clear 33 = .ok (.iconst 4, 1) := by decide +kernel
theorem dX10_clear_34 : decode cX10_clear 34 = .ok (.if_icmp .ge 16, 3) := by decide +kernel
theorem dX10_clear_37 : decode cX10_clear 37 = .ok (.aload_n 0, 1) := by decide +kernel
theorem dX10_clear_38 : decode cX10_clear 38 = .ok (.getfield 18, 3) := by decide +kernel
theorem dX10_clear_41 : decode cX10_clear 41 = .ok (.iload_n 3, 1) := by decide +kernel
theorem dX10_clear_42 : decode cX10_clear 42 = .ok (.iconst 1, 1) := by decide +kernel
theorem dX10_clear_43 : decode cX10_clear 43 = .ok (.iastore, 1) := by decide +kernel
theorem dX10_clear_44 : decode cX10_clear 44 = .ok (.iinc 3 1, 3) := by decide +kernel
theorem dX10_clear_47 : decode cX10_clear 47 = .ok (.goto (-15), 3) := by decide +kernel
theorem dX10_clear_50 : decode cX10_clear 50 = .ok (.aload_n 0, 1) := by decide +kernel
theorem dX10_clear_51 : decode cX10_clear 51 = .ok (.invokevirtual 41, 3) := by decide +kernel
theorem dX10_clear_54 : decode cX10_clear 54 = .ok (.return_, 1) := by decide +kernel
noncomputable def f_X10_clear_32 (r0 : Nat) (v3 : Int32) (σ : am_H) : Option ((Int32 × am_H) ⊕ (am_H)) :=
  if v3 < 4 then
   ((am_ix 4 v3).bind fun j2 =>
   (some (am_wI σ 1106 r0 j2 1)).bind fun s3 =>
   some (.inl ((v3 + 1), s3)))
  else
  some (.inr σ)
set_option maxRecDepth 100000 in
set_option maxHeartbeats 4000000 in
theorem q_X10_clear_32 {X : am_X} (hX : am_wC X) {Q : Option Value → am_H → Prop} (r0 : Nat) (v3 : Int32) (hr0 : r0 < 18) (σ : am_H) {o : (Int32 × am_H) ⊕ (am_H)} (hf : f_X10_clear_32 r0 v3 σ = some o) (hk0 : ∀ s, o = .inl s → am_G X gm_X10_clear Q 32 [(0, .ref (am_ad X 10 r0)), (3, .int s.1)] [] s.2) (hk1 : ∀ t, o = .inr t → am_G X gm_X10_clear Q 50 [(0, .ref (am_ad X 10 r0))] [] t) : am_G X gm_X10_clear Q 32 [(0, .ref (am_ad X 10 r0)), (3, .int v3)] [] σ := by
  unfold f_X10_clear_32 at hf
  refine g_iload_n (pc := 32) 1 rfl dX10_clear_32 rfl ?_
  refine g_iconst (pc := 33) (v := 4) dX10_clear_33 (by decide) ?_
  refine bi_ge (pc := 34) 50 dX10_clear_34 rfl (fun c1 => ?_) (fun c1 => ?_)
  · replace hf := am_ifT c1 hf
    refine g_aload_n (pc := 37) 0 rfl dX10_clear_37 rfl ?_
    refine g_getC (pc := 38) (e := r0) (in_10 hX.1 (by omega)) fr_X10_18 dX10_clear_38 rfl ?_
    refine g_iload_n (pc := 41) 1 rfl dX10_clear_41 rfl ?_
    refine g_iconst (pc := 42) (v := 1) dX10_clear_42 (by decide) ?_
    obtain ⟨j2, hj2, hf⟩ := am_bd hf
    have gj2 := am_ix_lt hj2
    obtain ⟨s3, hs3, hf⟩ := am_bd hf
    refine g_sI (pc := 43) (in_1106 hX.1 (by omega)) ak_1106 hj2 dX10_clear_43 (Option.some.inj hs3) ?_
    refine g_iinc (pc := 44) (v := (v3 + 1)) 1 [(3, .int (v3 + 1)), (0, .ref (am_ad X 10 r0))] dX10_clear_44 rfl rfl (Nat.le_of_ble_eq_true rfl) rfl ?_
    refine g_goto (pc := 47) 32 dX10_clear_47 rfl ?_
    have hz := hk0 _ (Option.some.inj hf).symm
    exact am_sub [1, 0] rfl hz
  replace hf := am_ifF c1 hf
  have hz := hk1 _ (Option.some.inj hf).symm
  exact am_sub [0] rfl hz
set_option maxRecDepth 100000 in
set_option maxHeartbeats 4000000 in
theorem l_X10_clear_32 {X : am_X} (hX : am_wC X) {Q : Option Value → am_H → Prop} (r0 : Nat) (hr0 : r0 < 18) (σ : am_H) (s : Int32 × am_H) {o : am_H} (hf : am_loop (fun s => f_X10_clear_32 r0 s.1 s.2) s = some o) (hk1 : ∀ t, o = t → am_G X gm_X10_clear Q 50 [(0, .ref (am_ad X 10 r0))] [] t) : am_G X gm_X10_clear Q 32 [(0, .ref (am_ad X 10 r0)), (3, .int s.1)] [] s.2 := by
  refine am_loop_ind (P := fun s => am_G X gm_X10_clear Q 32 [(0, .ref (am_ad X 10 r0)), (3, .int s.1)] [] s.2) (K := fun r => r = o) ?_ hf rfl
  intro s o1 hb hi hr
  exact q_X10_clear_32 hX r0 s.1  hr0 s.2 hb hi (fun t e => hk1 t (hr _ e).symm)
noncomputable def f_X10_clear (r0 : Nat) (v1 : Int64) (σ : am_H) : Option (am_H) :=
  (some (am_wL σ 10 r0 0 v1)).bind fun s1 =>
  (some (am_wI s1 10 r0 1 1)).bind fun s2 =>
  (some (am_wI s2 10 r0 2 1)).bind fun s3 =>
  (some (am_wI s3 10 r0 3 0)).bind fun s4 =>
  (some (am_wI s4 10 r0 4 0)).bind fun s5 =>
  (some (am_wI s5 10 r0 5 0)).bind fun s6 =>
  (am_loop (fun s => f_X10_clear_32 r0 s.1 s.2) (0, s6)).bind fun w7 =>
  (f_X10_multiplyTeeth r0 w7).bind fun p8 =>
  some p8
set_option maxRecDepth 100000 in
set_option maxHeartbeats 4000000 in
theorem q_X10_clear {X : am_X} (hX : am_wC X) {Q : Option Value → am_H → Prop} (r0 : Nat) (v1 : Int64) (hr0 : r0 < 18) (σ : am_H) {o : am_H} (hf : f_X10_clear r0 v1 σ = some o) (hk : Q none o) : am_G X gm_X10_clear Q 0 [(0, .ref (am_ad X 10 r0)), (1, .long v1)] [] σ := by
  unfold f_X10_clear at hf
  refine g_aload_n (pc := 0) 0 rfl dX10_clear_0 rfl ?_
  refine g_lload_n (pc := 1) 1 rfl dX10_clear_1 rfl ?_
  obtain ⟨s1, hs1, hf⟩ := am_bd hf
  refine g_setJ (pc := 2) (in_10 hX.1 (by omega)) fr_X10_29 dX10_clear_2 (Option.some.inj hs1) ?_
  refine g_aload_n (pc := 5) 0 rfl dX10_clear_5 rfl ?_
  refine g_iconst (pc := 6) (v := 1) dX10_clear_6 (by decide) ?_
  obtain ⟨s2, hs2, hf⟩ := am_bd hf
  refine g_setI (pc := 7) (in_10 hX.1 (by omega)) fr_X10_9 dX10_clear_7 (Option.some.inj hs2) ?_
  refine g_aload_n (pc := 10) 0 rfl dX10_clear_10 rfl ?_
  refine g_iconst (pc := 11) (v := 1) dX10_clear_11 (by decide) ?_
  obtain ⟨s3, hs3, hf⟩ := am_bd hf
  refine g_setI (pc := 12) (in_10 hX.1 (by omega)) fr_X10_15 dX10_clear_12 (Option.some.inj hs3) ?_
  refine g_aload_n (pc := 15) 0 rfl dX10_clear_15 rfl ?_
  refine g_iconst (pc := 16) (v := 0) dX10_clear_16 (by decide) ?_
  obtain ⟨s4, hs4, hf⟩ := am_bd hf
  refine g_setI (pc := 17) (in_10 hX.1 (by omega)) fr_X10_32 dX10_clear_17 (Option.some.inj hs4) ?_
  refine g_aload_n (pc := 20) 0 rfl dX10_clear_20 rfl ?_
  refine g_iconst (pc := 21) (v := 0) dX10_clear_21 (by decide) ?_
  obtain ⟨s5, hs5, hf⟩ := am_bd hf
  refine g_setI (pc := 22) (in_10 hX.1 (by omega)) fr_X10_35 dX10_clear_22 (Option.some.inj hs5) ?_
  refine g_aload_n (pc := 25) 0 rfl dX10_clear_25 rfl ?_
  refine g_iconst (pc := 26) (v := 0) dX10_clear_26 (by decide) ?_
  obtain ⟨s6, hs6, hf⟩ := am_bd hf
  refine g_setI (pc := 27) (in_10 hX.1 (by omega)) fr_X10_38 dX10_clear_27 (Option.some.inj hs6) ?_
  refine g_iconst (pc := 30) (v := 0) dX10_clear_30 (by decide) ?_
  refine g_istore_n (pc := 31) [(3, .int 0), (0, .ref (am_ad X 10 r0)), (1, .long v1)] dX10_clear_31 rfl (Nat.le_of_ble_eq_true rfl) rfl ?_
  obtain ⟨w7, hw7, hf⟩ := am_bd hf
  refine am_sub [1, 0] rfl (l_X10_clear_32 hX r0 (by omega) s6 (0, s6) hw7 ?_)
  intro t e
  subst e
  refine g_aload_n (pc := 50) 0 rfl dX10_clear_50 rfl ?_
  obtain ⟨p8, hp8, hf⟩ := am_bd hf
  refine g_cV (pc := 51) (As := []) (st := []) (st1 := []) (in_10 hX.1 (by omega)) kk_10 mV_X10_multiplyTeeth ln_X10_41 rfl (Nat.le_of_ble_eq_true rfl) (Nat.le_of_ble_eq_true rfl) (k_X10_multiplyTeeth hX r0 (by omega) w7 hp8) dX10_clear_51 rfl rfl ?_
  have ho := Option.some.inj hf
  subst ho
  exact g_vreturn (pc := 54) (st := []) rfl dX10_clear_54 hk
theorem k_X10_clear {X : am_X} (hX : am_wC X) (r0 : Nat) (v1 : Int64) (hr0 : r0 < 18) (σ : am_H) {o : am_H} (hf : f_X10_clear r0 v1 σ = some o) : am_C X gm_X10_clear [.ref (am_ad X 10 r0), .long v1] σ (am_is none o) :=
  am_ofG rfl (Nat.le_of_ble_eq_true rfl) rfl (q_X10_clear hX r0 v1 hr0 σ hf ⟨rfl, rfl⟩)
theorem dX5_takesWord_0 : decode cX5_takesWord 0 = .ok (.aload_n 0, 1) := by decide +kernel
theorem dX5_takesWord_1 : decode cX5_takesWord 1 = .ok (.aload_n 1, 1) := by decide +kernel
theorem dX5_takesWord_2 : decode cX5_takesWord 2 = .ok (.invokevirtual 78, 3) := by decide +kernel
theorem dX5_takesWord_5 : decode cX5_takesWord 5 = .ok (.ifCond .ne 9, 3) := by decide +kernel
theorem dX5_takesWord_8 : decode cX5_takesWord 8 = .ok (.aload_n 0, 1) := by decide +kernel
theorem dX5_takesWord_9 : decode cX5_takesWord 9 = .ok (.iconst 2, 1) := by decide +kernel
theorem dX5_takesWord_10 : decode cX5_takesWord 10 = .ok (.invokevirtual 104, 3) := by decide +kernel
theorem dX5_takesWord_13 : decode cX5_takesWord 13 = .ok (.ireturn, 1) := by decide +kernel
theorem dX5_takesWord_14 : decode cX5_takesWord 14 = .ok (.aload_n 0, 1) := by decide +kernel
theorem dX5_takesWord_15 : decode cX5_takesWord 15 = .ok (.invokevirtual 40, 3) := by decide +kernel
theorem dX5_takesWord_18 : decode cX5_takesWord 18 = .ok (.iconst 1, 1) := by decide +kernel
theorem dX5_takesWord_19 : decode cX5_takesWord 19 = .ok (.ireturn, 1) := by decide +kernel
noncomputable def f_X5_takesWord (r1 : Nat) (σ : am_H) : Option (Bool × am_H) :=
  (f_X5_isWord r1 σ).bind fun p1 =>
  if p1 = true then
   ((f_X5_advance σ).bind fun p3 =>
   some (true, p3))
  else
  (f_X5_refuse 2 σ).bind fun p4 =>
  some (p4.1, p4.2)
set_option maxRecDepth 100000 in
set_option maxHeartbeats 4000000 in
theorem q_X5_takesWord {X : am_X} (hX : am_wC X) {Q : Option Value → am_H → Prop} (r1 : Nat) (hr1 : r1 < am_sN) (σ : am_H) {o : Bool × am_H} (hf : f_X5_takesWord r1 σ = some o) (hk : Q (some (.int (am_b o.1))) o.2) : am_G X gm_X5_takesWord Q 0 [(0, .ref (am_ad X 5 0)), (1, .ref (am_kK X r1))] [] σ := by
  unfold f_X5_takesWord at hf
  refine g_aload_n (pc := 0) 0 rfl dX5_takesWord_0 rfl ?_
  refine g_aload_n (pc := 1) 1 rfl dX5_takesWord_1 rfl ?_
  obtain ⟨p1, hp1, hf⟩ := am_bd hf
  refine g_cV (pc := 2) (As := [.ref (am_kK X r1)]) (st := []) (st1 := [.int (am_b p1)]) (in_5 hX.1 (by omega)) kk_5 mV_X5_isWord ln_X5_78 rfl (Nat.le_of_ble_eq_true rfl) (Nat.le_of_ble_eq_true rfl) (k_X5_isWord hX r1 (by first | assumption | decide) σ hp1) dX5_takesWord_2 rfl rfl ?_
  refine bt_ne (pc := 5) 14 dX5_takesWord_5 rfl (fun c2 => ?_) (fun c2 => ?_)
  · replace hf := am_ifT c2 hf
    refine g_aload_n (pc := 14) 0 rfl dX5_takesWord_14 rfl ?_
    obtain ⟨p3, hp3, hf⟩ := am_bd hf
    refine g_cV (pc := 15) (As := []) (st := []) (st1 := []) (in_5 hX.1 (by omega)) kk_5 mV_X5_advance ln_X5_40 rfl (Nat.le_of_ble_eq_true rfl) (Nat.le_of_ble_eq_true rfl) (k_X5_advance hX σ hp3) dX5_takesWord_15 rfl rfl ?_
    refine g_iconst (pc := 18) (v := 1) dX5_takesWord_18 (by decide) ?_
    have ho := Option.some.inj hf
    subst ho
    exact g_zreturn (pc := 19) (st := []) (x := true) rfl dX5_takesWord_19 hk
  replace hf := am_ifF c2 hf
  refine g_aload_n (pc := 8) 0 rfl dX5_takesWord_8 rfl ?_
  refine g_iconst (pc := 9) (v := 2) dX5_takesWord_9 (by decide) ?_
  obtain ⟨p4, hp4, hf⟩ := am_bd hf
  refine g_cV (pc := 10) (As := [.int 2]) (st := []) (st1 := [.int (am_b p4.1)]) (in_5 hX.1 (by omega)) kk_5 mV_X5_refuse ln_X5_104 rfl (Nat.le_of_ble_eq_true rfl) (Nat.le_of_ble_eq_true rfl) (k_X5_refuse hX 2 σ hp4) dX5_takesWord_10 rfl rfl ?_
  have ho := Option.some.inj hf
  subst ho
  exact g_zreturn (pc := 13) (st := []) (x := p4.1) rfl dX5_takesWord_13 hk
theorem k_X5_takesWord {X : am_X} (hX : am_wC X) (r1 : Nat) (hr1 : r1 < am_sN) (σ : am_H) {o : Bool × am_H} (hf : f_X5_takesWord r1 σ = some o) : am_C X gm_X5_takesWord [.ref (am_ad X 5 0), .ref (am_kK X r1)] σ (am_is (some (.int (am_b o.1))) o.2) :=
  am_ofG rfl (Nat.le_of_ble_eq_true rfl) rfl (q_X5_takesWord hX r1 hr1 σ hf ⟨rfl, rfl⟩)
theorem dX5_isNumber_0 : decode cX5_isNumber 0 = .ok (.aload_n 0, 1) := by decide +kernel
theorem dX5_isNumber_1 : decode cX5_isNumber 1 = .ok (.getfield 57, 3) := by decide +kernel
theorem dX5_isNumber_4 : decode cX5_isNumber 4 = .ok (.iconst 2, 1) := by decide +kernel
theorem dX5_isNumber_5 : decode cX5_isNumber 5 = .ok (.if_icmp .ne 7, 3) := by decide +kernel
theorem dX5_isNumber_8 : decode cX5_isNumber 8 = .ok (.iconst 1, 1) := by decide +kernel
theorem dX5_isNumber_9 : decode cX5_isNumber 9 = .ok (.goto 4, 3) := by decide +kernel
theorem dX5_isNumber_12 : decode cX5_isNumber 12 = .ok (.iconst 0, 1) := by decide +kernel
theorem dX5_isNumber_13 : decode cX5_isNumber 13 = .ok (.ireturn, 1) := by decide +kernel
noncomputable def f_X5_isNumber (σ : am_H) : Option (Bool) :=
  if (σ.1 5 0 3) = 2 then
   (some true)
  else
  some false
set_option maxRecDepth 100000 in
set_option maxHeartbeats 4000000 in
theorem q_X5_isNumber {X : am_X} (hX : am_wC X) {Q : Option Value → am_H → Prop} (σ : am_H) {o : Bool} (hf : f_X5_isNumber σ = some o) (hk : Q (some (.int (am_b o))) σ) : am_G X gm_X5_isNumber Q 0 [(0, .ref (am_ad X 5 0))] [] σ := by
  unfold f_X5_isNumber at hf
  refine g_aload_n (pc := 0) 0 rfl dX5_isNumber_0 rfl ?_
  refine g_getI (pc := 1) (in_5 hX.1 (by omega)) fr_X5_57 dX5_isNumber_1 ?_
  refine g_iconst (pc := 4) (v := 2) dX5_isNumber_4 (by decide) ?_
  refine bi_ne (pc := 5) 12 dX5_isNumber_5 rfl (fun c1 => ?_) (fun c1 => ?_)
  · replace hf := am_ifT c1 hf
    refine g_iconst (pc := 8) (v := 1) dX5_isNumber_8 (by decide) ?_
    refine g_goto (pc := 9) 13 dX5_isNumber_9 rfl ?_
    have ho := Option.some.inj hf
    subst ho
    exact g_zreturn (pc := 13) (st := []) (x := true) rfl dX5_isNumber_13 hk
  replace hf := am_ifF c1 hf
  refine g_iconst (pc := 12) (v := 0) dX5_isNumber_12 (by decide) ?_
  have ho := Option.some.inj hf
  subst ho
  exact g_zreturn (pc := 13) (st := []) (x := false) rfl dX5_isNumber_13 hk
theorem k_X5_isNumber {X : am_X} (hX : am_wC X) (σ : am_H) {o : Bool} (hf : f_X5_isNumber σ = some o) : am_C X gm_X5_isNumber [.ref (am_ad X 5 0)] σ (am_is (some (.int (am_b o))) σ) :=
  am_ofG rfl (Nat.le_of_ble_eq_true rfl) rfl (q_X5_isNumber hX σ hf ⟨rfl, rfl⟩)
theorem dX5_standsNumber_0 : decode cX5_standsNumber 0 = .ok (.aload_n 0, 1) := by decide +kernel
theorem dX5_standsNumber_1 : decode cX5_standsNumber 1 = .ok (.invokevirtual 110, 3) := by decide +kernel
theorem dX5_standsNumber_4 : decode cX5_standsNumber 4 = .ok (.ifCond .ne 9, 3) := by decide +kernel
theorem dX5_standsNumber_7 : decode cX5_standsNumber 7 = .ok (.aload_n 0, 1) := by decide +kernel
theorem dX5_standsNumber_8 : decode cX5_standsNumber 8 = .ok (.iconst 2, 1) := by decide +kernel
theorem dX5_standsNumber_9 : decode cX5_standsNumber 9 = .ok (.invokevirtual 104, 3) := by decide +kernel
theorem dX5_standsNumber_12 : decode cX5_standsNumber 12 = .ok (.ireturn, 1) := by decide +kernel
theorem dX5_standsNumber_13 : decode cX5_standsNumber 13 = .ok (.aload_n 0, 1) := by decide +kernel
theorem dX5_standsNumber_14 : decode cX5_standsNumber 14 = .ok (.getfield 50, 3) := by decide +kernel
theorem dX5_standsNumber_17 : decode cX5_standsNumber 17 = .ok (.iload_n 1, 1) := by decide +kernel
theorem dX5_standsNumber_18 : decode cX5_standsNumber 18 = .ok (.if_icmp .lt 11, 3) := by decide +kernel
theorem dX5_standsNumber_21 : decode cX5_standsNumber 21 = .ok (.aload_n 0, 1) := by decide +kernel
theorem dX5_standsNumber_22 : decode cX5_standsNumber 22 = .ok (.getfield 50, 3) := by decide +kernel
theorem dX5_standsNumber_25 : decode cX5_standsNumber 25 = .ok (.iload_n 2, 1) := by decide +kernel
theorem dX5_standsNumber_26 : decode cX5_standsNumber 26 = .ok (.if_icmp .le 11, 3) := by decide +kernel
theorem dX5_standsNumber_29 : decode cX5_standsNumber 29 = .ok (.aload_n 0, 1) := by decide +kernel
theorem dX5_standsNumber_30 : decode cX5_standsNumber 30 = .ok (.iconst 4, 1) := by decide +kernel
theorem dX5_standsNumber_31 : decode cX5_standsNumber 31 = .ok (.invokevirtual 104, 3) := by decide +kernel
theorem dX5_standsNumber_34 : decode cX5_standsNumber 34 = .ok (.ifCond .eq 7, 3) := by decide +kernel
theorem dX5_standsNumber_37 : decode cX5_standsNumber 37 = .ok (.iconst 1, 1) := by decide +kernel
theorem dX5_standsNumber_38 : decode cX5_standsNumber 38 = .ok (.goto 4, 3) := by decide +kernel
theorem dX5_standsNumber_41 : decode cX5_standsNumber 41 = .ok (.iconst 0, 1) := by decide +kernel
theorem dX5_standsNumber_42 : decode cX5_standsNumber 42 = .ok (.ireturn, 1) := by decide +kernel
noncomputable def f_X5_standsNumber_29 (σ : am_H) : Option (Bool × am_H) :=
  (f_X5_refuse 4 σ).bind fun p1 =>
  if p1.1 = true then
   (some (true, p1.2))
  else
  some (false, p1.2)
set_option maxRecDepth 100000 in
set_option maxHeartbeats 4000000 in
theorem q_X5_standsNumber_29 {X : am_X} (hX : am_wC X) {Q : Option Value → am_H → Prop} (σ : am_H) {o : Bool × am_H} (hf : f_X5_standsNumber_29 σ = some o) (hk : Q (some (.int (am_b o.1))) o.2) : am_G X gm_X5_standsNumber Q 29 [(0, .ref (am_ad X 5 0))] [] σ := by
  unfold f_X5_standsNumber_29 at hf
  refine g_aload_n (pc := 29) 0 rfl dX5_standsNumber_29 rfl ?_
  refine g_iconst (pc := 30) (v := 4) dX5_standsNumber_30 (by decide) ?_
  obtain ⟨p1, hp1, hf⟩ := am_bd hf
  refine g_cV (pc := 31) (As := [.int 4]) (st := []) (st1 := [.int (am_b p1.1)]) (in_5 hX.1 (by omega)) kk_5 mV_X5_refuse ln_X5_104 rfl (Nat.le_of_ble_eq_true rfl) (Nat.le_of_ble_eq_true rfl) (k_X5_refuse hX 4 σ hp1) dX5_standsNumber_31 rfl rfl ?_
  refine bt_eq (pc := 34) 41 dX5_standsNumber_34 rfl (fun c2 => ?_) (fun c2 => ?_)
  · replace hf := am_ifT c2 hf
    refine g_iconst (pc := 37) (v := 1) dX5_standsNumber_37 (by decide) ?_
    refine g_goto (pc := 38) 42 dX5_standsNumber_38 rfl ?_
    have ho := Option.some.inj hf
    subst ho
    exact g_zreturn (pc := 42) (st := []) (x := true) rfl dX5_standsNumber_42 hk
  replace hf := am_ifF c2 hf
  refine g_iconst (pc := 41) (v := 0) dX5_standsNumber_41 (by decide) ?_
  have ho := Option.some.inj hf
  subst ho
  exact g_zreturn (pc := 42) (st := []) (x := false) rfl dX5_standsNumber_42 hk
noncomputable def f_X5_standsNumber (v1 : Int32) (v2 : Int32) (σ : am_H) : Option (Bool × am_H) :=
  (f_X5_isNumber σ).bind fun p1 =>
  if p1 = true then
   (if (σ.1 5 0 6) < v1 then
    (f_X5_standsNumber_29 σ)
   else
   if v2 < (σ.1 5 0 6) then
    (f_X5_standsNumber_29 σ)
   else
   some (true, σ))
  else
  (f_X5_refuse 2 σ).bind fun p5 =>
  some (p5.1, p5.2)
set_option maxRecDepth 100000 in
set_option maxHeartbeats 4000000 in
theorem q_X5_standsNumber {X : am_X} (hX : am_wC X) {Q : Option Value → am_H → Prop} (v1 : Int32) (v2 : Int32) (σ : am_H) {o : Bool × am_H} (hf : f_X5_standsNumber v1 v2 σ = some o) (hk : Q (some (.int (am_b o.1))) o.2) : am_G X gm_X5_standsNumber Q 0 [(0, .ref (am_ad X 5 0)), (1, .int v1), (2, .int v2)] [] σ := by
  unfold f_X5_standsNumber at hf
  refine g_aload_n (pc := 0) 0 rfl dX5_standsNumber_0 rfl ?_
  obtain ⟨p1, hp1, hf⟩ := am_bd hf
  refine g_cV (pc := 1) (As := []) (st := []) (st1 := [.int (am_b p1)]) (in_5 hX.1 (by omega)) kk_5 mV_X5_isNumber ln_X5_110 rfl (Nat.le_of_ble_eq_true rfl) (Nat.le_of_ble_eq_true rfl) (k_X5_isNumber hX σ hp1) dX5_standsNumber_1 rfl rfl ?_
  refine bt_ne (pc := 4) 13 dX5_standsNumber_4 rfl (fun c2 => ?_) (fun c2 => ?_)
  · replace hf := am_ifT c2 hf
    refine g_aload_n (pc := 13) 0 rfl dX5_standsNumber_13 rfl ?_
    refine g_getI (pc := 14) (in_5 hX.1 (by omega)) fr_X5_50 dX5_standsNumber_14 ?_
    refine g_iload_n (pc := 17) 1 rfl dX5_standsNumber_17 rfl ?_
    refine bi_lt (pc := 18) 29 dX5_standsNumber_18 rfl (fun c3 => ?_) (fun c3 => ?_)
    · replace hf := am_ifT c3 hf
      exact am_sub [0] rfl (q_X5_standsNumber_29 hX σ hf hk)
    replace hf := am_ifF c3 hf
    refine g_aload_n (pc := 21) 0 rfl dX5_standsNumber_21 rfl ?_
    refine g_getI (pc := 22) (in_5 hX.1 (by omega)) fr_X5_50 dX5_standsNumber_22 ?_
    refine g_iload_n (pc := 25) 2 rfl dX5_standsNumber_25 rfl ?_
    refine bi_le (pc := 26) 37 dX5_standsNumber_26 rfl (fun c4 => ?_) (fun c4 => ?_)
    · replace hf := am_ifT c4 hf
      exact am_sub [0] rfl (q_X5_standsNumber_29 hX σ hf hk)
    replace hf := am_ifF c4 hf
    refine g_iconst (pc := 37) (v := 1) dX5_standsNumber_37 (by decide) ?_
    refine g_goto (pc := 38) 42 dX5_standsNumber_38 rfl ?_
    have ho := Option.some.inj hf
    subst ho
    exact g_zreturn (pc := 42) (st := []) (x := true) rfl dX5_standsNumber_42 hk
  replace hf := am_ifF c2 hf
  refine g_aload_n (pc := 7) 0 rfl dX5_standsNumber_7 rfl ?_
  refine g_iconst (pc := 8) (v := 2) dX5_standsNumber_8 (by decide) ?_
  obtain ⟨p5, hp5, hf⟩ := am_bd hf
  refine g_cV (pc := 9) (As := [.int 2]) (st := []) (st1 := [.int (am_b p5.1)]) (in_5 hX.1 (by omega)) kk_5 mV_X5_refuse ln_X5_104 rfl (Nat.le_of_ble_eq_true rfl) (Nat.le_of_ble_eq_true rfl) (k_X5_refuse hX 2 σ hp5) dX5_standsNumber_9 rfl rfl ?_
  have ho := Option.some.inj hf
  subst ho
  exact g_zreturn (pc := 12) (st := []) (x := p5.1) rfl dX5_standsNumber_12 hk
theorem k_X5_standsNumber {X : am_X} (hX : am_wC X) (v1 : Int32) (v2 : Int32) (σ : am_H) {o : Bool × am_H} (hf : f_X5_standsNumber v1 v2 σ = some o) : am_C X gm_X5_standsNumber [.ref (am_ad X 5 0), .int v1, .int v2] σ (am_is (some (.int (am_b o.1))) o.2) :=
  am_ofG rfl (Nat.le_of_ble_eq_true rfl) rfl (q_X5_standsNumber hX v1 v2 σ hf ⟨rfl, rfl⟩)
theorem dX3_readsTurns_0 : decode cX3_readsTurns 0 = .ok (.aload_n 0, 1) := by decide +kernel
theorem dX3_readsTurns_1 : decode cX3_readsTurns 1 = .ok (.ldc 103, 2) := by decide +kernel
theorem dX3_readsTurns_3 : decode cX3_readsTurns 3 = .ok (.invokevirtual 105, 3) := by decide +kernel
theorem dX3_readsTurns_6 : decode cX3_readsTurns 6 = .ok (.ifCond .eq 14, 3) := by decide +kernel
theorem dX3_readsTurns_9 : decode cX3_readsTurns 9 = .ok (.aload_n 0, 1) := by decide +kernel
theorem dX3_readsTurns_10 : decode cX3_readsTurns 10 = .ok (.iconst 1, 1) := by decide +kernel
theorem dX3_readsTurns_11 : decode cX3_readsTurns 11 = .ok (.sipush 9999, 3) := by decide +kernel
theorem dX3_readsTurns_14 : decode cX3_readsTurns 14 = .ok (.invokevirtual 108, 3) := by decide +kernel
theorem dX3_readsTurns_17 : decode cX3_readsTurns 17 = .ok (.ifCond .ne 5, 3) := by decide +kernel
theorem dX3_readsTurns_20 : decode cX3_readsTurns 20 = .ok (.iconst 0, 1) := by decide +kernel
theorem dX3_readsTurns_21 : decode cX3_readsTurns 21 = .ok (.ireturn, 1) := by decide +kernel
theorem dX3_readsTurns_22 : decode cX3_readsTurns 22 = .ok (.aload_n 1, 1) := by decide +kernel
theorem dX3_readsTurns_23 : decode cX3_readsTurns 23 = .ok (.aload_n 0, 1) := by decide +kernel
theorem dX3_readsTurns_24 : decode cX3_readsTurns 24 = .ok (.getfield 112, 3) := by decide +kernel
theorem dX3_readsTurns_27 : decode cX3_readsTurns 27 = .ok (.putfield 115, 3) := by decide +kernel
theorem dX3_readsTurns_30 : decode cX3_readsTurns 30 = .ok (.aload_n 0, 1) := by decide +kernel
theorem dX3_readsTurns_31 : decode cX3_readsTurns 31 = .ok (.invokevirtual 74, 3) := by decide +kernel
theorem dX3_readsTurns_34 : decode cX3_readsTurns 34 = .ok (.aload_n 0, 1) := by decide +kernel
theorem dX3_readsTurns_35 : decode cX3_readsTurns 35 = .ok (.ldc 117, 2) := by decide +kernel
theorem dX3_readsTurns_37 : decode cX3_readsTurns 37 = .ok (.invokevirtual 105, 3) := by decide +kernel
theorem dX3_readsTurns_40 : decode cX3_readsTurns 40 = .ok (.ifCond .eq 14, 3) := by decide +kernel
theorem dX3_readsTurns_43 : decode cX3_readsTurns 43 = .ok (.aload_n 0, 1) := by decide +kernel
theorem dX3_readsTurns_44 : decode cX3_readsTurns 44 = .ok (.iconst 1, 1) := by decide +kernel
theorem dX3_readsTurns_45 : decode cX3_readsTurns 45 = .ok (.sipush 9999, 3) := by decide +kernel
theorem dX3_readsTurns_48 : decode cX3_readsTurns 48 = .ok (.invokevirtual 108, 3) := by decide +kernel
theorem dX3_readsTurns_51 : decode cX3_readsTurns 51 = .ok (.ifCond .ne 5, 3) := by decide +kernel
theorem dX3_readsTurns_54 : decode cX3_readsTurns 54 = .ok (.iconst 0, 1) := by decide +kernel
theorem dX3_readsTurns_55 : decode cX3_readsTurns 55 = .ok (.ireturn, 1) := by decide +kernel
theorem dX3_readsTurns_56 : decode cX3_readsTurns 56 = .ok (.aload_n 1, 1) := by decide +kernel
theorem dX3_readsTurns_57 : decode cX3_readsTurns 57 = .ok (.aload_n 0, 1) := by decide +kernel
theorem dX3_readsTurns_58 : decode cX3_readsTurns 58 = .ok (.getfield 112, 3) := by decide +kernel
theorem dX3_readsTurns_61 : decode cX3_readsTurns 61 = .ok (.putfield 119, 3) := by decide +kernel
theorem dX3_readsTurns_64 : decode cX3_readsTurns 64 = .ok (.aload_n 0, 1) := by decide +kernel
theorem dX3_readsTurns_65 : decode cX3_readsTurns 65 = .ok (.invokevirtual 74, 3) := by decide +kernel
theorem dX3_readsTurns_68 : decode cX3_readsTurns 68 = .ok (.iconst 1, 1) := by decide +kernel
theorem dX3_readsTurns_69 : decode cX3_readsTurns 69 = .ok (.ireturn, 1) := by decide +kernel
noncomputable def f_X3_readsTurns (r1 : Nat) (σ : am_H) : Option (Bool × am_H) :=
  (f_X5_takesWord 1 σ).bind fun p1 =>
  if p1.1 = true then
   ((f_X5_standsNumber 1 9999 p1.2).bind fun p3 =>
   if p3.1 = true then
    ((some (am_wI p3.2 10 r1 1 (p3.2.1 5 0 6))).bind fun s5 =>
    (f_X5_advance s5).bind fun p6 =>
    (f_X5_takesWord 2 p6).bind fun p7 =>
    if p7.1 = true then
     ((f_X5_standsNumber 1 9999 p7.2).bind fun p9 =>
     if p9.1 = true then
      ((some (am_wI p9.2 10 r1 2 (p9.2.1 5 0 6))).bind fun s11 =>
      (f_X5_advance s11).bind fun p12 =>
      some (true, p12))
     else
     some (false, p9.2))
    else
    some (false, p7.2))
   else
   some (false, p3.2))
  else
  some (false, p1.2)
set_option maxRecDepth 100000 in
set_option maxHeartbeats 4000000 in
theorem q_X3_readsTurns {X : am_X} (hX : am_wC X) {Q : Option Value → am_H → Prop} (r1 : Nat) (hr1 : r1 < 18) (σ : am_H) {o : Bool × am_H} (hf : f_X3_readsTurns r1 σ = some o) (hk : Q (some (.int (am_b o.1))) o.2) : am_G X gm_X3_readsTurns Q 0 [(0, .ref (am_ad X 5 0)), (1, .ref (am_ad X 10 r1))] [] σ := by
  unfold f_X3_readsTurns at hf
  refine g_aload_n (pc := 0) 0 rfl dX3_readsTurns_0 rfl ?_
  refine g_ldcS (pc := 1) 11 hX.2 rfl dX3_readsTurns_1 ?_
  obtain ⟨p1, hp1, hf⟩ := am_bd hf
  refine g_cV (pc := 3) (As := [.ref (am_kK X 1)]) (st := []) (st1 := [.int (am_b p1.1)]) (in_5 hX.1 (by omega)) kk_5 mV_X5_takesWord ln_X3_105 rfl (Nat.le_of_ble_eq_true rfl) (Nat.le_of_ble_eq_true rfl) (k_X5_takesWord hX 1 (by first | assumption | decide) σ hp1) dX3_readsTurns_3 rfl rfl ?_
  refine bt_eq (pc := 6) 20 dX3_readsTurns_6 rfl (fun c2 => ?_) (fun c2 => ?_)
  · replace hf := am_ifT c2 hf
    refine g_aload_n (pc := 9) 0 rfl dX3_readsTurns_9 rfl ?_
    refine g_iconst (pc := 10) (v := 1) dX3_readsTurns_10 (by decide) ?_
    refine g_sipush (pc := 11) (v := 9999) dX3_readsTurns_11 (by decide) ?_
    obtain ⟨p3, hp3, hf⟩ := am_bd hf
    refine g_cV (pc := 14) (As := [.int 1, .int 9999]) (st := []) (st1 := [.int (am_b p3.1)]) (in_5 hX.1 (by omega)) kk_5 mV_X5_standsNumber ln_X3_108 rfl (Nat.le_of_ble_eq_true rfl) (Nat.le_of_ble_eq_true rfl) (k_X5_standsNumber hX 1 9999 p1.2 hp3) dX3_readsTurns_14 rfl rfl ?_
    refine bt_ne (pc := 17) 22 dX3_readsTurns_17 rfl (fun c4 => ?_) (fun c4 => ?_)
    · replace hf := am_ifT c4 hf
      refine g_aload_n (pc := 22) 1 rfl dX3_readsTurns_22 rfl ?_
      refine g_aload_n (pc := 23) 0 rfl dX3_readsTurns_23 rfl ?_
      refine g_getI (pc := 24) (in_5 hX.1 (by omega)) fr_X3_112 dX3_readsTurns_24 ?_
      obtain ⟨s5, hs5, hf⟩ := am_bd hf
      refine g_setI (pc := 27) (in_10 hX.1 (by omega)) fr_X3_115 dX3_readsTurns_27 (Option.some.inj hs5) ?_
      refine g_aload_n (pc := 30) 0 rfl dX3_readsTurns_30 rfl ?_
      obtain ⟨p6, hp6, hf⟩ := am_bd hf
      refine g_cV (pc := 31) (As := []) (st := []) (st1 := []) (in_5 hX.1 (by omega)) kk_5 mV_X5_advance ln_X3_74 rfl (Nat.le_of_ble_eq_true rfl) (Nat.le_of_ble_eq_true rfl) (k_X5_advance hX s5 hp6) dX3_readsTurns_31 rfl rfl ?_
      refine g_aload_n (pc := 34) 0 rfl dX3_readsTurns_34 rfl ?_
      refine g_ldcS (pc := 35) 12 hX.2 rfl dX3_readsTurns_35 ?_
      obtain ⟨p7, hp7, hf⟩ := am_bd hf
      refine g_cV (pc := 37) (As := [.ref (am_kK X 2)]) (st := []) (st1 := [.int (am_b p7.1)]) (in_5 hX.1 (by omega)) kk_5 mV_X5_takesWord ln_X3_105 rfl (Nat.le_of_ble_eq_true rfl) (Nat.le_of_ble_eq_true rfl) (k_X5_takesWord hX 2 (by first | assumption | decide) p6 hp7) dX3_readsTurns_37 rfl rfl ?_
      refine bt_eq (pc := 40) 54 dX3_readsTurns_40 rfl (fun c8 => ?_) (fun c8 => ?_)
      · replace hf := am_ifT c8 hf
        refine g_aload_n (pc := 43) 0 rfl dX3_readsTurns_43 rfl ?_
        refine g_iconst (pc := 44) (v := 1) dX3_readsTurns_44 (by decide) ?_
        refine g_sipush (pc := 45) (v := 9999) dX3_readsTurns_45 (by decide) ?_
        obtain ⟨p9, hp9, hf⟩ := am_bd hf
        refine g_cV (pc := 48) (As := [.int 1, .int 9999]) (st := []) (st1 := [.int (am_b p9.1)]) (in_5 hX.1 (by omega)) kk_5 mV_X5_standsNumber ln_X3_108 rfl (Nat.le_of_ble_eq_true rfl) (Nat.le_of_ble_eq_true rfl) (k_X5_standsNumber hX 1 9999 p7.2 hp9) dX3_readsTurns_48 rfl rfl ?_
        refine bt_ne (pc := 51) 56 dX3_readsTurns_51 rfl (fun c10 => ?_) (fun c10 => ?_)
        · replace hf := am_ifT c10 hf
          refine g_aload_n (pc := 56) 1 rfl dX3_readsTurns_56 rfl ?_
          refine g_aload_n (pc := 57) 0 rfl dX3_readsTurns_57 rfl ?_
          refine g_getI (pc := 58) (in_5 hX.1 (by omega)) fr_X3_112 dX3_readsTurns_58 ?_
          obtain ⟨s11, hs11, hf⟩ := am_bd hf
          refine g_setI (pc := 61) (in_10 hX.1 (by omega)) fr_X3_119 dX3_readsTurns_61 (Option.some.inj hs11) ?_
          refine g_aload_n (pc := 64) 0 rfl dX3_readsTurns_64 rfl ?_
          obtain ⟨p12, hp12, hf⟩ := am_bd hf
          refine g_cV (pc := 65) (As := []) (st := []) (st1 := []) (in_5 hX.1 (by omega)) kk_5 mV_X5_advance ln_X3_74 rfl (Nat.le_of_ble_eq_true rfl) (Nat.le_of_ble_eq_true rfl) (k_X5_advance hX s11 hp12) dX3_readsTurns_65 rfl rfl ?_
          refine g_iconst (pc := 68) (v := 1) dX3_readsTurns_68 (by decide) ?_
          have ho := Option.some.inj hf
          subst ho
          exact g_zreturn (pc := 69) (st := []) (x := true) rfl dX3_readsTurns_69 hk
        replace hf := am_ifF c10 hf
        refine g_iconst (pc := 54) (v := 0) dX3_readsTurns_54 (by decide) ?_
        have ho := Option.some.inj hf
        subst ho
        exact g_zreturn (pc := 55) (st := []) (x := false) rfl dX3_readsTurns_55 hk
      replace hf := am_ifF c8 hf
      refine g_iconst (pc := 54) (v := 0) dX3_readsTurns_54 (by decide) ?_
      have ho := Option.some.inj hf
      subst ho
      exact g_zreturn (pc := 55) (st := []) (x := false) rfl dX3_readsTurns_55 hk
    replace hf := am_ifF c4 hf
    refine g_iconst (pc := 20) (v := 0) dX3_readsTurns_20 (by decide) ?_
    have ho := Option.some.inj hf
    subst ho
    exact g_zreturn (pc := 21) (st := []) (x := false) rfl dX3_readsTurns_21 hk
  replace hf := am_ifF c2 hf
  refine g_iconst (pc := 20) (v := 0) dX3_readsTurns_20 (by decide) ?_
  have ho := Option.some.inj hf
  subst ho
  exact g_zreturn (pc := 21) (st := []) (x := false) rfl dX3_readsTurns_21 hk
theorem k_X3_readsTurns {X : am_X} (hX : am_wC X) (r1 : Nat) (hr1 : r1 < 18) (σ : am_H) {o : Bool × am_H} (hf : f_X3_readsTurns r1 σ = some o) : am_C X gm_X3_readsTurns [.ref (am_ad X 5 0), .ref (am_ad X 10 r1)] σ (am_is (some (.int (am_b o.1))) o.2) :=
  am_ofG rfl (Nat.le_of_ble_eq_true rfl) rfl (q_X3_readsTurns hX r1 hr1 σ hf ⟨rfl, rfl⟩)
theorem dX3_settingOf_0 : decode cX3_settingOf 0 = .ok (.aload_n 0, 1) := by decide +kernel
theorem dX3_settingOf_1 : decode cX3_settingOf 1 = .ok (.ldc 136, 2) := by decide +kernel
theorem dX3_settingOf_3 : decode cX3_settingOf 3 = .ok (.invokevirtual 54, 3) := by decide +kernel
theorem dX3_settingOf_6 : decode cX3_settingOf 6 = .ok (.ifCond .eq 5, 3) := by decide +kernel
theorem dX3_settingOf_9 : decode cX3_settingOf 9 = .ok (.iconst 1, 1) := by decide +kernel
theorem dX3_settingOf_10 : decode cX3_settingOf 10 = .ok (.ireturn, 1) := by decide +kernel
theorem dX3_settingOf_11 : decode cX3_settingOf 11 = .ok (.aload_n 0, 1) := by decide +kernel
theorem dX3_settingOf_12 : decode cX3_settingOf 12 = .ok (.ldc 138, 2) := by decide +kernel
theorem dX3_settingOf_14 : decode cX3_settingOf 14 = .ok (.invokevirtual 54, 3) := by decide +kernel
theorem dX3_settingOf_17 : decode cX3_settingOf 17 = .ok (.ifCond .eq 5, 3) := by decide +kernel
theorem dX3_settingOf_20 : decode cX3_settingOf 20 = .ok (.iconst 2, 1) := by decide +kernel
theorem dX3_settingOf_21 : decode cX3_settingOf 21 = .ok (.ireturn, 1) := by decide +kernel
theorem dX3_settingOf_22 : decode cX3_settingOf 22 = .ok (.aload_n 0, 1) := by decide +kernel
theorem dX3_settingOf_23 : decode cX3_settingOf 23 = .ok (.ldc 140, 2) := by decide +kernel
theorem dX3_settingOf_25 : decode cX3_settingOf 25 = .ok (.invokevirtual 54, 3) := by decide +kernel
theorem dX3_settingOf_28 : decode cX3_settingOf 28 = .ok (.ifCond .eq 7, 3) := by decide +kernel
theorem dX3_settingOf_31 : decode cX3_settingOf 31 = .ok (.iconst 4, 1) := by decide +kernel
theorem dX3_settingOf_32 : decode cX3_settingOf 32 = .ok (.goto 4, 3) := by decide +kernel
theorem dX3_settingOf_35 : decode cX3_settingOf 35 = .ok (.iconst 0, 1) := by decide +kernel
theorem dX3_settingOf_36 : decode cX3_settingOf 36 = .ok (.ireturn, 1) := by decide +kernel
noncomputable def f_X3_settingOf (σ : am_H) : Option (Int32) :=
  (f_X5_isWord 3 σ).bind fun p1 =>
  if p1 = true then
   (some 1)
  else
  (f_X5_isWord 4 σ).bind fun p3 =>
  if p3 = true then
   (some 2)
  else
  (f_X5_isWord 5 σ).bind fun p5 =>
  if p5 = true then
   (some 4)
  else
  some 0
set_option maxRecDepth 100000 in
set_option maxHeartbeats 4000000 in
theorem q_X3_settingOf {X : am_X} (hX : am_wC X) {Q : Option Value → am_H → Prop} (σ : am_H) {o : Int32} (hf : f_X3_settingOf σ = some o) (hk : Q (some (.int o)) σ) : am_G X gm_X3_settingOf Q 0 [(0, .ref (am_ad X 5 0))] [] σ := by
  unfold f_X3_settingOf at hf
  refine g_aload_n (pc := 0) 0 rfl dX3_settingOf_0 rfl ?_
  refine g_ldcS (pc := 1) 13 hX.2 rfl dX3_settingOf_1 ?_
  obtain ⟨p1, hp1, hf⟩ := am_bd hf
  refine g_cV (pc := 3) (As := [.ref (am_kK X 3)]) (st := []) (st1 := [.int (am_b p1)]) (in_5 hX.1 (by omega)) kk_5 mV_X5_isWord ln_X3_54 rfl (Nat.le_of_ble_eq_true rfl) (Nat.le_of_ble_eq_true rfl) (k_X5_isWord hX 3 (by first | assumption | decide) σ hp1) dX3_settingOf_3 rfl rfl ?_
  refine bt_eq (pc := 6) 11 dX3_settingOf_6 rfl (fun c2 => ?_) (fun c2 => ?_)
  · replace hf := am_ifT c2 hf
    refine g_iconst (pc := 9) (v := 1) dX3_settingOf_9 (by decide) ?_
    have ho := Option.some.inj hf
    subst ho
    exact g_ireturn (pc := 10) (st := []) rfl dX3_settingOf_10 hk
  replace hf := am_ifF c2 hf
  refine g_aload_n (pc := 11) 0 rfl dX3_settingOf_11 rfl ?_
  refine g_ldcS (pc := 12) 14 hX.2 rfl dX3_settingOf_12 ?_
  obtain ⟨p3, hp3, hf⟩ := am_bd hf
  refine g_cV (pc := 14) (As := [.ref (am_kK X 4)]) (st := []) (st1 := [.int (am_b p3)]) (in_5 hX.1 (by omega)) kk_5 mV_X5_isWord ln_X3_54 rfl (Nat.le_of_ble_eq_true rfl) (Nat.le_of_ble_eq_true rfl) (k_X5_isWord hX 4 (by first | assumption | decide) σ hp3) dX3_settingOf_14 rfl rfl ?_
  refine bt_eq (pc := 17) 22 dX3_settingOf_17 rfl (fun c4 => ?_) (fun c4 => ?_)
  · replace hf := am_ifT c4 hf
    refine g_iconst (pc := 20) (v := 2) dX3_settingOf_20 (by decide) ?_
    have ho := Option.some.inj hf
    subst ho
    exact g_ireturn (pc := 21) (st := []) rfl dX3_settingOf_21 hk
  replace hf := am_ifF c4 hf
  refine g_aload_n (pc := 22) 0 rfl dX3_settingOf_22 rfl ?_
  refine g_ldcS (pc := 23) 15 hX.2 rfl dX3_settingOf_23 ?_
  obtain ⟨p5, hp5, hf⟩ := am_bd hf
  refine g_cV (pc := 25) (As := [.ref (am_kK X 5)]) (st := []) (st1 := [.int (am_b p5)]) (in_5 hX.1 (by omega)) kk_5 mV_X5_isWord ln_X3_54 rfl (Nat.le_of_ble_eq_true rfl) (Nat.le_of_ble_eq_true rfl) (k_X5_isWord hX 5 (by first | assumption | decide) σ hp5) dX3_settingOf_25 rfl rfl ?_
  refine bt_eq (pc := 28) 35 dX3_settingOf_28 rfl (fun c6 => ?_) (fun c6 => ?_)
  · replace hf := am_ifT c6 hf
    refine g_iconst (pc := 31) (v := 4) dX3_settingOf_31 (by decide) ?_
    refine g_goto (pc := 32) 36 dX3_settingOf_32 rfl ?_
    have ho := Option.some.inj hf
    subst ho
    exact g_ireturn (pc := 36) (st := []) rfl dX3_settingOf_36 hk
  replace hf := am_ifF c6 hf
  refine g_iconst (pc := 35) (v := 0) dX3_settingOf_35 (by decide) ?_
  have ho := Option.some.inj hf
  subst ho
  exact g_ireturn (pc := 36) (st := []) rfl dX3_settingOf_36 hk
theorem k_X3_settingOf {X : am_X} (hX : am_wC X) (σ : am_H) {o : Int32} (hf : f_X3_settingOf σ = some o) : am_C X gm_X3_settingOf [.ref (am_ad X 5 0)] σ (am_is (some (.int o)) σ) :=
  am_ofG rfl (Nat.le_of_ble_eq_true rfl) rfl (q_X3_settingOf hX σ hf ⟨rfl, rfl⟩)
theorem dX5_isSign_0 : decode cX5_isSign 0 = .ok (.aload_n 0, 1) := by decide +kernel
theorem dX5_isSign_1 : decode cX5_isSign 1 = .ok (.getfield 57, 3) := by decide +kernel
theorem dX5_isSign_4 : decode cX5_isSign 4 = .ok (.iconst 3, 1) := by decide +kernel
theorem dX5_isSign_5 : decode cX5_isSign 5 = .ok (.if_icmp .ne 7, 3) := by decide +kernel
theorem dX5_isSign_8 : decode cX5_isSign 8 = .ok (.iconst 1, 1) := by decide +kernel
theorem dX5_isSign_9 : decode cX5_isSign 9 = .ok (.goto 4, 3) := by decide +kernel
theorem dX5_isSign_12 : decode cX5_isSign 12 = .ok (.iconst 0, 1) := by decide +kernel
theorem dX5_isSign_13 : decode cX5_isSign 13 = .ok (.ireturn, 1) := by decide +kernel
noncomputable def f_X5_isSign (σ : am_H) : Option (Bool) :=
  if (σ.1 5 0 3) = 3 then
   (some true)
  else
  some false
set_option maxRecDepth 100000 in
set_option maxHeartbeats 4000000 in
theorem q_X5_isSign {X : am_X} (hX : am_wC X) {Q : Option Value → am_H → Prop} (σ : am_H) {o : Bool} (hf : f_X5_isSign σ = some o) (hk : Q (some (.int (am_b o))) σ) : am_G X gm_X5_isSign Q 0 [(0, .ref (am_ad X 5 0))] [] σ := by
  unfold f_X5_isSign at hf
  refine g_aload_n (pc := 0) 0 rfl dX5_isSign_0 rfl ?_
  refine g_getI (pc := 1) (in_5 hX.1 (by omega)) fr_X5_57 dX5_isSign_1 ?_
  refine g_iconst (pc := 4) (v := 3) dX5_isSign_4 (by decide) ?_
  refine bi_ne (pc := 5) 12 dX5_isSign_5 rfl (fun c1 => ?_) (fun c1 => ?_)
  · replace hf := am_ifT c1 hf
    refine g_iconst (pc := 8) (v := 1) dX5_isSign_8 (by decide) ?_
    refine g_goto (pc := 9) 13 dX5_isSign_9 rfl ?_
    have ho := Option.some.inj hf
    subst ho
    exact g_zreturn (pc := 13) (st := []) (x := true) rfl dX5_isSign_13 hk
  replace hf := am_ifF c1 hf
  refine g_iconst (pc := 12) (v := 0) dX5_isSign_12 (by decide) ?_
  have ho := Option.some.inj hf
  subst ho
  exact g_zreturn (pc := 13) (st := []) (x := false) rfl dX5_isSign_13 hk
theorem k_X5_isSign {X : am_X} (hX : am_wC X) (σ : am_H) {o : Bool} (hf : f_X5_isSign σ = some o) : am_C X gm_X5_isSign [.ref (am_ad X 5 0)] σ (am_is (some (.int (am_b o))) σ) :=
  am_ofG rfl (Nat.le_of_ble_eq_true rfl) rfl (q_X5_isSign hX σ hf ⟨rfl, rfl⟩)
theorem dX5_takesSign_0 : decode cX5_takesSign 0 = .ok (.aload_n 0, 1) := by decide +kernel
theorem dX5_takesSign_1 : decode cX5_takesSign 1 = .ok (.invokevirtual 107, 3) := by decide +kernel
theorem dX5_takesSign_4 : decode cX5_takesSign 4 = .ok (.ifCond .ne 9, 3) := by decide +kernel
theorem dX5_takesSign_7 : decode cX5_takesSign 7 = .ok (.aload_n 0, 1) := by decide +kernel
theorem dX5_takesSign_8 : decode cX5_takesSign 8 = .ok (.iconst 2, 1) := by decide +kernel
theorem dX5_takesSign_9 : decode cX5_takesSign 9 = .ok (.invokevirtual 104, 3) := by decide +kernel
theorem dX5_takesSign_12 : decode cX5_takesSign 12 = .ok (.ireturn, 1) := by decide +kernel
theorem dX5_takesSign_13 : decode cX5_takesSign 13 = .ok (.aload_n 0, 1) := by decide +kernel
theorem dX5_takesSign_14 : decode cX5_takesSign 14 = .ok (.invokevirtual 40, 3) := by decide +kernel
theorem dX5_takesSign_17 : decode cX5_takesSign 17 = .ok (.iconst 1, 1) := by decide +kernel
theorem dX5_takesSign_18 : decode cX5_takesSign 18 = .ok (.ireturn, 1) := by decide +kernel
noncomputable def f_X5_takesSign (σ : am_H) : Option (Bool × am_H) :=
  (f_X5_isSign σ).bind fun p1 =>
  if p1 = true then
   ((f_X5_advance σ).bind fun p3 =>
   some (true, p3))
  else
  (f_X5_refuse 2 σ).bind fun p4 =>
  some (p4.1, p4.2)
set_option maxRecDepth 100000 in
set_option maxHeartbeats 4000000 in
theorem q_X5_takesSign {X : am_X} (hX : am_wC X) {Q : Option Value → am_H → Prop} (σ : am_H) {o : Bool × am_H} (hf : f_X5_takesSign σ = some o) (hk : Q (some (.int (am_b o.1))) o.2) : am_G X gm_X5_takesSign Q 0 [(0, .ref (am_ad X 5 0))] [] σ := by
  unfold f_X5_takesSign at hf
  refine g_aload_n (pc := 0) 0 rfl dX5_takesSign_0 rfl ?_
  obtain ⟨p1, hp1, hf⟩ := am_bd hf
  refine g_cV (pc := 1) (As := []) (st := []) (st1 := [.int (am_b p1)]) (in_5 hX.1 (by omega)) kk_5 mV_X5_isSign ln_X5_107 rfl (Nat.le_of_ble_eq_true rfl) (Nat.le_of_ble_eq_true rfl) (k_X5_isSign hX σ hp1) dX5_takesSign_1 rfl rfl ?_
  refine bt_ne (pc := 4) 13 dX5_takesSign_4 rfl (fun c2 => ?_) (fun c2 => ?_)
  · replace hf := am_ifT c2 hf
    refine g_aload_n (pc := 13) 0 rfl dX5_takesSign_13 rfl ?_
    obtain ⟨p3, hp3, hf⟩ := am_bd hf
    refine g_cV (pc := 14) (As := []) (st := []) (st1 := []) (in_5 hX.1 (by omega)) kk_5 mV_X5_advance ln_X5_40 rfl (Nat.le_of_ble_eq_true rfl) (Nat.le_of_ble_eq_true rfl) (k_X5_advance hX σ hp3) dX5_takesSign_14 rfl rfl ?_
    refine g_iconst (pc := 17) (v := 1) dX5_takesSign_17 (by decide) ?_
    have ho := Option.some.inj hf
    subst ho
    exact g_zreturn (pc := 18) (st := []) (x := true) rfl dX5_takesSign_18 hk
  replace hf := am_ifF c2 hf
  refine g_aload_n (pc := 7) 0 rfl dX5_takesSign_7 rfl ?_
  refine g_iconst (pc := 8) (v := 2) dX5_takesSign_8 (by decide) ?_
  obtain ⟨p4, hp4, hf⟩ := am_bd hf
  refine g_cV (pc := 9) (As := [.int 2]) (st := []) (st1 := [.int (am_b p4.1)]) (in_5 hX.1 (by omega)) kk_5 mV_X5_refuse ln_X5_104 rfl (Nat.le_of_ble_eq_true rfl) (Nat.le_of_ble_eq_true rfl) (k_X5_refuse hX 2 σ hp4) dX5_takesSign_9 rfl rfl ?_
  have ho := Option.some.inj hf
  subst ho
  exact g_zreturn (pc := 12) (st := []) (x := p4.1) rfl dX5_takesSign_12 hk
theorem k_X5_takesSign {X : am_X} (hX : am_wC X) (σ : am_H) {o : Bool × am_H} (hf : f_X5_takesSign σ = some o) : am_C X gm_X5_takesSign [.ref (am_ad X 5 0)] σ (am_is (some (.int (am_b o.1))) o.2) :=
  am_ofG rfl (Nat.le_of_ble_eq_true rfl) rfl (q_X5_takesSign hX σ hf ⟨rfl, rfl⟩)
