theorem dX12_share_0 : decode cX12_share 0 = .ok (.aload_n 0, 1) := by decide +kernel
theorem dX12_share_1 : decode cX12_share 1 = .ok (.iconst 0, 1) := by decide +kernel
theorem dX12_share_2 : decode cX12_share 2 = .ok (.putfield 122, 3) := by decide +kernel
theorem dX12_share_5 : decode cX12_share 5 = .ok (.aload_n 0, 1) := by decide +kernel
theorem dX12_share_6 : decode cX12_share 6 = .ok (.iconst 0, 1) := by decide +kernel
theorem dX12_share_7 : decode cX12_share 7 = .ok (.putfield 125, 3) := by decide +kernel
theorem dX12_share_10 : decode cX12_share 10 = .ok (.iload_n 1, 1) := by decide +kernel
theorem dX12_share_11 : decode cX12_share 11 = .ok (.invokestatic 280, 3) := by decide +kernel
theorem dX12_share_14 : decode cX12_share 14 = .ok (.ifCond .eq 23, 3) := by decide +kernel
theorem dX12_share_17 : decode cX12_share 17 = .ok (.iload_n 2, 1) := by decide +kernel
theorem dX12_share_18 : decode cX12_share 18 = .ok (.i2l, 1) := by decide +kernel
theorem dX12_share_19 : decode cX12_share 19 = .ok (.lconst 0, 1) := by decide +kernel
theorem dX12_share_20 : decode cX12_share 20 = .ok (.iconst 1, 1) := by decide +kernel
theorem dX12_share_21 : decode cX12_share 21 = .ok (.aload_n 0, 1) := by decide +kernel
theorem dX12_share_22 : decode cX12_share 22 = .ok (.getfield 35, 3) := by decide +kernel
theorem dX12_share_25 : decode cX12_share 25 = .ok (.iload_n 1, 1) := by decide +kernel
theorem dX12_share_26 : decode cX12_share 26 = .ok (.iaload, 1) := by decide +kernel
theorem dX12_share_27 : decode cX12_share 27 = .ok (.ishl, 1) := by decide +kernel
theorem dX12_share_28 : decode cX12_share 28 = .ok (.iconst 1, 1) := by decide +kernel
theorem dX12_share_29 : decode cX12_share 29 = .ok (.isub, 1) := by decide +kernel
theorem dX12_share_30 : decode cX12_share 30 = .ok (.i2l, 1) := by decide +kernel
theorem dX12_share_31 : decode cX12_share 31 = .ok (.invokestatic 239, 3) := by decide +kernel
theorem dX12_share_34 : decode cX12_share 34 = .ok (.ifCond .ne 9, 3) := by decide +kernel
theorem dX12_share_37 : decode cX12_share 37 = .ok (.aload_n 0, 1) := by decide +kernel
theorem dX12_share_38 : decode cX12_share 38 = .ok (.iconst 2, 1) := by decide +kernel
theorem dX12_share_39 : decode cX12_share 39 = .ok (.invokevirtual 283, 3) := by decide +kernel
theorem dX12_share_42 : decode cX12_share 42 = .ok (.ireturn, 1) := by decide +kernel
theorem dX12_share_43 : decode cX12_share 43 = .ok (.iload_n 2, 1) := by decide +kernel
theorem dX12_share_44 : decode cX12_share 44 = .ok (.invokestatic 387, 3) := by decide +kernel
theorem dX12_share_47 : decode cX12_share 47 = .ok (.i2l, 1) := by decide +kernel
theorem dX12_share_48 : decode cX12_share 48 = .ok (.lconst 1, 1) := by decide +kernel
theorem dX12_share_49 : decode cX12_share 49 = .ok (.ldc2_w 390, 3) := by decide +kernel
theorem dX12_share_52 : decode cX12_share 52 = .ok (.invokestatic 239, 3) := by decide +kernel
theorem dX12_share_55 : decode cX12_share 55 = .ok (.ifCond .eq 23, 3) := by decide +kernel
theorem dX12_share_58 : decode cX12_share 58 = .ok (.iload_n 3, 1) := by decide +kernel
theorem dX12_share_59 : decode cX12_share 59 = .ok (.i2l, 1) := by decide +kernel
theorem dX12_share_60 : decode cX12_share 60 = .ok (.lconst 0, 1) := by decide +kernel
theorem dX12_share_61 : decode cX12_share 61 = .ok (.ldc2_w 309, 3) := by decide +kernel
theorem dX12_share_64 : decode cX12_share 64 = .ok (.invokestatic 239, 3) := by decide +kernel
theorem dX12_share_67 : decode cX12_share 67 = .ok (.ifCond .eq 11, 3) := by decide +kernel
theorem dX12_share_70 : decode cX12_share 70 = .ok (.iload 4, 2) := by decide +kernel
theorem dX12_share_72 : decode cX12_share 72 = .ok (.invokestatic 331, 3) := by decide +kernel
theorem dX12_share_75 : decode cX12_share 75 = .ok (.ifCond .ne 9, 3) := by decide +kernel
theorem dX12_share_78 : decode cX12_share 78 = .ok (.aload_n 0, 1) := by decide +kernel
theorem dX12_share_79 : decode cX12_share 79 = .ok (.iconst 5, 1) := by decide +kernel
theorem dX12_share_80 : decode cX12_share 80 = .ok (.invokevirtual 283, 3) := by decide +kernel
theorem dX12_share_83 : decode cX12_share 83 = .ok (.ireturn, 1) := by decide +kernel
theorem dX12_share_84 : decode cX12_share 84 = .ok (.aload_n 0, 1) := by decide +kernel
theorem dX12_share_85 : decode cX12_share 85 = .ok (.iconst (-1), 1) := by decide +kernel
theorem dX12_share_86 : decode cX12_share 86 = .ok (.putfield 372, 3) := by decide +kernel
theorem dX12_share_89 : decode cX12_share 89 = .ok (.aload_n 0, 1) := by decide +kernel
theorem dX12_share_90 : decode cX12_share 90 = .ok (.iload_n 1, 1) := by decide +kernel
theorem dX12_share_91 : decode cX12_share 91 = .ok (.iload_n 2, 1) := by decide +kernel
theorem dX12_share_92 : decode cX12_share 92 = .ok (.iconst 0, 1) := by decide +kernel
theorem dX12_share_93 : decode cX12_share 93 = .ok (.iload_n 3, 1) := by decide +kernel
theorem dX12_share_94 : decode cX12_share 94 = .ok (.iload 4, 2) := by decide +kernel
theorem dX12_share_96 : decode cX12_share 96 = .ok (.invokevirtual 383, 3) := by decide +kernel
theorem dX12_share_99 : decode cX12_share 99 = .ok (.aload_n 0, 1) := by decide +kernel
theorem dX12_share_100 : decode cX12_share 100 = .ok (.getfield 372, 3) := by decide +kernel
theorem dX12_share_103 : decode cX12_share 103 = .ok (.ifCond .ge 12, 3) := by decide +kernel
theorem dX12_share_106 : decode cX12_share 106 = .ok (.aload_n 0, 1) := by decide +kernel
theorem dX12_share_107 : decode cX12_share 107 = .ok (.bipush 9, 2) := by decide +kernel
theorem dX12_share_109 : decode cX12_share 109 = .ok (.invokevirtual 283, 3) := by decide +kernel
theorem dX12_share_112 : decode cX12_share 112 = .ok (.goto 7, 3) := by decide +kernel
theorem dX12_share_115 : decode cX12_share 115 = .ok (.aload_n 0, 1) := by decide +kernel
theorem dX12_share_116 : decode cX12_share 116 = .ok (.getfield 372, 3) := by decide +kernel
theorem dX12_share_119 : decode cX12_share 119 = .ok (.ireturn, 1) := by decide +kernel
noncomputable def f_X12_share_78 (σ : am_H) : Option (Int32 × am_H) :=
  (f_X12_refuse 5 σ).bind fun p1 =>
  some (p1.1, p1.2)
set_option maxRecDepth 100000 in
set_option maxHeartbeats 4000000 in
theorem q_X12_share_78 {X : am_X} (hX : am_ks X = am_ksM) {Q : Option Value → am_H → Prop} (σ : am_H) {o : Int32 × am_H} (hf : f_X12_share_78 σ = some o) (hk : Q (some (.int o.1)) o.2) : am_G X gm_X12_share Q 78 [(0, .ref (am_ad X 12 0))] [] σ := by
  unfold f_X12_share_78 at hf
  refine g_aload_n (pc := 78) 0 rfl dX12_share_78 rfl ?_
  refine g_iconst (pc := 79) (v := 5) dX12_share_79 (by decide) ?_
  obtain ⟨p1, hp1, hf⟩ := am_bd hf
  refine g_cV (pc := 80) (As := [.int 5]) (st := []) (st1 := [.int p1.1]) (in_12 hX (by omega)) kk_12 mV_X12_refuse ln_X12_283 rfl (Nat.le_of_ble_eq_true rfl) (Nat.le_of_ble_eq_true rfl) (k_X12_refuse hX 5 σ hp1) dX12_share_80 rfl rfl ?_
  have ho := Option.some.inj hf
  subst ho
  exact g_ireturn (pc := 83) (st := []) rfl dX12_share_83 hk
noncomputable def f_X12_share_37 (σ : am_H) : Option (Int32 × am_H) :=
  (f_X12_refuse 2 σ).bind fun p1 =>
  some (p1.1, p1.2)
set_option maxRecDepth 100000 in
set_option maxHeartbeats 4000000 in
theorem q_X12_share_37 {X : am_X} (hX : am_ks X = am_ksM) {Q : Option Value → am_H → Prop} (σ : am_H) {o : Int32 × am_H} (hf : f_X12_share_37 σ = some o) (hk : Q (some (.int o.1)) o.2) : am_G X gm_X12_share Q 37 [(0, .ref (am_ad X 12 0))] [] σ := by
  unfold f_X12_share_37 at hf
  refine g_aload_n (pc := 37) 0 rfl dX12_share_37 rfl ?_
  refine g_iconst (pc := 38) (v := 2) dX12_share_38 (by decide) ?_
  obtain ⟨p1, hp1, hf⟩ := am_bd hf
  refine g_cV (pc := 39) (As := [.int 2]) (st := []) (st1 := [.int p1.1]) (in_12 hX (by omega)) kk_12 mV_X12_refuse ln_X12_283 rfl (Nat.le_of_ble_eq_true rfl) (Nat.le_of_ble_eq_true rfl) (k_X12_refuse hX 2 σ hp1) dX12_share_39 rfl rfl ?_
  have ho := Option.some.inj hf
  subst ho
  exact g_ireturn (pc := 42) (st := []) rfl dX12_share_42 hk
noncomputable def f_X12_share (v1 : Int32) (v2 : Int32) (v3 : Int32) (v4 : Int32) (σ : am_H) : Option (Int32 × am_H) :=
  (some (am_wI σ 12 0 1 0)).bind fun s1 =>
  (some (am_wI s1 12 0 0 0)).bind fun s2 =>
  (f_X12_isMachine v1 s2).bind fun p3 =>
  if p3 = true then
   ((am_ix 3 v1).bind fun j5 =>
   (f_X12_isIn (Int32.toInt64 v2) 0 (Int32.toInt64 ((1 <<< ((s2.1 1320 0 j5) &&& 31)) - 1)) s2).bind fun p6 =>
   if p6 = true then
    ((f_J6_bitCount_0f7a4 v2 s2).bind fun p8 =>
    (f_X12_isIn (Int32.toInt64 p8) 1 3 s2).bind fun p9 =>
    if p9 = true then
     ((f_X12_isIn (Int32.toInt64 v3) 0 99 s2).bind fun p11 =>
     if p11 = true then
      ((f_X12_isHour v4 s2).bind fun p13 =>
      if p13 = true then
       ((some (am_wI s2 12 0 78 (-1))).bind fun s15 =>
       (f_X12_shareFrom 8 v1 v2 0 v3 v4 s15).bind fun p16 =>
       if (p16.1 12 0 78) < 0 then
        ((f_X12_refuse 9 p16).bind fun p18 =>
        some (p18.1, p18.2))
       else
       some ((p16.1 12 0 78), p16))
      else
      f_X12_share_78 s2)
     else
     f_X12_share_78 s2)
    else
    f_X12_share_78 s2)
   else
   f_X12_share_37 s2)
  else
  f_X12_share_37 s2
set_option maxRecDepth 100000 in
set_option maxHeartbeats 4000000 in
theorem q_X12_share {X : am_X} (hX : am_ks X = am_ksM) {Q : Option Value → am_H → Prop} (v1 : Int32) (v2 : Int32) (v3 : Int32) (v4 : Int32) (σ : am_H) {o : Int32 × am_H} (hf : f_X12_share v1 v2 v3 v4 σ = some o) (hk : Q (some (.int o.1)) o.2) : am_G X gm_X12_share Q 0 [(0, .ref (am_ad X 12 0)), (1, .int v1), (2, .int v2), (3, .int v3), (4, .int v4)] [] σ := by
  unfold f_X12_share at hf
  refine g_aload_n (pc := 0) 0 rfl dX12_share_0 rfl ?_
  refine g_iconst (pc := 1) (v := 0) dX12_share_1 (by decide) ?_
  obtain ⟨s1, hs1, hf⟩ := am_bd hf
  refine g_setI (pc := 2) (in_12 hX (by omega)) fr_X12_122 dX12_share_2 (Option.some.inj hs1) ?_
  refine g_aload_n (pc := 5) 0 rfl dX12_share_5 rfl ?_
  refine g_iconst (pc := 6) (v := 0) dX12_share_6 (by decide) ?_
  obtain ⟨s2, hs2, hf⟩ := am_bd hf
  refine g_setI (pc := 7) (in_12 hX (by omega)) fr_X12_125 dX12_share_7 (Option.some.inj hs2) ?_
  refine g_iload_n (pc := 10) 1 rfl dX12_share_10 rfl ?_
  obtain ⟨p3, hp3, hf⟩ := am_bd hf
  refine g_cS (pc := 11) (As := [.int v1]) (st := []) (st1 := [.int (am_b p3)]) mS_X12_isMachine ln_X12_280 rfl (Nat.le_of_ble_eq_true rfl) (Nat.le_of_ble_eq_true rfl) (k_X12_isMachine hX v1 s2 hp3) dX12_share_11 rfl rfl ?_
  refine bt_eq (pc := 14) 37 dX12_share_14 rfl (fun c4 => ?_) (fun c4 => ?_)
  · replace hf := am_ifT c4 hf
    refine g_iload_n (pc := 17) 2 rfl dX12_share_17 rfl ?_
    refine g_i2l (pc := 18) dX12_share_18 ?_
    refine g_lconst (pc := 19) (v := 0) dX12_share_19 (by decide) ?_
    refine g_iconst (pc := 20) (v := 1) dX12_share_20 (by decide) ?_
    refine g_aload_n (pc := 21) 0 rfl dX12_share_21 rfl ?_
    refine g_getC (pc := 22) (e := 0) (in_12 hX (by omega)) fr_X12_35 dX12_share_22 rfl ?_
    refine g_iload_n (pc := 25) 1 rfl dX12_share_25 rfl ?_
    obtain ⟨j5, hj5, hf⟩ := am_bd hf
    have gj5 := am_ix_lt hj5
    refine g_aI (pc := 26) (in_1320 hX (by omega)) ak_1320 hj5 dX12_share_26 ?_
    refine g_ishl (pc := 27) dX12_share_27 ?_
    refine g_iconst (pc := 28) (v := 1) dX12_share_28 (by decide) ?_
    refine g_isub (pc := 29) dX12_share_29 ?_
    refine g_i2l (pc := 30) dX12_share_30 ?_
    obtain ⟨p6, hp6, hf⟩ := am_bd hf
    refine g_cS (pc := 31) (As := [.long (Int32.toInt64 v2), .long 0, .long (Int32.toInt64 ((1 <<< ((s2.1 1320 0 j5) &&& 31)) - 1))]) (st := []) (st1 := [.int (am_b p6)]) mS_X12_isIn ln_X12_239 rfl (Nat.le_of_ble_eq_true rfl) (Nat.le_of_ble_eq_true rfl) (k_X12_isIn hX (Int32.toInt64 v2) 0 (Int32.toInt64 ((1 <<< ((s2.1 1320 0 j5) &&& 31)) - 1)) s2 hp6) dX12_share_31 rfl rfl ?_
    refine bt_ne (pc := 34) 43 dX12_share_34 rfl (fun c7 => ?_) (fun c7 => ?_)
    · replace hf := am_ifT c7 hf
      refine g_iload_n (pc := 43) 2 rfl dX12_share_43 rfl ?_
      obtain ⟨p8, hp8, hf⟩ := am_bd hf
      refine g_cS (pc := 44) (As := [.int v2]) (st := []) (st1 := [.int p8]) mS_J6_bitCount_0f7a4 ln_X12_387 rfl (Nat.le_of_ble_eq_true rfl) (Nat.le_of_ble_eq_true rfl) (k_J6_bitCount_0f7a4 v2 s2 hp8) dX12_share_44 rfl rfl ?_
      refine g_i2l (pc := 47) dX12_share_47 ?_
      refine g_lconst (pc := 48) (v := 1) dX12_share_48 (by decide) ?_
      refine g_ldc2 (pc := 49) (v := 3) (tb_9 (List.mem_of_getElem? (i := 119) (by decide +kernel))) dX12_share_49 ?_
      obtain ⟨p9, hp9, hf⟩ := am_bd hf
      refine g_cS (pc := 52) (As := [.long (Int32.toInt64 p8), .long 1, .long 3]) (st := []) (st1 := [.int (am_b p9)]) mS_X12_isIn ln_X12_239 rfl (Nat.le_of_ble_eq_true rfl) (Nat.le_of_ble_eq_true rfl) (k_X12_isIn hX (Int32.toInt64 p8) 1 3 s2 hp9) dX12_share_52 rfl rfl ?_
      refine bt_eq (pc := 55) 78 dX12_share_55 rfl (fun c10 => ?_) (fun c10 => ?_)
      · replace hf := am_ifT c10 hf
        refine g_iload_n (pc := 58) 3 rfl dX12_share_58 rfl ?_
        refine g_i2l (pc := 59) dX12_share_59 ?_
        refine g_lconst (pc := 60) (v := 0) dX12_share_60 (by decide) ?_
        refine g_ldc2 (pc := 61) (v := 99) (tb_9 (List.mem_of_getElem? (i := 25) (by decide +kernel))) dX12_share_61 ?_
        obtain ⟨p11, hp11, hf⟩ := am_bd hf
        refine g_cS (pc := 64) (As := [.long (Int32.toInt64 v3), .long 0, .long 99]) (st := []) (st1 := [.int (am_b p11)]) mS_X12_isIn ln_X12_239 rfl (Nat.le_of_ble_eq_true rfl) (Nat.le_of_ble_eq_true rfl) (k_X12_isIn hX (Int32.toInt64 v3) 0 99 s2 hp11) dX12_share_64 rfl rfl ?_
        refine bt_eq (pc := 67) 78 dX12_share_67 rfl (fun c12 => ?_) (fun c12 => ?_)
        · replace hf := am_ifT c12 hf
          refine g_iload (pc := 70) 4 rfl dX12_share_70 ?_
          obtain ⟨p13, hp13, hf⟩ := am_bd hf
          refine g_cS (pc := 72) (As := [.int v4]) (st := []) (st1 := [.int (am_b p13)]) mS_X12_isHour ln_X12_331 rfl (Nat.le_of_ble_eq_true rfl) (Nat.le_of_ble_eq_true rfl) (k_X12_isHour hX v4 s2 hp13) dX12_share_72 rfl rfl ?_
          refine bt_ne (pc := 75) 84 dX12_share_75 rfl (fun c14 => ?_) (fun c14 => ?_)
          · replace hf := am_ifT c14 hf
            refine g_aload_n (pc := 84) 0 rfl dX12_share_84 rfl ?_
            refine g_iconst (pc := 85) (v := (-1)) dX12_share_85 (by decide) ?_
            obtain ⟨s15, hs15, hf⟩ := am_bd hf
            refine g_setI (pc := 86) (in_12 hX (by omega)) fr_X12_372 dX12_share_86 (Option.some.inj hs15) ?_
            refine g_aload_n (pc := 89) 0 rfl dX12_share_89 rfl ?_
            refine g_iload_n (pc := 90) 1 rfl dX12_share_90 rfl ?_
            refine g_iload_n (pc := 91) 2 rfl dX12_share_91 rfl ?_
            refine g_iconst (pc := 92) (v := 0) dX12_share_92 (by decide) ?_
            refine g_iload_n (pc := 93) 3 rfl dX12_share_93 rfl ?_
            refine g_iload (pc := 94) 4 rfl dX12_share_94 ?_
            obtain ⟨p16, hp16, hf⟩ := am_bd hf
            refine g_cV (pc := 96) (As := [.int v1, .int v2, .int 0, .int v3, .int v4]) (st := []) (st1 := []) (in_12 hX (by omega)) kk_12 (mV_X12_shareFrom _) ln_X12_383 rfl (Nat.le_of_ble_eq_true rfl) (Nat.le_of_ble_eq_true rfl) (k_X12_shareFrom hX 8 v1 v2 0 v3 v4 s15 hp16) dX12_share_96 rfl rfl ?_
            refine g_aload_n (pc := 99) 0 rfl dX12_share_99 rfl ?_
            refine g_getI (pc := 100) (in_12 hX (by omega)) fr_X12_372 dX12_share_100 ?_
            refine bz_ge (pc := 103) 115 dX12_share_103 rfl (fun c17 => ?_) (fun c17 => ?_)
            · replace hf := am_ifT c17 hf
              refine g_aload_n (pc := 106) 0 rfl dX12_share_106 rfl ?_
              refine g_bipush (pc := 107) (v := 9) dX12_share_107 (by decide) ?_
              obtain ⟨p18, hp18, hf⟩ := am_bd hf
              refine g_cV (pc := 109) (As := [.int 9]) (st := []) (st1 := [.int p18.1]) (in_12 hX (by omega)) kk_12 mV_X12_refuse ln_X12_283 rfl (Nat.le_of_ble_eq_true rfl) (Nat.le_of_ble_eq_true rfl) (k_X12_refuse hX 9 p16 hp18) dX12_share_109 rfl rfl ?_
              refine g_goto (pc := 112) 119 dX12_share_112 rfl ?_
              have ho := Option.some.inj hf
              subst ho
              exact g_ireturn (pc := 119) (st := []) rfl dX12_share_119 hk
            replace hf := am_ifF c17 hf
            refine g_aload_n (pc := 115) 0 rfl dX12_share_115 rfl ?_
            refine g_getI (pc := 116) (in_12 hX (by omega)) fr_X12_372 dX12_share_116 ?_
            have ho := Option.some.inj hf
            subst ho
            exact g_ireturn (pc := 119) (st := []) rfl dX12_share_119 hk
          replace hf := am_ifF c14 hf
          exact am_sub [0] rfl (q_X12_share_78 hX s2 hf hk)
        replace hf := am_ifF c12 hf
        exact am_sub [0] rfl (q_X12_share_78 hX s2 hf hk)
      replace hf := am_ifF c10 hf
      exact am_sub [0] rfl (q_X12_share_78 hX s2 hf hk)
    replace hf := am_ifF c7 hf
    exact am_sub [0] rfl (q_X12_share_37 hX s2 hf hk)
  replace hf := am_ifF c4 hf
  exact am_sub [0] rfl (q_X12_share_37 hX s2 hf hk)
theorem k_X12_share {X : am_X} (hX : am_ks X = am_ksM) (v1 : Int32) (v2 : Int32) (v3 : Int32) (v4 : Int32) (σ : am_H) {o : Int32 × am_H} (hf : f_X12_share v1 v2 v3 v4 σ = some o) : am_C X gm_X12_share [.ref (am_ad X 12 0), .int v1, .int v2, .int v3, .int v4] σ (am_is (some (.int o.1)) o.2) :=
  am_ofG rfl (Nat.le_of_ble_eq_true rfl) rfl (q_X12_share hX v1 v2 v3 v4 σ hf ⟨rfl, rfl⟩)
theorem dX12_shared_0 : decode cX12_shared 0 = .ok (.aload_n 0, 1) := by decide +kernel
theorem dX12_shared_1 : decode cX12_shared 1 = .ok (.iconst 0, 1) := by decide +kernel
theorem dX12_shared_2 : decode cX12_shared 2 = .ok (.putfield 122, 3) := by decide +kernel
theorem dX12_shared_5 : decode cX12_shared 5 = .ok (.aload_n 0, 1) := by decide +kernel
theorem dX12_shared_6 : decode cX12_shared 6 = .ok (.iconst 0, 1) := by decide +kernel
theorem dX12_shared_7 : decode cX12_shared 7 = .ok (.putfield 125, 3) := by decide +kernel
theorem dX12_shared_10 : decode cX12_shared 10 = .ok (.iload_n 1, 1) := by decide +kernel
theorem dX12_shared_11 : decode cX12_shared 11 = .ok (.i2l, 1) := by decide +kernel
theorem dX12_shared_12 : decode cX12_shared 12 = .ok (.lconst 0, 1) := by decide +kernel
theorem dX12_shared_13 : decode cX12_shared 13 = .ok (.aload_n 0, 1) := by decide +kernel
theorem dX12_shared_14 : decode cX12_shared 14 = .ok (.getfield 375, 3) := by decide +kernel
theorem dX12_shared_17 : decode cX12_shared 17 = .ok (.iconst 1, 1) := by decide +kernel
theorem dX12_shared_18 : decode cX12_shared 18 = .ok (.isub, 1) := by decide +kernel
theorem dX12_shared_19 : decode cX12_shared 19 = .ok (.i2l, 1) := by decide +kernel
theorem dX12_shared_20 : decode cX12_shared 20 = .ok (.invokestatic 239, 3) := by decide +kernel
theorem dX12_shared_23 : decode cX12_shared 23 = .ok (.ifCond .eq 12, 3) := by decide +kernel
theorem dX12_shared_26 : decode cX12_shared 26 = .ok (.aload_n 0, 1) := by decide +kernel
theorem dX12_shared_27 : decode cX12_shared 27 = .ok (.getfield 65, 3) := by decide +kernel
theorem dX12_shared_30 : decode cX12_shared 30 = .ok (.iload_n 1, 1) := by decide +kernel
theorem dX12_shared_31 : decode cX12_shared 31 = .ok (.iaload, 1) := by decide +kernel
theorem dX12_shared_32 : decode cX12_shared 32 = .ok (.goto 9, 3) := by decide +kernel
theorem dX12_shared_35 : decode cX12_shared 35 = .ok (.aload_n 0, 1) := by decide +kernel
theorem dX12_shared_36 : decode cX12_shared 36 = .ok (.bipush 8, 2) := by decide +kernel
theorem dX12_shared_38 : decode cX12_shared 38 = .ok (.invokevirtual 283, 3) := by decide +kernel
theorem dX12_shared_41 : decode cX12_shared 41 = .ok (.ireturn, 1) := by decide +kernel
noncomputable def f_X12_shared (v1 : Int32) (σ : am_H) : Option (Int32 × am_H) :=
  (some (am_wI σ 12 0 1 0)).bind fun s1 =>
  (some (am_wI s1 12 0 0 0)).bind fun s2 =>
  (f_X12_isIn (Int32.toInt64 v1) 0 (Int32.toInt64 ((s2.1 12 0 30) - 1)) s2).bind fun p3 =>
  if p3 = true then
   ((am_ix 6 v1).bind fun j5 =>
   some ((s2.1 1345 0 j5), s2))
  else
  (f_X12_refuse 8 s2).bind fun p6 =>
  some (p6.1, p6.2)
set_option maxRecDepth 100000 in
set_option maxHeartbeats 4000000 in
theorem q_X12_shared {X : am_X} (hX : am_ks X = am_ksM) {Q : Option Value → am_H → Prop} (v1 : Int32) (σ : am_H) {o : Int32 × am_H} (hf : f_X12_shared v1 σ = some o) (hk : Q (some (.int o.1)) o.2) : am_G X gm_X12_shared Q 0 [(0, .ref (am_ad X 12 0)), (1, .int v1)] [] σ := by
  unfold f_X12_shared at hf
  refine g_aload_n (pc := 0) 0 rfl dX12_shared_0 rfl ?_
  refine g_iconst (pc := 1) (v := 0) dX12_shared_1 (by decide) ?_
  obtain ⟨s1, hs1, hf⟩ := am_bd hf
  refine g_setI (pc := 2) (in_12 hX (by omega)) fr_X12_122 dX12_shared_2 (Option.some.inj hs1) ?_
  refine g_aload_n (pc := 5) 0 rfl dX12_shared_5 rfl ?_
  refine g_iconst (pc := 6) (v := 0) dX12_shared_6 (by decide) ?_
  obtain ⟨s2, hs2, hf⟩ := am_bd hf
  refine g_setI (pc := 7) (in_12 hX (by omega)) fr_X12_125 dX12_shared_7 (Option.some.inj hs2) ?_
  refine g_iload_n (pc := 10) 1 rfl dX12_shared_10 rfl ?_
  refine g_i2l (pc := 11) dX12_shared_11 ?_
  refine g_lconst (pc := 12) (v := 0) dX12_shared_12 (by decide) ?_
  refine g_aload_n (pc := 13) 0 rfl dX12_shared_13 rfl ?_
  refine g_getI (pc := 14) (in_12 hX (by omega)) fr_X12_375 dX12_shared_14 ?_
  refine g_iconst (pc := 17) (v := 1) dX12_shared_17 (by decide) ?_
  refine g_isub (pc := 18) dX12_shared_18 ?_
  refine g_i2l (pc := 19) dX12_shared_19 ?_
  obtain ⟨p3, hp3, hf⟩ := am_bd hf
  refine g_cS (pc := 20) (As := [.long (Int32.toInt64 v1), .long 0, .long (Int32.toInt64 ((s2.1 12 0 30) - 1))]) (st := []) (st1 := [.int (am_b p3)]) mS_X12_isIn ln_X12_239 rfl (Nat.le_of_ble_eq_true rfl) (Nat.le_of_ble_eq_true rfl) (k_X12_isIn hX (Int32.toInt64 v1) 0 (Int32.toInt64 ((s2.1 12 0 30) - 1)) s2 hp3) dX12_shared_20 rfl rfl ?_
  refine bt_eq (pc := 23) 35 dX12_shared_23 rfl (fun c4 => ?_) (fun c4 => ?_)
  · replace hf := am_ifT c4 hf
    refine g_aload_n (pc := 26) 0 rfl dX12_shared_26 rfl ?_
    refine g_getC (pc := 27) (e := 0) (in_12 hX (by omega)) fr_X12_65 dX12_shared_27 rfl ?_
    refine g_iload_n (pc := 30) 1 rfl dX12_shared_30 rfl ?_
    obtain ⟨j5, hj5, hf⟩ := am_bd hf
    have gj5 := am_ix_lt hj5
    refine g_aI (pc := 31) (in_1345 hX (by omega)) ak_1345 hj5 dX12_shared_31 ?_
    refine g_goto (pc := 32) 41 dX12_shared_32 rfl ?_
    have ho := Option.some.inj hf
    subst ho
    exact g_ireturn (pc := 41) (st := []) rfl dX12_shared_41 hk
  replace hf := am_ifF c4 hf
  refine g_aload_n (pc := 35) 0 rfl dX12_shared_35 rfl ?_
  refine g_bipush (pc := 36) (v := 8) dX12_shared_36 (by decide) ?_
  obtain ⟨p6, hp6, hf⟩ := am_bd hf
  refine g_cV (pc := 38) (As := [.int 8]) (st := []) (st1 := [.int p6.1]) (in_12 hX (by omega)) kk_12 mV_X12_refuse ln_X12_283 rfl (Nat.le_of_ble_eq_true rfl) (Nat.le_of_ble_eq_true rfl) (k_X12_refuse hX 8 s2 hp6) dX12_shared_38 rfl rfl ?_
  have ho := Option.some.inj hf
  subst ho
  exact g_ireturn (pc := 41) (st := []) rfl dX12_shared_41 hk
theorem k_X12_shared {X : am_X} (hX : am_ks X = am_ksM) (v1 : Int32) (σ : am_H) {o : Int32 × am_H} (hf : f_X12_shared v1 σ = some o) : am_C X gm_X12_shared [.ref (am_ad X 12 0), .int v1] σ (am_is (some (.int o.1)) o.2) :=
  am_ofG rfl (Nat.le_of_ble_eq_true rfl) rfl (q_X12_shared hX v1 σ hf ⟨rfl, rfl⟩)
theorem dX12_isTray_0 : decode cX12_isTray 0 = .ok (.iload_n 1, 1) := by decide +kernel
theorem dX12_isTray_1 : decode cX12_isTray 1 = .ok (.i2l, 1) := by decide +kernel
theorem dX12_isTray_2 : decode cX12_isTray 2 = .ok (.lconst 0, 1) := by decide +kernel
theorem dX12_isTray_3 : decode cX12_isTray 3 = .ok (.ldc2_w 392, 3) := by decide +kernel
theorem dX12_isTray_6 : decode cX12_isTray 6 = .ok (.invokestatic 239, 3) := by decide +kernel
theorem dX12_isTray_9 : decode cX12_isTray 9 = .ok (.ireturn, 1) := by decide +kernel
noncomputable def f_X12_isTray (v1 : Int32) (σ : am_H) : Option (Bool) :=
  (f_X12_isIn (Int32.toInt64 v1) 0 4 σ).bind fun p1 =>
  some p1
set_option maxRecDepth 100000 in
set_option maxHeartbeats 4000000 in
theorem q_X12_isTray {X : am_X} (hX : am_ks X = am_ksM) {Q : Option Value → am_H → Prop} (v1 : Int32) (σ : am_H) {o : Bool} (hf : f_X12_isTray v1 σ = some o) (hk : Q (some (.int (am_b o))) σ) : am_G X gm_X12_isTray Q 0 [(0, .ref (am_ad X 12 0)), (1, .int v1)] [] σ := by
  unfold f_X12_isTray at hf
  refine g_iload_n (pc := 0) 1 rfl dX12_isTray_0 rfl ?_
  refine g_i2l (pc := 1) dX12_isTray_1 ?_
  refine g_lconst (pc := 2) (v := 0) dX12_isTray_2 (by decide) ?_
  refine g_ldc2 (pc := 3) (v := 4) (tb_9 (List.mem_of_getElem? (i := 140) (by decide +kernel))) dX12_isTray_3 ?_
  obtain ⟨p1, hp1, hf⟩ := am_bd hf
  refine g_cS (pc := 6) (As := [.long (Int32.toInt64 v1), .long 0, .long 4]) (st := []) (st1 := [.int (am_b p1)]) mS_X12_isIn ln_X12_239 rfl (Nat.le_of_ble_eq_true rfl) (Nat.le_of_ble_eq_true rfl) (k_X12_isIn hX (Int32.toInt64 v1) 0 4 σ hp1) dX12_isTray_6 rfl rfl ?_
  have ho := Option.some.inj hf
  subst ho
  exact g_zreturn (pc := 9) (st := []) (x := p1) rfl dX12_isTray_9 hk
theorem k_X12_isTray {X : am_X} (hX : am_ks X = am_ksM) (v1 : Int32) (σ : am_H) {o : Bool} (hf : f_X12_isTray v1 σ = some o) : am_C X gm_X12_isTray [.ref (am_ad X 12 0), .int v1] σ (am_is (some (.int (am_b o))) σ) :=
  am_ofG rfl (Nat.le_of_ble_eq_true rfl) rfl (q_X12_isTray hX v1 σ hf ⟨rfl, rfl⟩)
theorem dX12_areRead_0 : decode cX12_areRead 0 = .ok (.iconst 0, 1) := by decide +kernel
theorem dX12_areRead_1 : decode cX12_areRead 1 = .ok (.istore 4, 2) := by decide +kernel
theorem dX12_areRead_3 : decode cX12_areRead 3 = .ok (.iload 4, 2) := by decide +kernel
theorem dX12_areRead_5 : decode cX12_areRead 5 = .ok (.iload_n 3, 1) := by decide +kernel
theorem dX12_areRead_6 : decode cX12_areRead 6 = .ok (.if_icmp .ge 47, 3) := by decide +kernel
theorem dX12_areRead_9 : decode cX12_areRead 9 = .ok (.aload_n 0, 1) := by decide +kernel
theorem dX12_areRead_10 : decode cX12_areRead 10 = .ok (.iload_n 1, 1) := by decide +kernel
theorem dX12_areRead_11 : decode cX12_areRead 11 = .ok (.iload 4, 2) := by decide +kernel
theorem dX12_areRead_13 : decode cX12_areRead 13 = .ok (.invokevirtual 394, 3) := by decide +kernel
theorem dX12_areRead_16 : decode cX12_areRead 16 = .ok (.lconst 0, 1) := by decide +kernel
theorem dX12_areRead_17 : decode cX12_areRead 17 = .ok (.ldc2_w 295, 3) := by decide +kernel
theorem dX12_areRead_20 : decode cX12_areRead 20 = .ok (.invokestatic 239, 3) := by decide +kernel
theorem dX12_areRead_23 : decode cX12_areRead 23 = .ok (.ifCond .eq 22, 3) := by decide +kernel
theorem dX12_areRead_26 : decode cX12_areRead 26 = .ok (.aload_n 0, 1) := by decide +kernel
theorem dX12_areRead_27 : decode cX12_areRead 27 = .ok (.iload_n 2, 1) := by decide +kernel
theorem dX12_areRead_28 : decode cX12_areRead 28 = .ok (.iload 4, 2) := by decide +kernel
theorem dX12_areRead_30 : decode cX12_areRead 30 = .ok (.invokevirtual 394, 3) := by decide +kernel
theorem dX12_areRead_33 : decode cX12_areRead 33 = .ok (.ldc2_w 398, 3) := by decide +kernel
theorem dX12_areRead_36 : decode cX12_areRead 36 = .ok (.ldc2_w 400, 3) := by decide +kernel
theorem dX12_areRead_39 : decode cX12_areRead 39 = .ok (.invokestatic 239, 3) := by decide +kernel
theorem dX12_areRead_42 : decode cX12_areRead 42 = .ok (.ifCond .ne 5, 3) := by decide +kernel
theorem dX12_areRead_45 : decode cX12_areRead 45 = .ok (.iconst 0, 1) := by decide +kernel
theorem dX12_areRead_46 : decode cX12_areRead 46 = .ok (.ireturn, 1) := by decide +kernel
theorem dX12_areRead_47 : decode cX12_areRead 47 = .ok (.iinc 4 1, 3) := by decide +kernel
theorem dX12_areRead_50 : decode cX12_areRead 50 = .ok (.goto (-47), 3) := by decide +kernel
theorem dX12_areRead_53 : decode cX12_areRead 53 = .ok (.iconst 1, 1) := by decide +kernel
theorem dX12_areRead_54 : decode cX12_areRead 54 = .ok (.ireturn, 1) := by decide +kernel
noncomputable def f_X12_areRead_3 (v1 : Int32) (v2 : Int32) (v3 : Int32) (v4 : Int32) (σ : am_H) : Option ((Int32) ⊕ ((Unit) ⊕ (Unit))) :=
  if v4 < v3 then
   ((f_X12_numberOf v1 v4 σ).bind fun p2 =>
   (f_X12_isIn p2 0 99999 σ).bind fun p3 =>
   if p3 = true then
    ((f_X12_numberOf v2 v4 σ).bind fun p5 =>
    (f_X12_isIn p5 (-999) 1000 σ).bind fun p6 =>
    if p6 = true then
     (some (.inl (v4 + 1)))
    else
    some (.inr (.inl ())))
   else
   some (.inr (.inl ())))
  else
  some (.inr (.inr ()))
set_option maxRecDepth 100000 in
set_option maxHeartbeats 4000000 in
theorem q_X12_areRead_3 {X : am_X} (hX : am_ks X = am_ksM) {Q : Option Value → am_H → Prop} (v1 : Int32) (v2 : Int32) (v3 : Int32) (v4 : Int32) (σ : am_H) {o : (Int32) ⊕ ((Unit) ⊕ (Unit))} (hf : f_X12_areRead_3 v1 v2 v3 v4 σ = some o) (hk0 : ∀ s, o = .inl s → am_G X gm_X12_areRead Q 3 [(0, .ref (am_ad X 12 0)), (1, .int v1), (2, .int v2), (3, .int v3), (4, .int s)] [] σ) (hk1 : ∀ t, o = .inr (.inl t) → am_G X gm_X12_areRead Q 45 [] [] σ) (hk2 : ∀ t, o = .inr (.inr t) → am_G X gm_X12_areRead Q 53 [] [] σ) : am_G X gm_X12_areRead Q 3 [(0, .ref (am_ad X 12 0)), (1, .int v1), (2, .int v2), (3, .int v3), (4, .int v4)] [] σ := by
  unfold f_X12_areRead_3 at hf
  refine g_iload (pc := 3) 4 rfl dX12_areRead_3 ?_
  refine g_iload_n (pc := 5) 3 rfl dX12_areRead_5 rfl ?_
  refine bi_ge (pc := 6) 53 dX12_areRead_6 rfl (fun c1 => ?_) (fun c1 => ?_)
  · replace hf := am_ifT c1 hf
    refine g_aload_n (pc := 9) 0 rfl dX12_areRead_9 rfl ?_
    refine g_iload_n (pc := 10) 1 rfl dX12_areRead_10 rfl ?_
    refine g_iload (pc := 11) 4 rfl dX12_areRead_11 ?_
    obtain ⟨p2, hp2, hf⟩ := am_bd hf
    refine g_cV (pc := 13) (As := [.int v1, .int v4]) (st := []) (st1 := [.long p2]) (in_12 hX (by omega)) kk_12 mV_X12_numberOf ln_X12_394 rfl (Nat.le_of_ble_eq_true rfl) (Nat.le_of_ble_eq_true rfl) (k_X12_numberOf hX v1 v4 σ hp2) dX12_areRead_13 rfl rfl ?_
    refine g_lconst (pc := 16) (v := 0) dX12_areRead_16 (by decide) ?_
    refine g_ldc2 (pc := 17) (v := 99999) (tb_9 (List.mem_of_getElem? (i := 34) (by decide +kernel))) dX12_areRead_17 ?_
    obtain ⟨p3, hp3, hf⟩ := am_bd hf
    refine g_cS (pc := 20) (As := [.long p2, .long 0, .long 99999]) (st := []) (st1 := [.int (am_b p3)]) mS_X12_isIn ln_X12_239 rfl (Nat.le_of_ble_eq_true rfl) (Nat.le_of_ble_eq_true rfl) (k_X12_isIn hX p2 0 99999 σ hp3) dX12_areRead_20 rfl rfl ?_
    refine bt_eq (pc := 23) 45 dX12_areRead_23 rfl (fun c4 => ?_) (fun c4 => ?_)
    · replace hf := am_ifT c4 hf
      refine g_aload_n (pc := 26) 0 rfl dX12_areRead_26 rfl ?_
      refine g_iload_n (pc := 27) 2 rfl dX12_areRead_27 rfl ?_
      refine g_iload (pc := 28) 4 rfl dX12_areRead_28 ?_
      obtain ⟨p5, hp5, hf⟩ := am_bd hf
      refine g_cV (pc := 30) (As := [.int v2, .int v4]) (st := []) (st1 := [.long p5]) (in_12 hX (by omega)) kk_12 mV_X12_numberOf ln_X12_394 rfl (Nat.le_of_ble_eq_true rfl) (Nat.le_of_ble_eq_true rfl) (k_X12_numberOf hX v2 v4 σ hp5) dX12_areRead_30 rfl rfl ?_
      refine g_ldc2 (pc := 33) (v := (-999)) (tb_9 (List.mem_of_getElem? (i := 153) (by decide +kernel))) dX12_areRead_33 ?_
      refine g_ldc2 (pc := 36) (v := 1000) (tb_9 (List.mem_of_getElem? (i := 154) (by decide +kernel))) dX12_areRead_36 ?_
      obtain ⟨p6, hp6, hf⟩ := am_bd hf
      refine g_cS (pc := 39) (As := [.long p5, .long (-999), .long 1000]) (st := []) (st1 := [.int (am_b p6)]) mS_X12_isIn ln_X12_239 rfl (Nat.le_of_ble_eq_true rfl) (Nat.le_of_ble_eq_true rfl) (k_X12_isIn hX p5 (-999) 1000 σ hp6) dX12_areRead_39 rfl rfl ?_
      refine bt_ne (pc := 42) 47 dX12_areRead_42 rfl (fun c7 => ?_) (fun c7 => ?_)
      · replace hf := am_ifT c7 hf
        refine g_iinc (pc := 47) (v := (v4 + 1)) 4 [(4, .int (v4 + 1)), (0, .ref (am_ad X 12 0)), (1, .int v1), (2, .int v2), (3, .int v3)] dX12_areRead_47 rfl rfl (Nat.le_of_ble_eq_true rfl) rfl ?_
        refine g_goto (pc := 50) 3 dX12_areRead_50 rfl ?_
        have hz := hk0 _ (Option.some.inj hf).symm
        exact am_sub [1, 2, 3, 4, 0] rfl hz
      replace hf := am_ifF c7 hf
      have hz := hk1 _ (Option.some.inj hf).symm
      exact am_sub [] rfl hz
    replace hf := am_ifF c4 hf
    have hz := hk1 _ (Option.some.inj hf).symm
    exact am_sub [] rfl hz
  replace hf := am_ifF c1 hf
  have hz := hk2 _ (Option.some.inj hf).symm
  exact am_sub [] rfl hz
set_option maxRecDepth 100000 in
set_option maxHeartbeats 4000000 in
theorem l_X12_areRead_3 {X : am_X} (hX : am_ks X = am_ksM) {Q : Option Value → am_H → Prop} (v1 : Int32) (v2 : Int32) (v3 : Int32) (σ : am_H) (s : Int32) {o : (Unit) ⊕ (Unit)} (hf : am_loop (fun s => f_X12_areRead_3 v1 v2 v3 s σ) s = some o) (hk1 : ∀ t, o = (.inl t) → am_G X gm_X12_areRead Q 45 [] [] σ) (hk2 : ∀ t, o = (.inr t) → am_G X gm_X12_areRead Q 53 [] [] σ) : am_G X gm_X12_areRead Q 3 [(0, .ref (am_ad X 12 0)), (1, .int v1), (2, .int v2), (3, .int v3), (4, .int s)] [] σ := by
  refine am_loop_ind (P := fun s => am_G X gm_X12_areRead Q 3 [(0, .ref (am_ad X 12 0)), (1, .int v1), (2, .int v2), (3, .int v3), (4, .int s)] [] σ) (K := fun r => r = o) ?_ hf rfl
  intro s o1 hb hi hr
  exact q_X12_areRead_3 hX v1 v2 v3 s  σ hb hi (fun t e => hk1 t (hr _ e).symm) (fun t e => hk2 t (hr _ e).symm)
noncomputable def f_X12_areRead (v1 : Int32) (v2 : Int32) (v3 : Int32) (σ : am_H) : Option (Bool) :=
  (am_loop (fun s => f_X12_areRead_3 v1 v2 v3 s σ) 0).bind fun w1 =>
  Sum.elim (fun t1_0 =>
   some false) (fun u1_0 =>
   some true) w1
set_option maxRecDepth 100000 in
set_option maxHeartbeats 4000000 in
theorem q_X12_areRead {X : am_X} (hX : am_ks X = am_ksM) {Q : Option Value → am_H → Prop} (v1 : Int32) (v2 : Int32) (v3 : Int32) (σ : am_H) {o : Bool} (hf : f_X12_areRead v1 v2 v3 σ = some o) (hk : Q (some (.int (am_b o))) σ) : am_G X gm_X12_areRead Q 0 [(0, .ref (am_ad X 12 0)), (1, .int v1), (2, .int v2), (3, .int v3)] [] σ := by
  unfold f_X12_areRead at hf
  refine g_iconst (pc := 0) (v := 0) dX12_areRead_0 (by decide) ?_
  refine g_istore (pc := 1) [(4, .int 0), (0, .ref (am_ad X 12 0)), (1, .int v1), (2, .int v2), (3, .int v3)] dX12_areRead_1 (Nat.le_of_ble_eq_true rfl) rfl ?_
  obtain ⟨w1, hw1, hf⟩ := am_bd hf
  refine am_sub [1, 2, 3, 4, 0] rfl (l_X12_areRead_3 hX v1 v2 v3  σ 0 hw1 ?_ ?_)
  · intro t1_0 e
    subst e
    replace hf := am_elL hf
    refine g_iconst (pc := 45) (v := 0) dX12_areRead_45 (by decide) ?_
    have ho := Option.some.inj hf
    subst ho
    exact g_zreturn (pc := 46) (st := []) (x := false) rfl dX12_areRead_46 hk
  · intro u1_0 e
    subst e
    replace hf := am_elR hf
    refine g_iconst (pc := 53) (v := 1) dX12_areRead_53 (by decide) ?_
    have ho := Option.some.inj hf
    subst ho
    exact g_zreturn (pc := 54) (st := []) (x := true) rfl dX12_areRead_54 hk
theorem k_X12_areRead {X : am_X} (hX : am_ks X = am_ksM) (v1 : Int32) (v2 : Int32) (v3 : Int32) (σ : am_H) {o : Bool} (hf : f_X12_areRead v1 v2 v3 σ = some o) : am_C X gm_X12_areRead [.ref (am_ad X 12 0), .int v1, .int v2, .int v3] σ (am_is (some (.int (am_b o))) σ) :=
  am_ofG rfl (Nat.le_of_ble_eq_true rfl) rfl (q_X12_areRead hX v1 v2 v3 σ hf ⟨rfl, rfl⟩)
theorem dX12_hourOf_0 : decode cX12_hourOf 0 = .ok (.aload_n 0, 1) := by decide +kernel
theorem dX12_hourOf_1 : decode cX12_hourOf 1 = .ok (.iload_n 1, 1) := by decide +kernel
theorem dX12_hourOf_2 : decode cX12_hourOf 2 = .ok (.iload_n 2, 1) := by decide +kernel
theorem dX12_hourOf_3 : decode cX12_hourOf 3 = .ok (.invokevirtual 394, 3) := by decide +kernel
theorem dX12_hourOf_6 : decode cX12_hourOf 6 = .ok (.l2i, 1) := by decide +kernel
theorem dX12_hourOf_7 : decode cX12_hourOf 7 = .ok (.ireturn, 1) := by decide +kernel
noncomputable def f_X12_hourOf (v1 : Int32) (v2 : Int32) (σ : am_H) : Option (Int32) :=
  (f_X12_numberOf v1 v2 σ).bind fun p1 =>
  some (Int64.toInt32 p1)
set_option maxRecDepth 100000 in
set_option maxHeartbeats 4000000 in
theorem q_X12_hourOf {X : am_X} (hX : am_ks X = am_ksM) {Q : Option Value → am_H → Prop} (v1 : Int32) (v2 : Int32) (σ : am_H) {o : Int32} (hf : f_X12_hourOf v1 v2 σ = some o) (hk : Q (some (.int o)) σ) : am_G X gm_X12_hourOf Q 0 [(0, .ref (am_ad X 12 0)), (1, .int v1), (2, .int v2)] [] σ := by
  unfold f_X12_hourOf at hf
  refine g_aload_n (pc := 0) 0 rfl dX12_hourOf_0 rfl ?_
  refine g_iload_n (pc := 1) 1 rfl dX12_hourOf_1 rfl ?_
  refine g_iload_n (pc := 2) 2 rfl dX12_hourOf_2 rfl ?_
  obtain ⟨p1, hp1, hf⟩ := am_bd hf
  refine g_cV (pc := 3) (As := [.int v1, .int v2]) (st := []) (st1 := [.long p1]) (in_12 hX (by omega)) kk_12 mV_X12_numberOf ln_X12_394 rfl (Nat.le_of_ble_eq_true rfl) (Nat.le_of_ble_eq_true rfl) (k_X12_numberOf hX v1 v2 σ hp1) dX12_hourOf_3 rfl rfl ?_
  refine g_l2i (pc := 6) dX12_hourOf_6 ?_
  have ho := Option.some.inj hf
  subst ho
  exact g_ireturn (pc := 7) (st := []) rfl dX12_hourOf_7 hk
theorem k_X12_hourOf {X : am_X} (hX : am_ks X = am_ksM) (v1 : Int32) (v2 : Int32) (σ : am_H) {o : Int32} (hf : f_X12_hourOf v1 v2 σ = some o) : am_C X gm_X12_hourOf [.ref (am_ad X 12 0), .int v1, .int v2] σ (am_is (some (.int o)) σ) :=
  am_ofG rfl (Nat.le_of_ble_eq_true rfl) rfl (q_X12_hourOf hX v1 v2 σ hf ⟨rfl, rfl⟩)
theorem dX12_partOf_0 : decode cX12_partOf 0 = .ok (.iload 4, 2) := by decide +kernel
theorem dX12_partOf_2 : decode cX12_partOf 2 = .ok (.ifCond .ne 5, 3) := by decide +kernel
theorem dX12_partOf_5 : decode cX12_partOf 5 = .ok (.iconst 1, 1) := by decide +kernel
theorem dX12_partOf_6 : decode cX12_partOf 6 = .ok (.ireturn, 1) := by decide +kernel
theorem dX12_partOf_7 : decode cX12_partOf 7 = .ok (.aload_n 0, 1) := by decide +kernel
theorem dX12_partOf_8 : decode cX12_partOf 8 = .ok (.iload_n 1, 1) := by decide +kernel
theorem dX12_partOf_9 : decode cX12_partOf 9 = .ok (.iload 4, 2) := by decide +kernel
theorem dX12_partOf_11 : decode cX12_partOf 11 = .ok (.iconst 3, 1) := by decide +kernel
theorem dX12_partOf_12 : decode cX12_partOf 12 = .ok (.if_icmp .ge 7, 3) := by decide +kernel
theorem dX12_partOf_15 : decode cX12_partOf 15 = .ok (.iload_n 2, 1) := by decide +kernel
theorem dX12_partOf_16 : decode cX12_partOf 16 = .ok (.goto 4, 3) := by decide +kernel
theorem dX12_partOf_19 : decode cX12_partOf 19 = .ok (.iload_n 3, 1) := by decide +kernel
theorem dX12_partOf_20 : decode cX12_partOf 20 = .ok (.iload 5, 2) := by decide +kernel
theorem dX12_partOf_22 : decode cX12_partOf 22 = .ok (.invokevirtual 318, 3) := by decide +kernel
theorem dX12_partOf_25 : decode cX12_partOf 25 = .ok (.istore 6, 2) := by decide +kernel
theorem dX12_partOf_27 : decode cX12_partOf 27 = .ok (.iload 4, 2) := by decide +kernel
theorem dX12_partOf_29 : decode cX12_partOf 29 = .ok (.iconst 2, 1) := by decide +kernel
theorem dX12_partOf_30 : decode cX12_partOf 30 = .ok (.irem, 1) := by decide +kernel
theorem dX12_partOf_31 : decode cX12_partOf 31 = .ok (.iconst 1, 1) := by decide +kernel
theorem dX12_partOf_32 : decode cX12_partOf 32 = .ok (.if_icmp .ne 11, 3) := by decide +kernel
theorem dX12_partOf_35 : decode cX12_partOf 35 = .ok (.iload 6, 2) := by decide +kernel
theorem dX12_partOf_37 : decode cX12_partOf 37 = .ok (.invokestatic 313, 3) := by decide +kernel
theorem dX12_partOf_40 : decode cX12_partOf 40 = .ok (.goto 8, 3) := by decide +kernel
theorem dX12_partOf_43 : decode cX12_partOf 43 = .ok (.iload 6, 2) := by decide +kernel
theorem dX12_partOf_45 : decode cX12_partOf 45 = .ok (.invokestatic 402, 3) := by decide +kernel
theorem dX12_partOf_48 : decode cX12_partOf 48 = .ok (.ireturn, 1) := by decide +kernel
noncomputable def f_X12_partOf_20 (v4 : Int32) (v5 : Int32) (k1 : Int32) (k2 : Int32) (σ : am_H) : Option (Int32) :=
  (f_X12_trueFrom k1 k2 v5 σ).bind fun p1 =>
  if (am_iR v4 2) = 1 then
   ((f_X12_cosine p1 σ).bind fun p3 =>
   some p3)
  else
  (f_X12_sine p1 σ).bind fun p4 =>
  some p4
set_option maxRecDepth 100000 in
set_option maxHeartbeats 4000000 in
theorem q_X12_partOf_20 {X : am_X} (hX : am_ks X = am_ksM) {Q : Option Value → am_H → Prop} (v4 : Int32) (v5 : Int32) (k1 : Int32) (k2 : Int32) (σ : am_H) {o : Int32} (hf : f_X12_partOf_20 v4 v5 k1 k2 σ = some o) (hk : Q (some (.int o)) σ) : am_G X gm_X12_partOf Q 20 [(4, .int v4), (5, .int v5)] [.int k2, .int k1, .ref (am_ad X 12 0)] σ := by
  unfold f_X12_partOf_20 at hf
  refine g_iload (pc := 20) 1 rfl dX12_partOf_20 ?_
  obtain ⟨p1, hp1, hf⟩ := am_bd hf
  refine g_cV (pc := 22) (As := [.int k1, .int k2, .int v5]) (st := []) (st1 := [.int p1]) (in_12 hX (by omega)) kk_12 mV_X12_trueFrom ln_X12_318 rfl (Nat.le_of_ble_eq_true rfl) (Nat.le_of_ble_eq_true rfl) (k_X12_trueFrom hX k1 k2 v5 σ hp1) dX12_partOf_22 rfl rfl ?_
  refine g_istore (pc := 25) [(6, .int p1), (4, .int v4), (5, .int v5)] dX12_partOf_25 (Nat.le_of_ble_eq_true rfl) rfl ?_
  refine g_iload (pc := 27) 1 rfl dX12_partOf_27 ?_
  refine g_iconst (pc := 29) (v := 2) dX12_partOf_29 (by decide) ?_
  refine g_irem (pc := 30) dX12_partOf_30 (by decide) ?_
  refine g_iconst (pc := 31) (v := 1) dX12_partOf_31 (by decide) ?_
  refine bi_ne (pc := 32) 43 dX12_partOf_32 rfl (fun c2 => ?_) (fun c2 => ?_)
  · replace hf := am_ifT c2 hf
    refine g_iload (pc := 35) 0 rfl dX12_partOf_35 ?_
    obtain ⟨p3, hp3, hf⟩ := am_bd hf
    refine g_cS (pc := 37) (As := [.int p1]) (st := []) (st1 := [.int p3]) mS_X12_cosine ln_X12_313 rfl (Nat.le_of_ble_eq_true rfl) (Nat.le_of_ble_eq_true rfl) (k_X12_cosine hX p1 σ hp3) dX12_partOf_37 rfl rfl ?_
    refine g_goto (pc := 40) 48 dX12_partOf_40 rfl ?_
    have ho := Option.some.inj hf
    subst ho
    exact g_ireturn (pc := 48) (st := []) rfl dX12_partOf_48 hk
  replace hf := am_ifF c2 hf
  refine g_iload (pc := 43) 0 rfl dX12_partOf_43 ?_
  obtain ⟨p4, hp4, hf⟩ := am_bd hf
  refine g_cS (pc := 45) (As := [.int p1]) (st := []) (st1 := [.int p4]) mS_X12_sine ln_X12_402 rfl (Nat.le_of_ble_eq_true rfl) (Nat.le_of_ble_eq_true rfl) (k_X12_sine hX p1 σ hp4) dX12_partOf_45 rfl rfl ?_
  have ho := Option.some.inj hf
  subst ho
  exact g_ireturn (pc := 48) (st := []) rfl dX12_partOf_48 hk
noncomputable def f_X12_partOf (v1 : Int32) (v2 : Int32) (v3 : Int32) (v4 : Int32) (v5 : Int32) (σ : am_H) : Option (Int32) :=
  if v4 = 0 then
   (some 1)
  else
  if v4 < 3 then
   (f_X12_partOf_20 v4 v5 v1 v2 σ)
  else
  f_X12_partOf_20 v4 v5 v1 v3 σ
set_option maxRecDepth 100000 in
set_option maxHeartbeats 4000000 in
theorem q_X12_partOf {X : am_X} (hX : am_ks X = am_ksM) {Q : Option Value → am_H → Prop} (v1 : Int32) (v2 : Int32) (v3 : Int32) (v4 : Int32) (v5 : Int32) (σ : am_H) {o : Int32} (hf : f_X12_partOf v1 v2 v3 v4 v5 σ = some o) (hk : Q (some (.int o)) σ) : am_G X gm_X12_partOf Q 0 [(0, .ref (am_ad X 12 0)), (1, .int v1), (2, .int v2), (3, .int v3), (4, .int v4), (5, .int v5)] [] σ := by
  unfold f_X12_partOf at hf
  refine g_iload (pc := 0) 4 rfl dX12_partOf_0 ?_
  refine bz_ne (pc := 2) 7 dX12_partOf_2 rfl (fun c1 => ?_) (fun c1 => ?_)
  · replace hf := am_ifT c1 hf
    refine g_iconst (pc := 5) (v := 1) dX12_partOf_5 (by decide) ?_
    have ho := Option.some.inj hf
    subst ho
    exact g_ireturn (pc := 6) (st := []) rfl dX12_partOf_6 hk
  replace hf := am_ifF c1 hf
  refine g_aload_n (pc := 7) 0 rfl dX12_partOf_7 rfl ?_
  refine g_iload_n (pc := 8) 1 rfl dX12_partOf_8 rfl ?_
  refine g_iload (pc := 9) 4 rfl dX12_partOf_9 ?_
  refine g_iconst (pc := 11) (v := 3) dX12_partOf_11 (by decide) ?_
  refine bi_ge (pc := 12) 19 dX12_partOf_12 rfl (fun c2 => ?_) (fun c2 => ?_)
  · replace hf := am_ifT c2 hf
    refine g_iload_n (pc := 15) 2 rfl dX12_partOf_15 rfl ?_
    refine g_goto (pc := 16) 20 dX12_partOf_16 rfl ?_
    exact am_sub [4, 5] rfl (q_X12_partOf_20 hX v4 v5 v1 v2 σ hf hk)
  replace hf := am_ifF c2 hf
  refine g_iload_n (pc := 19) 3 rfl dX12_partOf_19 rfl ?_
  exact am_sub [4, 5] rfl (q_X12_partOf_20 hX v4 v5 v1 v3 σ hf hk)
theorem k_X12_partOf {X : am_X} (hX : am_ks X = am_ksM) (v1 : Int32) (v2 : Int32) (v3 : Int32) (v4 : Int32) (v5 : Int32) (σ : am_H) {o : Int32} (hf : f_X12_partOf v1 v2 v3 v4 v5 σ = some o) : am_C X gm_X12_partOf [.ref (am_ad X 12 0), .int v1, .int v2, .int v3, .int v4, .int v5] σ (am_is (some (.int o)) σ) :=
  am_ofG rfl (Nat.le_of_ble_eq_true rfl) rfl (q_X12_partOf hX v1 v2 v3 v4 v5 σ hf ⟨rfl, rfl⟩)
theorem dX12_reckon_0 : decode cX12_reckon 0 = .ok (.iload_n 1, 1) := by decide +kernel
theorem dX12_reckon_1 : decode cX12_reckon 1 = .ok (.aload_n 0, 1) := by decide +kernel
theorem dX12_reckon_2 : decode cX12_reckon 2 = .ok (.getfield 405, 3) := by decide +kernel
theorem dX12_reckon_5 : decode cX12_reckon 5 = .ok (.if_icmp .ne 5, 3) := by decide +kernel
theorem dX12_reckon_8 : decode cX12_reckon 8 = .ok (.lconst 1, 1) := by decide +kernel
theorem dX12_reckon_9 : decode cX12_reckon 9 = .ok (.lreturn, 1) := by decide +kernel
theorem dX12_reckon_10 : decode cX12_reckon 10 = .ok (.lconst 0, 1) := by decide +kernel
theorem dX12_reckon_11 : decode cX12_reckon 11 = .ok (.lstore 4, 2) := by decide +kernel
theorem dX12_reckon_13 : decode cX12_reckon 13 = .ok (.lconst 1, 1) := by decide +kernel
theorem dX12_reckon_14 : decode cX12_reckon 14 = .ok (.lstore 6, 2) := by decide +kernel
theorem dX12_reckon_16 : decode cX12_reckon 16 = .ok (.iconst 0, 1) := by decide +kernel
theorem dX12_reckon_17 : decode cX12_reckon 17 = .ok (.istore 8, 2) := by decide +kernel
theorem dX12_reckon_19 : decode cX12_reckon 19 = .ok (.iload 8, 2) := by decide +kernel
theorem dX12_reckon_21 : decode cX12_reckon 21 = .ok (.aload_n 0, 1) := by decide +kernel
theorem dX12_reckon_22 : decode cX12_reckon 22 = .ok (.getfield 405, 3) := by decide +kernel
theorem dX12_reckon_25 : decode cX12_reckon 25 = .ok (.if_icmp .ge 87, 3) := by decide +kernel
theorem dX12_reckon_28 : decode cX12_reckon 28 = .ok (.iload_n 2, 1) := by decide +kernel
theorem dX12_reckon_29 : decode cX12_reckon 29 = .ok (.iload 8, 2) := by decide +kernel
theorem dX12_reckon_31 : decode cX12_reckon 31 = .ok (.ishr, 1) := by decide +kernel
theorem dX12_reckon_32 : decode cX12_reckon 32 = .ok (.iconst 1, 1) := by decide +kernel
theorem dX12_reckon_33 : decode cX12_reckon 33 = .ok (.iand, 1) := by decide +kernel
theorem dX12_reckon_34 : decode cX12_reckon 34 = .ok (.iconst 1, 1) := by decide +kernel
theorem dX12_reckon_35 : decode cX12_reckon 35 = .ok (.if_icmp .ne 6, 3) := by decide +kernel
theorem dX12_reckon_38 : decode cX12_reckon 38 = .ok (.goto 68, 3) := by decide +kernel
theorem dX12_reckon_41 : decode cX12_reckon 41 = .ok (.iload 8, 2) := by decide +kernel
theorem dX12_reckon_43 : decode cX12_reckon 43 = .ok (.iload_n 3, 1) := by decide +kernel
theorem dX12_reckon_44 : decode cX12_reckon 44 = .ok (.if_icmp .ne 12, 3) := by decide +kernel
theorem dX12_reckon_47 : decode cX12_reckon 47 = .ok (.aload_n 0, 1) := by decide +kernel
theorem dX12_reckon_48 : decode cX12_reckon 48 = .ok (.getfield 110, 3) := by decide +kernel
theorem dX12_reckon_51 : decode cX12_reckon 51 = .ok (.iload_n 1, 1) := by decide +kernel
theorem dX12_reckon_52 : decode cX12_reckon 52 = .ok (.laload, 1) := by decide +kernel
theorem dX12_reckon_53 : decode cX12_reckon 53 = .ok (.goto 14, 3) := by decide +kernel
theorem dX12_reckon_56 : decode cX12_reckon 56 = .ok (.aload_n 0, 1) := by decide +kernel
theorem dX12_reckon_57 : decode cX12_reckon 57 = .ok (.getfield 107, 3) := by decide +kernel
theorem dX12_reckon_60 : decode cX12_reckon 60 = .ok (.iconst 5, 1) := by decide +kernel
theorem dX12_reckon_61 : decode cX12_reckon 61 = .ok (.iload_n 1, 1) := by decide +kernel
theorem dX12_reckon_62 : decode cX12_reckon 62 = .ok (.imul, 1) := by decide +kernel
theorem dX12_reckon_63 : decode cX12_reckon 63 = .ok (.iload 8, 2) := by decide +kernel
theorem dX12_reckon_65 : decode cX12_reckon 65 = .ok (.iadd, 1) := by decide +kernel
theorem dX12_reckon_66 : decode cX12_reckon 66 = .ok (.laload, 1) := by decide +kernel
theorem dX12_reckon_67 : decode cX12_reckon 67 = .ok (.lstore 9, 2) := by decide +kernel
theorem dX12_reckon_69 : decode cX12_reckon 69 = .ok (.lload 9, 2) := by decide +kernel
theorem dX12_reckon_71 : decode cX12_reckon 71 = .ok (.lconst 0, 1) := by decide +kernel
theorem dX12_reckon_72 : decode cX12_reckon 72 = .ok (.lcmp, 1) := by decide +kernel
theorem dX12_reckon_73 : decode cX12_reckon 73 = .ok (.ifCond .eq 28, 3) := by decide +kernel
theorem dX12_reckon_76 : decode cX12_reckon 76 = .ok (.lload 4, 2) := by decide +kernel
theorem dX12_reckon_78 : decode cX12_reckon 78 = .ok (.lload 6, 2) := by decide +kernel
theorem dX12_reckon_80 : decode cX12_reckon 80 = .ok (.lload 9, 2) := by decide +kernel
theorem dX12_reckon_82 : decode cX12_reckon 82 = .ok (.lmul, 1) := by decide +kernel
theorem dX12_reckon_83 : decode cX12_reckon 83 = .ok (.aload_n 0, 1) := by decide +kernel
theorem dX12_reckon_84 : decode cX12_reckon 84 = .ok (.iload_n 1, 1) := by decide +kernel
theorem dX12_reckon_85 : decode cX12_reckon 85 = .ok (.iconst 1, 1) := by decide +kernel
theorem dX12_reckon_86 : decode cX12_reckon 86 = .ok (.iadd, 1) := by decide +kernel
theorem dX12_reckon_87 : decode cX12_reckon 87 = .ok (.iload_n 2, 1) := by decide +kernel
theorem dX12_reckon_88 : decode cX12_reckon 88 = .ok (.iconst 1, 1) := by decide +kernel
theorem dX12_reckon_89 : decode cX12_reckon 89 = .ok (.iload 8, 2) := by decide +kernel
theorem dX12_reckon_91 : decode cX12_reckon 91 = .ok (.ishl, 1) := by decide +kernel
theorem dX12_reckon_92 : decode cX12_reckon 92 = .ok (.ior, 1) := by decide +kernel
theorem dX12_reckon_93 : decode cX12_reckon 93 = .ok (.iload_n 3, 1) := by decide +kernel
theorem dX12_reckon_94 : decode cX12_reckon 94 = .ok (.invokevirtual 415, 3) := by decide +kernel
theorem dX12_reckon_97 : decode cX12_reckon 97 = .ok (.lmul, 1) := by decide +kernel
theorem dX12_reckon_98 : decode cX12_reckon 98 = .ok (.ladd, 1) := by decide +kernel
theorem dX12_reckon_99 : decode cX12_reckon 99 = .ok (.lstore 4, 2) := by decide +kernel
theorem dX12_reckon_101 : decode cX12_reckon 101 = .ok (.lload 6, 2) := by decide +kernel
theorem dX12_reckon_103 : decode cX12_reckon 103 = .ok (.lneg, 1) := by decide +kernel
theorem dX12_reckon_104 : decode cX12_reckon 104 = .ok (.lstore 6, 2) := by decide +kernel
theorem dX12_reckon_106 : decode cX12_reckon 106 = .ok (.iinc 8 1, 3) := by decide +kernel
theorem dX12_reckon_109 : decode cX12_reckon 109 = .ok (.goto (-90), 3) := by decide +kernel
theorem dX12_reckon_112 : decode cX12_reckon 112 = .ok (.lload 4, 2) := by decide +kernel
theorem dX12_reckon_114 : decode cX12_reckon 114 = .ok (.lreturn, 1) := by decide +kernel
noncomputable def f_X12_reckon_67 (rc : Int32 → Int32 → Int32 → am_H → Option (Int64)) (v1 : Int32) (v2 : Int32) (v3 : Int32) (v4 : Int64) (v6 : Int64) (v8 : Int32) (k0 : Int64) (σ : am_H) : Option ((Int64 × Int64 × Int32) ⊕ (Int64)) :=
  if k0 = 0 then
   (some (.inl (v4, (-v6), (v8 + 1))))
  else
  (rc (v1 + 1) (v2 ||| (1 <<< (v8 &&& 31))) v3 σ).bind fun p2 =>
  some (.inl ((v4 + ((v6 * k0) * p2)), (-v6), (v8 + 1)))
set_option maxRecDepth 100000 in
set_option maxHeartbeats 4000000 in
theorem q_X12_reckon_67 {X : am_X} (hX : am_ks X = am_ksM) {Q : Option Value → am_H → Prop} (n : Nat) (rc : Int32 → Int32 → Int32 → am_H → Option (Int64)) (hrc : ∀ (v1 : Int32) (v2 : Int32) (v3 : Int32) (σ : am_H) (o : Int64), rc v1 v2 v3 σ = some o → am_C X (gm_X12_reckon n) [.ref (am_ad X 12 0), .int v1, .int v2, .int v3] σ (am_is (some (.long o)) σ)) (v1 : Int32) (v2 : Int32) (v3 : Int32) (v4 : Int64) (v6 : Int64) (v8 : Int32) (k0 : Int64) (σ : am_H) {o : (Int64 × Int64 × Int32) ⊕ (Int64)} (hf : f_X12_reckon_67 rc v1 v2 v3 v4 v6 v8 k0 σ = some o) (hk0 : ∀ s, o = .inl s → am_G X (gm_X12_reckon (n + 1)) Q 19 [(0, .ref (am_ad X 12 0)), (1, .int v1), (2, .int v2), (3, .int v3), (4, .long s.1), (6, .long s.2.1), (8, .int s.2.2)] [] σ) (hk1 : ∀ t, o = .inr t → am_G X (gm_X12_reckon (n + 1)) Q 112 [(4, .long t)] [] σ) : am_G X (gm_X12_reckon (n + 1)) Q 67 [(0, .ref (am_ad X 12 0)), (1, .int v1), (2, .int v2), (3, .int v3), (4, .long v4), (6, .long v6), (8, .int v8)] [.long k0] σ := by
  unfold f_X12_reckon_67 at hf
  refine g_lstore (pc := 67) [(9, .long k0), (0, .ref (am_ad X 12 0)), (1, .int v1), (2, .int v2), (3, .int v3), (4, .long v4), (6, .long v6), (8, .int v8)] dX12_reckon_67 (Nat.le_of_ble_eq_true rfl) rfl ?_
  refine g_lload (pc := 69) 0 rfl dX12_reckon_69 ?_
  refine g_lconst (pc := 71) (v := 0) dX12_reckon_71 (by decide) ?_
  refine g_lcm (pc := 72) dX12_reckon_72 ?_
  refine bl_eq (pc := 73) 101 dX12_reckon_73 rfl (fun c1 => ?_) (fun c1 => ?_)
  · replace hf := am_ifT c1 hf
    refine g_lload (pc := 101) 6 rfl dX12_reckon_101 ?_
    refine g_lneg (pc := 103) dX12_reckon_103 ?_
    refine g_lstore (pc := 104) [(6, .long (-v6)), (9, .long k0), (0, .ref (am_ad X 12 0)), (1, .int v1), (2, .int v2), (3, .int v3), (4, .long v4), (8, .int v8)] dX12_reckon_104 (Nat.le_of_ble_eq_true rfl) rfl ?_
    refine g_iinc (pc := 106) (v := (v8 + 1)) 7 [(8, .int (v8 + 1)), (6, .long (-v6)), (9, .long k0), (0, .ref (am_ad X 12 0)), (1, .int v1), (2, .int v2), (3, .int v3), (4, .long v4)] dX12_reckon_106 rfl rfl (Nat.le_of_ble_eq_true rfl) rfl ?_
    refine g_goto (pc := 109) 19 dX12_reckon_109 rfl ?_
    have hz := hk0 _ (Option.some.inj hf).symm
    exact am_sub [3, 4, 5, 6, 7, 1, 0] rfl hz
  replace hf := am_ifF c1 hf
  refine g_lload (pc := 76) 5 rfl dX12_reckon_76 ?_
  refine g_lload (pc := 78) 6 rfl dX12_reckon_78 ?_
  refine g_lload (pc := 80) 0 rfl dX12_reckon_80 ?_
  refine g_lmul (pc := 82) dX12_reckon_82 ?_
  refine g_aload_n (pc := 83) 1 rfl dX12_reckon_83 rfl ?_
  refine g_iload_n (pc := 84) 2 rfl dX12_reckon_84 rfl ?_
  refine g_iconst (pc := 85) (v := 1) dX12_reckon_85 (by decide) ?_
  refine g_iadd (pc := 86) dX12_reckon_86 ?_
  refine g_iload_n (pc := 87) 3 rfl dX12_reckon_87 rfl ?_
  refine g_iconst (pc := 88) (v := 1) dX12_reckon_88 (by decide) ?_
  refine g_iload (pc := 89) 7 rfl dX12_reckon_89 ?_
  refine g_ishl (pc := 91) dX12_reckon_91 ?_
  refine g_ior (pc := 92) dX12_reckon_92 ?_
  refine g_iload_n (pc := 93) 4 rfl dX12_reckon_93 rfl ?_
  obtain ⟨p2, hp2, hf⟩ := am_bd hf
  refine g_cV (pc := 94) (As := [.int (v1 + 1), .int (v2 ||| (1 <<< (v8 &&& 31))), .int v3]) (st := [.long (v6 * k0), .long v4]) (st1 := [.long p2, .long (v6 * k0), .long v4]) (in_12 hX (by omega)) kk_12 (mV_X12_reckon _) ln_X12_415 rfl (by first | exact Nat.le_of_ble_eq_true rfl | (show _ + 1 ≤ _; simp only []; omega)) (Nat.le_of_ble_eq_true rfl) (hrc (v1 + 1) (v2 ||| (1 <<< (v8 &&& 31))) v3 σ _ hp2) dX12_reckon_94 rfl rfl ?_
  refine g_lmul (pc := 97) dX12_reckon_97 ?_
  refine g_ladd (pc := 98) dX12_reckon_98 ?_
  refine g_lstore (pc := 99) [(4, .long (v4 + ((v6 * k0) * p2))), (9, .long k0), (0, .ref (am_ad X 12 0)), (1, .int v1), (2, .int v2), (3, .int v3), (6, .long v6), (8, .int v8)] dX12_reckon_99 (Nat.le_of_ble_eq_true rfl) rfl ?_
  refine g_lload (pc := 101) 6 rfl dX12_reckon_101 ?_
  refine g_lneg (pc := 103) dX12_reckon_103 ?_
  refine g_lstore (pc := 104) [(6, .long (-v6)), (4, .long (v4 + ((v6 * k0) * p2))), (9, .long k0), (0, .ref (am_ad X 12 0)), (1, .int v1), (2, .int v2), (3, .int v3), (8, .int v8)] dX12_reckon_104 (Nat.le_of_ble_eq_true rfl) rfl ?_
  refine g_iinc (pc := 106) (v := (v8 + 1)) 7 [(8, .int (v8 + 1)), (6, .long (-v6)), (4, .long (v4 + ((v6 * k0) * p2))), (9, .long k0), (0, .ref (am_ad X 12 0)), (1, .int v1), (2, .int v2), (3, .int v3)] dX12_reckon_106 rfl rfl (Nat.le_of_ble_eq_true rfl) rfl ?_
  refine g_goto (pc := 109) 19 dX12_reckon_109 rfl ?_
  have hz := hk0 _ (Option.some.inj hf).symm
  exact am_sub [4, 5, 6, 7, 2, 1, 0] rfl hz
noncomputable def f_X12_reckon_19 (rc : Int32 → Int32 → Int32 → am_H → Option (Int64)) (v1 : Int32) (v2 : Int32) (v3 : Int32) (v4 : Int64) (v6 : Int64) (v8 : Int32) (σ : am_H) : Option ((Int64 × Int64 × Int32) ⊕ (Int64)) :=
  if v8 < (σ.1 12 0 81) then
   (if ((v2 >>> (v8 &&& 31)) &&& 1) = 1 then
    (some (.inl (v4, v6, (v8 + 1))))
   else
   if v8 = v3 then
    ((am_ix 5 v1).bind fun j4 =>
    f_X12_reckon_67 rc v1 v2 v3 v4 v6 v8 (σ.2.1 1380 0 j4) σ)
   else
   (am_ix 25 ((5 * v1) + v8)).bind fun j5 =>
   f_X12_reckon_67 rc v1 v2 v3 v4 v6 v8 (σ.2.1 1379 0 j5) σ)
  else
  some (.inr v4)
set_option maxRecDepth 100000 in
set_option maxHeartbeats 4000000 in
theorem q_X12_reckon_19 {X : am_X} (hX : am_ks X = am_ksM) {Q : Option Value → am_H → Prop} (n : Nat) (rc : Int32 → Int32 → Int32 → am_H → Option (Int64)) (hrc : ∀ (v1 : Int32) (v2 : Int32) (v3 : Int32) (σ : am_H) (o : Int64), rc v1 v2 v3 σ = some o → am_C X (gm_X12_reckon n) [.ref (am_ad X 12 0), .int v1, .int v2, .int v3] σ (am_is (some (.long o)) σ)) (v1 : Int32) (v2 : Int32) (v3 : Int32) (v4 : Int64) (v6 : Int64) (v8 : Int32) (σ : am_H) {o : (Int64 × Int64 × Int32) ⊕ (Int64)} (hf : f_X12_reckon_19 rc v1 v2 v3 v4 v6 v8 σ = some o) (hk0 : ∀ s, o = .inl s → am_G X (gm_X12_reckon (n + 1)) Q 19 [(0, .ref (am_ad X 12 0)), (1, .int v1), (2, .int v2), (3, .int v3), (4, .long s.1), (6, .long s.2.1), (8, .int s.2.2)] [] σ) (hk1 : ∀ t, o = .inr t → am_G X (gm_X12_reckon (n + 1)) Q 112 [(4, .long t)] [] σ) : am_G X (gm_X12_reckon (n + 1)) Q 19 [(0, .ref (am_ad X 12 0)), (1, .int v1), (2, .int v2), (3, .int v3), (4, .long v4), (6, .long v6), (8, .int v8)] [] σ := by
  unfold f_X12_reckon_19 at hf
  refine g_iload (pc := 19) 6 rfl dX12_reckon_19 ?_
  refine g_aload_n (pc := 21) 0 rfl dX12_reckon_21 rfl ?_
  refine g_getI (pc := 22) (in_12 hX (by omega)) fr_X12_405 dX12_reckon_22 ?_
  refine bi_ge (pc := 25) 112 dX12_reckon_25 rfl (fun c1 => ?_) (fun c1 => ?_)
  · replace hf := am_ifT c1 hf
    refine g_iload_n (pc := 28) 2 rfl dX12_reckon_28 rfl ?_
    refine g_iload (pc := 29) 6 rfl dX12_reckon_29 ?_
    refine g_ishr (pc := 31) dX12_reckon_31 ?_
    refine g_iconst (pc := 32) (v := 1) dX12_reckon_32 (by decide) ?_
    refine g_iand (pc := 33) dX12_reckon_33 ?_
    refine g_iconst (pc := 34) (v := 1) dX12_reckon_34 (by decide) ?_
    refine bi_ne (pc := 35) 41 dX12_reckon_35 rfl (fun c2 => ?_) (fun c2 => ?_)
    · replace hf := am_ifT c2 hf
      refine g_goto (pc := 38) 106 dX12_reckon_38 rfl ?_
      refine g_iinc (pc := 106) (v := (v8 + 1)) 6 [(8, .int (v8 + 1)), (0, .ref (am_ad X 12 0)), (1, .int v1), (2, .int v2), (3, .int v3), (4, .long v4), (6, .long v6)] dX12_reckon_106 rfl rfl (Nat.le_of_ble_eq_true rfl) rfl ?_
      refine g_goto (pc := 109) 19 dX12_reckon_109 rfl ?_
      have hz := hk0 _ (Option.some.inj hf).symm
      exact am_sub [1, 2, 3, 4, 5, 6, 0] rfl hz
    replace hf := am_ifF c2 hf
    refine g_iload (pc := 41) 6 rfl dX12_reckon_41 ?_
    refine g_iload_n (pc := 43) 3 rfl dX12_reckon_43 rfl ?_
    refine bi_ne (pc := 44) 56 dX12_reckon_44 rfl (fun c3 => ?_) (fun c3 => ?_)
    · replace hf := am_ifT c3 hf
      refine g_aload_n (pc := 47) 0 rfl dX12_reckon_47 rfl ?_
      refine g_getC (pc := 48) (e := 0) (in_12 hX (by omega)) fr_X12_110 dX12_reckon_48 rfl ?_
      refine g_iload_n (pc := 51) 1 rfl dX12_reckon_51 rfl ?_
      obtain ⟨j4, hj4, hf⟩ := am_bd hf
      have gj4 := am_ix_lt hj4
      refine g_aJ (pc := 52) (in_1380 hX (by omega)) ak_1380 hj4 dX12_reckon_52 ?_
      refine g_goto (pc := 53) 67 dX12_reckon_53 rfl ?_
      exact q_X12_reckon_67 hX n rc hrc v1 v2 v3 v4 v6 v8 (σ.2.1 1380 0 j4) σ hf hk0 hk1
    replace hf := am_ifF c3 hf
    refine g_aload_n (pc := 56) 0 rfl dX12_reckon_56 rfl ?_
    refine g_getC (pc := 57) (e := 0) (in_12 hX (by omega)) fr_X12_107 dX12_reckon_57 rfl ?_
    refine g_iconst (pc := 60) (v := 5) dX12_reckon_60 (by decide) ?_
    refine g_iload_n (pc := 61) 1 rfl dX12_reckon_61 rfl ?_
    refine g_imul (pc := 62) dX12_reckon_62 ?_
    refine g_iload (pc := 63) 6 rfl dX12_reckon_63 ?_
    refine g_iadd (pc := 65) dX12_reckon_65 ?_
    obtain ⟨j5, hj5, hf⟩ := am_bd hf
    have gj5 := am_ix_lt hj5
    refine g_aJ (pc := 66) (in_1379 hX (by omega)) ak_1379 hj5 dX12_reckon_66 ?_
    exact q_X12_reckon_67 hX n rc hrc v1 v2 v3 v4 v6 v8 (σ.2.1 1379 0 j5) σ hf hk0 hk1
  replace hf := am_ifF c1 hf
  have hz := hk1 _ (Option.some.inj hf).symm
  exact am_sub [4] rfl hz
set_option maxRecDepth 100000 in
set_option maxHeartbeats 4000000 in
theorem l_X12_reckon_19 {X : am_X} (hX : am_ks X = am_ksM) {Q : Option Value → am_H → Prop} (n : Nat) (rc : Int32 → Int32 → Int32 → am_H → Option (Int64)) (hrc : ∀ (v1 : Int32) (v2 : Int32) (v3 : Int32) (σ : am_H) (o : Int64), rc v1 v2 v3 σ = some o → am_C X (gm_X12_reckon n) [.ref (am_ad X 12 0), .int v1, .int v2, .int v3] σ (am_is (some (.long o)) σ)) (v1 : Int32) (v2 : Int32) (v3 : Int32) (σ : am_H) (s : Int64 × Int64 × Int32) {o : Int64} (hf : am_loop (fun s => f_X12_reckon_19 rc v1 v2 v3 s.1 s.2.1 s.2.2 σ) s = some o) (hk1 : ∀ t, o = t → am_G X (gm_X12_reckon (n + 1)) Q 112 [(4, .long t)] [] σ) : am_G X (gm_X12_reckon (n + 1)) Q 19 [(0, .ref (am_ad X 12 0)), (1, .int v1), (2, .int v2), (3, .int v3), (4, .long s.1), (6, .long s.2.1), (8, .int s.2.2)] [] σ := by
  refine am_loop_ind (P := fun s => am_G X (gm_X12_reckon (n + 1)) Q 19 [(0, .ref (am_ad X 12 0)), (1, .int v1), (2, .int v2), (3, .int v3), (4, .long s.1), (6, .long s.2.1), (8, .int s.2.2)] [] σ) (K := fun r => r = o) ?_ hf rfl
  intro s o1 hb hi hr
  exact q_X12_reckon_19 hX n rc hrc v1 v2 v3 s.1 s.2.1 s.2.2  σ hb hi (fun t e => hk1 t (hr _ e).symm)
noncomputable def f_X12_reckon_0 (rc : Int32 → Int32 → Int32 → am_H → Option (Int64)) (v1 : Int32) (v2 : Int32) (v3 : Int32) (σ : am_H) : Option (Int64) :=
  if v1 = (σ.1 12 0 81) then
   (some 1)
  else
  (am_loop (fun s => f_X12_reckon_19 rc v1 v2 v3 s.1 s.2.1 s.2.2 σ) (0, 1, 0)).bind fun w2 =>
  some w2
set_option maxRecDepth 100000 in
set_option maxHeartbeats 4000000 in
theorem q_X12_reckon_0 {X : am_X} (hX : am_ks X = am_ksM) {Q : Option Value → am_H → Prop} (n : Nat) (rc : Int32 → Int32 → Int32 → am_H → Option (Int64)) (hrc : ∀ (v1 : Int32) (v2 : Int32) (v3 : Int32) (σ : am_H) (o : Int64), rc v1 v2 v3 σ = some o → am_C X (gm_X12_reckon n) [.ref (am_ad X 12 0), .int v1, .int v2, .int v3] σ (am_is (some (.long o)) σ)) (v1 : Int32) (v2 : Int32) (v3 : Int32) (σ : am_H) {o : Int64} (hf : f_X12_reckon_0 rc v1 v2 v3 σ = some o) (hk : Q (some (.long o)) σ) : am_G X (gm_X12_reckon (n + 1)) Q 0 [(0, .ref (am_ad X 12 0)), (1, .int v1), (2, .int v2), (3, .int v3)] [] σ := by
  unfold f_X12_reckon_0 at hf
  refine g_iload_n (pc := 0) 1 rfl dX12_reckon_0 rfl ?_
  refine g_aload_n (pc := 1) 0 rfl dX12_reckon_1 rfl ?_
  refine g_getI (pc := 2) (in_12 hX (by omega)) fr_X12_405 dX12_reckon_2 ?_
  refine bi_ne (pc := 5) 10 dX12_reckon_5 rfl (fun c1 => ?_) (fun c1 => ?_)
  · replace hf := am_ifT c1 hf
    refine g_lconst (pc := 8) (v := 1) dX12_reckon_8 (by decide) ?_
    have ho := Option.some.inj hf
    subst ho
    exact g_lreturn (pc := 9) (st := []) rfl dX12_reckon_9 hk
  replace hf := am_ifF c1 hf
  refine g_lconst (pc := 10) (v := 0) dX12_reckon_10 (by decide) ?_
  refine g_lstore (pc := 11) [(4, .long 0), (0, .ref (am_ad X 12 0)), (1, .int v1), (2, .int v2), (3, .int v3)] dX12_reckon_11 (Nat.le_of_ble_eq_true rfl) rfl ?_
  refine g_lconst (pc := 13) (v := 1) dX12_reckon_13 (by decide) ?_
  refine g_lstore (pc := 14) [(6, .long 1), (4, .long 0), (0, .ref (am_ad X 12 0)), (1, .int v1), (2, .int v2), (3, .int v3)] dX12_reckon_14 (Nat.le_of_ble_eq_true rfl) rfl ?_
  refine g_iconst (pc := 16) (v := 0) dX12_reckon_16 (by decide) ?_
  refine g_istore (pc := 17) [(8, .int 0), (6, .long 1), (4, .long 0), (0, .ref (am_ad X 12 0)), (1, .int v1), (2, .int v2), (3, .int v3)] dX12_reckon_17 (Nat.le_of_ble_eq_true rfl) rfl ?_
  obtain ⟨w2, hw2, hf⟩ := am_bd hf
  refine am_sub [3, 4, 5, 6, 2, 1, 0] rfl (l_X12_reckon_19 hX n rc hrc v1 v2 v3  σ (0, 1, 0) hw2 ?_)
  intro t e
  subst e
  refine g_lload (pc := 112) 0 rfl dX12_reckon_112 ?_
  have ho := Option.some.inj hf
  subst ho
  exact g_lreturn (pc := 114) (st := []) rfl dX12_reckon_114 hk
noncomputable def f_X12_reckon : Nat → Int32 → Int32 → Int32 → am_H → Option (Int64)
  | 0 => fun _ _ _ _ => none
  | n + 1 => fun v1 v2 v3 σ => f_X12_reckon_0 (f_X12_reckon n) v1 v2 v3 σ
theorem k_X12_reckon {X : am_X} (hX : am_ks X = am_ksM) (n : Nat) : ∀ (v1 : Int32) (v2 : Int32) (v3 : Int32) (σ : am_H) {o : Int64}, f_X12_reckon n v1 v2 v3 σ = some o → am_C X (gm_X12_reckon n) [.ref (am_ad X 12 0), .int v1, .int v2, .int v3] σ (am_is (some (.long o)) σ) := by
  induction n with
  | zero => intro v1 v2 v3 σ o hf; exact absurd hf (by simp [f_X12_reckon])
  | succ n ih =>
    intro v1 v2 v3 σ o hf
    exact am_ofG rfl (Nat.le_of_ble_eq_true rfl) rfl (q_X12_reckon_0 hX n (f_X12_reckon n) (fun v1 v2 v3 σ o h => ih v1 v2 v3 σ h) v1 v2 v3 σ hf ⟨rfl, rfl⟩)
theorem dX12_square_0 : decode cX12_square 0 = .ok (.aload_n 0, 1) := by decide +kernel
theorem dX12_square_1 : decode cX12_square 1 = .ok (.iload_n 2, 1) := by decide +kernel
theorem dX12_square_2 : decode cX12_square 2 = .ok (.iload_n 3, 1) := by decide +kernel
theorem dX12_square_3 : decode cX12_square 3 = .ok (.if_icmp .ne 7, 3) := by decide +kernel
theorem dX12_square_6 : decode cX12_square 6 = .ok (.iconst 3, 1) := by decide +kernel
theorem dX12_square_7 : decode cX12_square 7 = .ok (.goto 4, 3) := by decide +kernel
theorem dX12_square_10 : decode cX12_square 10 = .ok (.iconst 5, 1) := by decide +kernel
theorem dX12_square_11 : decode cX12_square 11 = .ok (.putfield 405, 3) := by decide +kernel
theorem dX12_square_14 : decode cX12_square 14 = .ok (.iconst 0, 1) := by decide +kernel
theorem dX12_square_15 : decode cX12_square 15 = .ok (.istore 7, 2) := by decide +kernel
theorem dX12_square_17 : decode cX12_square 17 = .ok (.iload 7, 2) := by decide +kernel
theorem dX12_square_19 : decode cX12_square 19 = .ok (.bipush 25, 2) := by decide +kernel
theorem dX12_square_21 : decode cX12_square 21 = .ok (.if_icmp .ge 17, 3) := by decide +kernel
theorem dX12_square_24 : decode cX12_square 24 = .ok (.aload_n 0, 1) := by decide +kernel
theorem dX12_square_25 : decode cX12_square 25 = .ok (.getfield 107, 3) := by decide +kernel
theorem dX12_square_28 : decode cX12_square 28 = .ok (.iload 7, 2) := by decide +kernel
theorem dX12_square_30 : decode cX12_square 30 = .ok (.lconst 0, 1) := by decide +kernel
theorem dX12_square_31 : decode cX12_square 31 = .ok (.lastore, 1) := by decide +kernel
theorem dX12_square_32 : decode cX12_square 32 = .ok (.iinc 7 1, 3) := by decide +kernel
theorem dX12_square_35 : decode cX12_square 35 = .ok (.goto (-18), 3) := by decide +kernel
theorem dX12_square_38 : decode cX12_square 38 = .ok (.iconst 0, 1) := by decide +kernel
theorem dX12_square_39 : decode cX12_square 39 = .ok (.istore 7, 2) := by decide +kernel
theorem dX12_square_41 : decode cX12_square 41 = .ok (.iload 7, 2) := by decide +kernel
theorem dX12_square_43 : decode cX12_square 43 = .ok (.iconst 5, 1) := by decide +kernel
theorem dX12_square_44 : decode cX12_square 44 = .ok (.if_icmp .ge 17, 3) := by decide +kernel
theorem dX12_square_47 : decode cX12_square 47 = .ok (.aload_n 0, 1) := by decide +kernel
theorem dX12_square_48 : decode cX12_square 48 = .ok (.getfield 110, 3) := by decide +kernel
theorem dX12_square_51 : decode cX12_square 51 = .ok (.iload 7, 2) := by decide +kernel
theorem dX12_square_53 : decode cX12_square 53 = .ok (.lconst 0, 1) := by decide +kernel
theorem dX12_square_54 : decode cX12_square 54 = .ok (.lastore, 1) := by decide +kernel
theorem dX12_square_55 : decode cX12_square 55 = .ok (.iinc 7 1, 3) := by decide +kernel
theorem dX12_square_58 : decode cX12_square 58 = .ok (.goto (-17), 3) := by decide +kernel
theorem dX12_square_61 : decode cX12_square 61 = .ok (.iconst 0, 1) := by decide +kernel
theorem dX12_square_62 : decode cX12_square 62 = .ok (.istore 7, 2) := by decide +kernel
theorem dX12_square_64 : decode cX12_square 64 = .ok (.iload 7, 2) := by decide +kernel
theorem dX12_square_66 : decode cX12_square 66 = .ok (.iload 6, 2) := by decide +kernel
theorem dX12_square_68 : decode cX12_square 68 = .ok (.if_icmp .ge 164, 3) := by decide +kernel
theorem dX12_square_71 : decode cX12_square 71 = .ok (.aload_n 0, 1) := by decide +kernel
theorem dX12_square_72 : decode cX12_square 72 = .ok (.iload 5, 2) := by decide +kernel
theorem dX12_square_74 : decode cX12_square 74 = .ok (.iload 7, 2) := by decide +kernel
theorem dX12_square_76 : decode cX12_square 76 = .ok (.invokevirtual 394, 3) := by decide +kernel
theorem dX12_square_79 : decode cX12_square 79 = .ok (.ldc2_w 400, 3) := by decide +kernel
theorem dX12_square_82 : decode cX12_square 82 = .ok (.lcmp, 1) := by decide +kernel
theorem dX12_square_83 : decode cX12_square 83 = .ok (.ifCond .ne 6, 3) := by decide +kernel
theorem dX12_square_86 : decode cX12_square 86 = .ok (.goto 140, 3) := by decide +kernel
theorem dX12_square_89 : decode cX12_square 89 = .ok (.iconst 0, 1) := by decide +kernel
theorem dX12_square_90 : decode cX12_square 90 = .ok (.istore 8, 2) := by decide +kernel
theorem dX12_square_92 : decode cX12_square 92 = .ok (.iload 8, 2) := by decide +kernel
theorem dX12_square_94 : decode cX12_square 94 = .ok (.aload_n 0, 1) := by decide +kernel
theorem dX12_square_95 : decode cX12_square 95 = .ok (.getfield 405, 3) := by decide +kernel
theorem dX12_square_98 : decode cX12_square 98 = .ok (.if_icmp .ge 33, 3) := by decide +kernel
theorem dX12_square_101 : decode cX12_square 101 = .ok (.aload_n 0, 1) := by decide +kernel
theorem dX12_square_102 : decode cX12_square 102 = .ok (.getfield 113, 3) := by decide +kernel
theorem dX12_square_105 : decode cX12_square 105 = .ok (.iload 8, 2) := by decide +kernel
theorem dX12_square_107 : decode cX12_square 107 = .ok (.aload_n 0, 1) := by decide +kernel
theorem dX12_square_108 : decode cX12_square 108 = .ok (.iload_n 1, 1) := by decide +kernel
theorem dX12_square_109 : decode cX12_square 109 = .ok (.iload_n 2, 1) := by decide +kernel
theorem dX12_square_110 : decode cX12_square 110 = .ok (.iload_n 3, 1) := by decide +kernel
theorem dX12_square_111 : decode cX12_square 111 = .ok (.iload 8, 2) := by decide +kernel
theorem dX12_square_113 : decode cX12_square 113 = .ok (.aload_n 0, 1) := by decide +kernel
theorem dX12_square_114 : decode cX12_square 114 = .ok (.iload 4, 2) := by decide +kernel
theorem dX12_square_116 : decode cX12_square 116 = .ok (.iload 7, 2) := by decide +kernel
theorem dX12_square_118 : decode cX12_square 118 = .ok (.invokevirtual 408, 3) := by decide +kernel
theorem dX12_square_121 : decode cX12_square 121 = .ok (.invokevirtual 411, 3) := by decide +kernel
theorem dX12_square_124 : decode cX12_square 124 = .ok (.iastore, 1) := by decide +kernel
theorem dX12_square_125 : decode cX12_square 125 = .ok (.iinc 8 1, 3) := by decide +kernel
theorem dX12_square_128 : decode cX12_square 128 = .ok (.goto (-36), 3) := by decide +kernel
theorem dX12_square_131 : decode cX12_square 131 = .ok (.iconst 0, 1) := by decide +kernel
theorem dX12_square_132 : decode cX12_square 132 = .ok (.istore 8, 2) := by decide +kernel
theorem dX12_square_134 : decode cX12_square 134 = .ok (.iload 8, 2) := by decide +kernel
theorem dX12_square_136 : decode cX12_square 136 = .ok (.aload_n 0, 1) := by decide +kernel
theorem dX12_square_137 : decode cX12_square 137 = .ok (.getfield 405, 3) := by decide +kernel
theorem dX12_square_140 : decode cX12_square 140 = .ok (.if_icmp .ge 86, 3) := by decide +kernel
theorem dX12_square_143 : decode cX12_square 143 = .ok (.aload_n 0, 1) := by decide +kernel
theorem dX12_square_144 : decode cX12_square 144 = .ok (.getfield 110, 3) := by decide +kernel
theorem dX12_square_147 : decode cX12_square 147 = .ok (.iload 8, 2) := by decide +kernel
theorem dX12_square_149 : decode cX12_square 149 = .ok (.dup2, 1) := by decide +kernel
theorem dX12_square_150 : decode cX12_square 150 = .ok (.laload, 1) := by decide +kernel
theorem dX12_square_151 : decode cX12_square 151 = .ok (.aload_n 0, 1) := by decide +kernel
theorem dX12_square_152 : decode cX12_square 152 = .ok (.getfield 113, 3) := by decide +kernel
theorem dX12_square_155 : decode cX12_square 155 = .ok (.iload 8, 2) := by decide +kernel
theorem dX12_square_157 : decode cX12_square 157 = .ok (.iaload, 1) := by decide +kernel
theorem dX12_square_158 : decode cX12_square 158 = .ok (.i2l, 1) := by decide +kernel
theorem dX12_square_159 : decode cX12_square 159 = .ok (.aload_n 0, 1) := by decide +kernel
theorem dX12_square_160 : decode cX12_square 160 = .ok (.iload 5, 2) := by decide +kernel
theorem dX12_square_162 : decode cX12_square 162 = .ok (.iload 7, 2) := by decide +kernel
theorem dX12_square_164 : decode cX12_square 164 = .ok (.invokevirtual 394, 3) := by decide +kernel
theorem dX12_square_167 : decode cX12_square 167 = .ok (.lmul, 1) := by decide +kernel
theorem dX12_square_168 : decode cX12_square 168 = .ok (.ladd, 1) := by decide +kernel
theorem dX12_square_169 : decode cX12_square 169 = .ok (.lastore, 1) := by decide +kernel
theorem dX12_square_170 : decode cX12_square 170 = .ok (.iconst 0, 1) := by decide +kernel
theorem dX12_square_171 : decode cX12_square 171 = .ok (.istore 9, 2) := by decide +kernel
theorem dX12_square_173 : decode cX12_square 173 = .ok (.iload 9, 2) := by decide +kernel
theorem dX12_square_175 : decode cX12_square 175 = .ok (.aload_n 0, 1) := by decide +kernel
theorem dX12_square_176 : decode cX12_square 176 = .ok (.getfield 405, 3) := by decide +kernel
theorem dX12_square_179 : decode cX12_square 179 = .ok (.if_icmp .ge 41, 3) := by decide +kernel
theorem dX12_square_182 : decode cX12_square 182 = .ok (.aload_n 0, 1) := by decide +kernel
theorem dX12_square_183 : decode cX12_square 183 = .ok (.getfield 107, 3) := by decide +kernel
theorem dX12_square_186 : decode cX12_square 186 = .ok (.iconst 5, 1) := by decide +kernel
theorem dX12_square_187 : decode cX12_square 187 = .ok (.iload 8, 2) := by decide +kernel
theorem dX12_square_189 : decode cX12_square 189 = .ok (.imul, 1) := by decide +kernel
theorem dX12_square_190 : decode cX12_square 190 = .ok (.iload 9, 2) := by decide +kernel
theorem dX12_square_192 : decode cX12_square 192 = .ok (.iadd, 1) := by decide +kernel
theorem dX12_square_193 : decode cX12_square 193 = .ok (.dup2, 1) := by decide +kernel
theorem dX12_square_194 : decode cX12_square 194 = .ok (.laload, 1) := by decide +kernel
theorem dX12_square_195 : decode cX12_square 195 = .ok (.aload_n 0, 1) := by decide +kernel
theorem dX12_square_196 : decode cX12_square 196 = .ok (.getfield 113, 3) := by decide +kernel
theorem dX12_square_199 : decode cX12_square 199 = .ok (.iload 8, 2) := by decide +kernel
theorem dX12_square_201 : decode cX12_square 201 = .ok (.iaload, 1) := by decide +kernel
theorem dX12_square_202 : decode cX12_square 202 = .ok (.i2l, 1) := by decide +kernel
theorem dX12_square_203 : decode cX12_square 203 = .ok (.aload_n 0, 1) := by decide +kernel
theorem dX12_square_204 : decode cX12_square 204 = .ok (.getfield 113, 3) := by decide +kernel
theorem dX12_square_207 : decode cX12_square 207 = .ok (.iload 9, 2) := by decide +kernel
theorem dX12_square_209 : decode cX12_square 209 = .ok (.iaload, 1) := by decide +kernel
theorem dX12_square_210 : decode cX12_square 210 = .ok (.i2l, 1) := by decide +kernel
theorem dX12_square_211 : decode cX12_square 211 = .ok (.lmul, 1) := by decide +kernel
theorem dX12_square_212 : decode cX12_square 212 = .ok (.ladd, 1) := by decide +kernel
theorem dX12_square_213 : decode cX12_square 213 = .ok (.lastore, 1) := by decide +kernel
theorem dX12_square_214 : decode cX12_square 214 = .ok (.iinc 9 1, 3) := by decide +kernel
theorem dX12_square_217 : decode cX12_square 217 = .ok (.goto (-44), 3) := by decide +kernel
theorem dX12_square_220 : decode cX12_square 220 = .ok (.iinc 8 1, 3) := by decide +kernel
theorem dX12_square_223 : decode cX12_square 223 = .ok (.goto (-89), 3) := by decide +kernel
theorem dX12_square_226 : decode cX12_square 226 = .ok (.iinc 7 1, 3) := by decide +kernel
theorem dX12_square_229 : decode cX12_square 229 = .ok (.goto (-165), 3) := by decide +kernel
theorem dX12_square_232 : decode cX12_square 232 = .ok (.aload_n 0, 1) := by decide +kernel
theorem dX12_square_233 : decode cX12_square 233 = .ok (.aload_n 0, 1) := by decide +kernel
theorem dX12_square_234 : decode cX12_square 234 = .ok (.iconst 0, 1) := by decide +kernel
theorem dX12_square_235 : decode cX12_square 235 = .ok (.iconst 0, 1) := by decide +kernel
theorem dX12_square_236 : decode cX12_square 236 = .ok (.iconst (-1), 1) := by decide +kernel
theorem dX12_square_237 : decode cX12_square 237 = .ok (.invokevirtual 415, 3) := by decide +kernel
theorem dX12_square_240 : decode cX12_square 240 = .ok (.putfield 418, 3) := by decide +kernel
theorem dX12_square_243 : decode cX12_square 243 = .ok (.return_, 1) := by decide +kernel
noncomputable def f_X12_square_17 (v1 : Int32) (v2 : Int32) (v3 : Int32) (v4 : Int32) (v5 : Int32) (v6 : Int32) (v7 : Int32) (σ : am_H) : Option ((Int32 × am_H) ⊕ (am_H)) :=
  if v7 < 25 then
   ((am_ix 25 v7).bind fun j2 =>
   (some (am_wL σ 1379 0 j2 0)).bind fun s3 =>
   some (.inl ((v7 + 1), s3)))
  else
  some (.inr σ)
set_option maxRecDepth 100000 in
set_option maxHeartbeats 4000000 in
theorem q_X12_square_17 {X : am_X} (hX : am_ks X = am_ksM) {Q : Option Value → am_H → Prop} (v1 : Int32) (v2 : Int32) (v3 : Int32) (v4 : Int32) (v5 : Int32) (v6 : Int32) (v7 : Int32) (σ : am_H) {o : (Int32 × am_H) ⊕ (am_H)} (hf : f_X12_square_17 v1 v2 v3 v4 v5 v6 v7 σ = some o) (hk0 : ∀ s, o = .inl s → am_G X gm_X12_square Q 17 [(0, .ref (am_ad X 12 0)), (1, .int v1), (2, .int v2), (3, .int v3), (4, .int v4), (5, .int v5), (6, .int v6), (7, .int s.1)] [] s.2) (hk1 : ∀ t, o = .inr t → am_G X gm_X12_square Q 38 [(0, .ref (am_ad X 12 0)), (1, .int v1), (2, .int v2), (3, .int v3), (4, .int v4), (5, .int v5), (6, .int v6)] [] t) : am_G X gm_X12_square Q 17 [(0, .ref (am_ad X 12 0)), (1, .int v1), (2, .int v2), (3, .int v3), (4, .int v4), (5, .int v5), (6, .int v6), (7, .int v7)] [] σ := by
  unfold f_X12_square_17 at hf
  refine g_iload (pc := 17) 7 rfl dX12_square_17 ?_
  refine g_bipush (pc := 19) (v := 25) dX12_square_19 (by decide) ?_
  refine bi_ge (pc := 21) 38 dX12_square_21 rfl (fun c1 => ?_) (fun c1 => ?_)
  · replace hf := am_ifT c1 hf
    refine g_aload_n (pc := 24) 0 rfl dX12_square_24 rfl ?_
    refine g_getC (pc := 25) (e := 0) (in_12 hX (by omega)) fr_X12_107 dX12_square_25 rfl ?_
    refine g_iload (pc := 28) 7 rfl dX12_square_28 ?_
    refine g_lconst (pc := 30) (v := 0) dX12_square_30 (by decide) ?_
    obtain ⟨j2, hj2, hf⟩ := am_bd hf
    have gj2 := am_ix_lt hj2
    obtain ⟨s3, hs3, hf⟩ := am_bd hf
    refine g_sJ (pc := 31) (in_1379 hX (by omega)) ak_1379 hj2 dX12_square_31 (Option.some.inj hs3) ?_
    refine g_iinc (pc := 32) (v := (v7 + 1)) 7 [(7, .int (v7 + 1)), (0, .ref (am_ad X 12 0)), (1, .int v1), (2, .int v2), (3, .int v3), (4, .int v4), (5, .int v5), (6, .int v6)] dX12_square_32 rfl rfl (Nat.le_of_ble_eq_true rfl) rfl ?_
    refine g_goto (pc := 35) 17 dX12_square_35 rfl ?_
    have hz := hk0 _ (Option.some.inj hf).symm
    exact am_sub [1, 2, 3, 4, 5, 6, 7, 0] rfl hz
  replace hf := am_ifF c1 hf
  have hz := hk1 _ (Option.some.inj hf).symm
  exact am_sub [0, 1, 2, 3, 4, 5, 6] rfl hz
set_option maxRecDepth 100000 in
set_option maxHeartbeats 4000000 in
theorem l_X12_square_17 {X : am_X} (hX : am_ks X = am_ksM) {Q : Option Value → am_H → Prop} (v1 : Int32) (v2 : Int32) (v3 : Int32) (v4 : Int32) (v5 : Int32) (v6 : Int32) (σ : am_H) (s : Int32 × am_H) {o : am_H} (hf : am_loop (fun s => f_X12_square_17 v1 v2 v3 v4 v5 v6 s.1 s.2) s = some o) (hk1 : ∀ t, o = t → am_G X gm_X12_square Q 38 [(0, .ref (am_ad X 12 0)), (1, .int v1), (2, .int v2), (3, .int v3), (4, .int v4), (5, .int v5), (6, .int v6)] [] t) : am_G X gm_X12_square Q 17 [(0, .ref (am_ad X 12 0)), (1, .int v1), (2, .int v2), (3, .int v3), (4, .int v4), (5, .int v5), (6, .int v6), (7, .int s.1)] [] s.2 := by
  refine am_loop_ind (P := fun s => am_G X gm_X12_square Q 17 [(0, .ref (am_ad X 12 0)), (1, .int v1), (2, .int v2), (3, .int v3), (4, .int v4), (5, .int v5), (6, .int v6), (7, .int s.1)] [] s.2) (K := fun r => r = o) ?_ hf rfl
  intro s o1 hb hi hr
  exact q_X12_square_17 hX v1 v2 v3 v4 v5 v6 s.1  s.2 hb hi (fun t e => hk1 t (hr _ e).symm)
noncomputable def f_X12_square_41 (v1 : Int32) (v2 : Int32) (v3 : Int32) (v4 : Int32) (v5 : Int32) (v6 : Int32) (v7 : Int32) (σ : am_H) : Option ((Int32 × am_H) ⊕ (am_H)) :=
  if v7 < 5 then
   ((am_ix 5 v7).bind fun j2 =>
   (some (am_wL σ 1380 0 j2 0)).bind fun s3 =>
   some (.inl ((v7 + 1), s3)))
  else
  some (.inr σ)
set_option maxRecDepth 100000 in
set_option maxHeartbeats 4000000 in
theorem q_X12_square_41 {X : am_X} (hX : am_ks X = am_ksM) {Q : Option Value → am_H → Prop} (v1 : Int32) (v2 : Int32) (v3 : Int32) (v4 : Int32) (v5 : Int32) (v6 : Int32) (v7 : Int32) (σ : am_H) {o : (Int32 × am_H) ⊕ (am_H)} (hf : f_X12_square_41 v1 v2 v3 v4 v5 v6 v7 σ = some o) (hk0 : ∀ s, o = .inl s → am_G X gm_X12_square Q 41 [(0, .ref (am_ad X 12 0)), (1, .int v1), (2, .int v2), (3, .int v3), (4, .int v4), (5, .int v5), (6, .int v6), (7, .int s.1)] [] s.2) (hk1 : ∀ t, o = .inr t → am_G X gm_X12_square Q 61 [(0, .ref (am_ad X 12 0)), (1, .int v1), (2, .int v2), (3, .int v3), (4, .int v4), (5, .int v5), (6, .int v6)] [] t) : am_G X gm_X12_square Q 41 [(0, .ref (am_ad X 12 0)), (1, .int v1), (2, .int v2), (3, .int v3), (4, .int v4), (5, .int v5), (6, .int v6), (7, .int v7)] [] σ := by
  unfold f_X12_square_41 at hf
  refine g_iload (pc := 41) 7 rfl dX12_square_41 ?_
  refine g_iconst (pc := 43) (v := 5) dX12_square_43 (by decide) ?_
  refine bi_ge (pc := 44) 61 dX12_square_44 rfl (fun c1 => ?_) (fun c1 => ?_)
  · replace hf := am_ifT c1 hf
    refine g_aload_n (pc := 47) 0 rfl dX12_square_47 rfl ?_
    refine g_getC (pc := 48) (e := 0) (in_12 hX (by omega)) fr_X12_110 dX12_square_48 rfl ?_
    refine g_iload (pc := 51) 7 rfl dX12_square_51 ?_
    refine g_lconst (pc := 53) (v := 0) dX12_square_53 (by decide) ?_
    obtain ⟨j2, hj2, hf⟩ := am_bd hf
    have gj2 := am_ix_lt hj2
    obtain ⟨s3, hs3, hf⟩ := am_bd hf
    refine g_sJ (pc := 54) (in_1380 hX (by omega)) ak_1380 hj2 dX12_square_54 (Option.some.inj hs3) ?_
    refine g_iinc (pc := 55) (v := (v7 + 1)) 7 [(7, .int (v7 + 1)), (0, .ref (am_ad X 12 0)), (1, .int v1), (2, .int v2), (3, .int v3), (4, .int v4), (5, .int v5), (6, .int v6)] dX12_square_55 rfl rfl (Nat.le_of_ble_eq_true rfl) rfl ?_
    refine g_goto (pc := 58) 41 dX12_square_58 rfl ?_
    have hz := hk0 _ (Option.some.inj hf).symm
    exact am_sub [1, 2, 3, 4, 5, 6, 7, 0] rfl hz
  replace hf := am_ifF c1 hf
  have hz := hk1 _ (Option.some.inj hf).symm
  exact am_sub [0, 1, 2, 3, 4, 5, 6] rfl hz
set_option maxRecDepth 100000 in
set_option maxHeartbeats 4000000 in
theorem l_X12_square_41 {X : am_X} (hX : am_ks X = am_ksM) {Q : Option Value → am_H → Prop} (v1 : Int32) (v2 : Int32) (v3 : Int32) (v4 : Int32) (v5 : Int32) (v6 : Int32) (σ : am_H) (s : Int32 × am_H) {o : am_H} (hf : am_loop (fun s => f_X12_square_41 v1 v2 v3 v4 v5 v6 s.1 s.2) s = some o) (hk1 : ∀ t, o = t → am_G X gm_X12_square Q 61 [(0, .ref (am_ad X 12 0)), (1, .int v1), (2, .int v2), (3, .int v3), (4, .int v4), (5, .int v5), (6, .int v6)] [] t) : am_G X gm_X12_square Q 41 [(0, .ref (am_ad X 12 0)), (1, .int v1), (2, .int v2), (3, .int v3), (4, .int v4), (5, .int v5), (6, .int v6), (7, .int s.1)] [] s.2 := by
  refine am_loop_ind (P := fun s => am_G X gm_X12_square Q 41 [(0, .ref (am_ad X 12 0)), (1, .int v1), (2, .int v2), (3, .int v3), (4, .int v4), (5, .int v5), (6, .int v6), (7, .int s.1)] [] s.2) (K := fun r => r = o) ?_ hf rfl
  intro s o1 hb hi hr
  exact q_X12_square_41 hX v1 v2 v3 v4 v5 v6 s.1  s.2 hb hi (fun t e => hk1 t (hr _ e).symm)
noncomputable def f_X12_square_92 (v1 : Int32) (v2 : Int32) (v3 : Int32) (v4 : Int32) (v5 : Int32) (v6 : Int32) (v7 : Int32) (v8 : Int32) (σ : am_H) : Option ((Int32 × am_H) ⊕ (am_H)) :=
  if v8 < (σ.1 12 0 81) then
   ((f_X12_hourOf v4 v7 σ).bind fun p2 =>
   (f_X12_partOf v1 v2 v3 v8 p2 σ).bind fun p3 =>
   (am_ix 5 v8).bind fun j4 =>
   (some (am_wI σ 1383 0 j4 p3)).bind fun s5 =>
   some (.inl ((v8 + 1), s5)))
  else
  some (.inr σ)
set_option maxRecDepth 100000 in
set_option maxHeartbeats 4000000 in
theorem q_X12_square_92 {X : am_X} (hX : am_ks X = am_ksM) {Q : Option Value → am_H → Prop} (v1 : Int32) (v2 : Int32) (v3 : Int32) (v4 : Int32) (v5 : Int32) (v6 : Int32) (v7 : Int32) (v8 : Int32) (σ : am_H) {o : (Int32 × am_H) ⊕ (am_H)} (hf : f_X12_square_92 v1 v2 v3 v4 v5 v6 v7 v8 σ = some o) (hk0 : ∀ s, o = .inl s → am_G X gm_X12_square Q 92 [(0, .ref (am_ad X 12 0)), (1, .int v1), (2, .int v2), (3, .int v3), (4, .int v4), (5, .int v5), (6, .int v6), (7, .int v7), (8, .int s.1)] [] s.2) (hk1 : ∀ t, o = .inr t → am_G X gm_X12_square Q 131 [(0, .ref (am_ad X 12 0)), (1, .int v1), (2, .int v2), (3, .int v3), (4, .int v4), (5, .int v5), (6, .int v6), (7, .int v7)] [] t) : am_G X gm_X12_square Q 92 [(0, .ref (am_ad X 12 0)), (1, .int v1), (2, .int v2), (3, .int v3), (4, .int v4), (5, .int v5), (6, .int v6), (7, .int v7), (8, .int v8)] [] σ := by
  unfold f_X12_square_92 at hf
  refine g_iload (pc := 92) 8 rfl dX12_square_92 ?_
  refine g_aload_n (pc := 94) 0 rfl dX12_square_94 rfl ?_
  refine g_getI (pc := 95) (in_12 hX (by omega)) fr_X12_405 dX12_square_95 ?_
  refine bi_ge (pc := 98) 131 dX12_square_98 rfl (fun c1 => ?_) (fun c1 => ?_)
  · replace hf := am_ifT c1 hf
    refine g_aload_n (pc := 101) 0 rfl dX12_square_101 rfl ?_
    refine g_getC (pc := 102) (e := 0) (in_12 hX (by omega)) fr_X12_113 dX12_square_102 rfl ?_
    refine g_iload (pc := 105) 8 rfl dX12_square_105 ?_
    refine g_aload_n (pc := 107) 0 rfl dX12_square_107 rfl ?_
    refine g_iload_n (pc := 108) 1 rfl dX12_square_108 rfl ?_
    refine g_iload_n (pc := 109) 2 rfl dX12_square_109 rfl ?_
    refine g_iload_n (pc := 110) 3 rfl dX12_square_110 rfl ?_
    refine g_iload (pc := 111) 8 rfl dX12_square_111 ?_
    refine g_aload_n (pc := 113) 0 rfl dX12_square_113 rfl ?_
    refine g_iload (pc := 114) 4 rfl dX12_square_114 ?_
    refine g_iload (pc := 116) 7 rfl dX12_square_116 ?_
    obtain ⟨p2, hp2, hf⟩ := am_bd hf
    refine g_cV (pc := 118) (As := [.int v4, .int v7]) (st := [.int v8, .int v3, .int v2, .int v1, .ref (am_ad X 12 0), .int v8, .ref (am_ad X 1383 0)]) (st1 := [.int p2, .int v8, .int v3, .int v2, .int v1, .ref (am_ad X 12 0), .int v8, .ref (am_ad X 1383 0)]) (in_12 hX (by omega)) kk_12 mV_X12_hourOf ln_X12_408 rfl (Nat.le_of_ble_eq_true rfl) (Nat.le_of_ble_eq_true rfl) (k_X12_hourOf hX v4 v7 σ hp2) dX12_square_118 rfl rfl ?_
    obtain ⟨p3, hp3, hf⟩ := am_bd hf
    refine g_cV (pc := 121) (As := [.int v1, .int v2, .int v3, .int v8, .int p2]) (st := [.int v8, .ref (am_ad X 1383 0)]) (st1 := [.int p3, .int v8, .ref (am_ad X 1383 0)]) (in_12 hX (by omega)) kk_12 mV_X12_partOf ln_X12_411 rfl (Nat.le_of_ble_eq_true rfl) (Nat.le_of_ble_eq_true rfl) (k_X12_partOf hX v1 v2 v3 v8 p2 σ hp3) dX12_square_121 rfl rfl ?_
    obtain ⟨j4, hj4, hf⟩ := am_bd hf
    have gj4 := am_ix_lt hj4
    obtain ⟨s5, hs5, hf⟩ := am_bd hf
    refine g_sI (pc := 124) (in_1383 hX (by omega)) ak_1383 hj4 dX12_square_124 (Option.some.inj hs5) ?_
    refine g_iinc (pc := 125) (v := (v8 + 1)) 8 [(8, .int (v8 + 1)), (0, .ref (am_ad X 12 0)), (1, .int v1), (2, .int v2), (3, .int v3), (4, .int v4), (5, .int v5), (6, .int v6), (7, .int v7)] dX12_square_125 rfl rfl (Nat.le_of_ble_eq_true rfl) rfl ?_
    refine g_goto (pc := 128) 92 dX12_square_128 rfl ?_
    have hz := hk0 _ (Option.some.inj hf).symm
    exact am_sub [1, 2, 3, 4, 5, 6, 7, 8, 0] rfl hz
  replace hf := am_ifF c1 hf
  have hz := hk1 _ (Option.some.inj hf).symm
  exact am_sub [0, 1, 2, 3, 4, 5, 6, 7] rfl hz
set_option maxRecDepth 100000 in
set_option maxHeartbeats 4000000 in
theorem l_X12_square_92 {X : am_X} (hX : am_ks X = am_ksM) {Q : Option Value → am_H → Prop} (v1 : Int32) (v2 : Int32) (v3 : Int32) (v4 : Int32) (v5 : Int32) (v6 : Int32) (v7 : Int32) (σ : am_H) (s : Int32 × am_H) {o : am_H} (hf : am_loop (fun s => f_X12_square_92 v1 v2 v3 v4 v5 v6 v7 s.1 s.2) s = some o) (hk1 : ∀ t, o = t → am_G X gm_X12_square Q 131 [(0, .ref (am_ad X 12 0)), (1, .int v1), (2, .int v2), (3, .int v3), (4, .int v4), (5, .int v5), (6, .int v6), (7, .int v7)] [] t) : am_G X gm_X12_square Q 92 [(0, .ref (am_ad X 12 0)), (1, .int v1), (2, .int v2), (3, .int v3), (4, .int v4), (5, .int v5), (6, .int v6), (7, .int v7), (8, .int s.1)] [] s.2 := by
  refine am_loop_ind (P := fun s => am_G X gm_X12_square Q 92 [(0, .ref (am_ad X 12 0)), (1, .int v1), (2, .int v2), (3, .int v3), (4, .int v4), (5, .int v5), (6, .int v6), (7, .int v7), (8, .int s.1)] [] s.2) (K := fun r => r = o) ?_ hf rfl
  intro s o1 hb hi hr
  exact q_X12_square_92 hX v1 v2 v3 v4 v5 v6 v7 s.1  s.2 hb hi (fun t e => hk1 t (hr _ e).symm)
noncomputable def f_X12_square_173 (v1 : Int32) (v2 : Int32) (v3 : Int32) (v4 : Int32) (v5 : Int32) (v6 : Int32) (v7 : Int32) (v8 : Int32) (v9 : Int32) (σ : am_H) : Option ((Int32 × am_H) ⊕ (am_H)) :=
  if v9 < (σ.1 12 0 81) then
   ((am_ix 25 ((5 * v8) + v9)).bind fun j2 =>
   (am_ix 5 v8).bind fun j3 =>
   (am_ix 5 v9).bind fun j4 =>
   (am_ix 25 ((5 * v8) + v9)).bind fun j5 =>
   (some (am_wL σ 1379 0 j5 ((σ.2.1 1379 0 j2) + ((Int32.toInt64 (σ.1 1383 0 j3)) * (Int32.toInt64 (σ.1 1383 0 j4)))))).bind fun s6 =>
   some (.inl ((v9 + 1), s6)))
  else
  some (.inr σ)
set_option maxRecDepth 100000 in
set_option maxHeartbeats 4000000 in
theorem q_X12_square_173 {X : am_X} (hX : am_ks X = am_ksM) {Q : Option Value → am_H → Prop} (v1 : Int32) (v2 : Int32) (v3 : Int32) (v4 : Int32) (v5 : Int32) (v6 : Int32) (v7 : Int32) (v8 : Int32) (v9 : Int32) (σ : am_H) {o : (Int32 × am_H) ⊕ (am_H)} (hf : f_X12_square_173 v1 v2 v3 v4 v5 v6 v7 v8 v9 σ = some o) (hk0 : ∀ s, o = .inl s → am_G X gm_X12_square Q 173 [(0, .ref (am_ad X 12 0)), (1, .int v1), (2, .int v2), (3, .int v3), (4, .int v4), (5, .int v5), (6, .int v6), (7, .int v7), (8, .int v8), (9, .int s.1)] [] s.2) (hk1 : ∀ t, o = .inr t → am_G X gm_X12_square Q 220 [(0, .ref (am_ad X 12 0)), (1, .int v1), (2, .int v2), (3, .int v3), (4, .int v4), (5, .int v5), (6, .int v6), (7, .int v7), (8, .int v8)] [] t) : am_G X gm_X12_square Q 173 [(0, .ref (am_ad X 12 0)), (1, .int v1), (2, .int v2), (3, .int v3), (4, .int v4), (5, .int v5), (6, .int v6), (7, .int v7), (8, .int v8), (9, .int v9)] [] σ := by
  unfold f_X12_square_173 at hf
  refine g_iload (pc := 173) 9 rfl dX12_square_173 ?_
  refine g_aload_n (pc := 175) 0 rfl dX12_square_175 rfl ?_
  refine g_getI (pc := 176) (in_12 hX (by omega)) fr_X12_405 dX12_square_176 ?_
  refine bi_ge (pc := 179) 220 dX12_square_179 rfl (fun c1 => ?_) (fun c1 => ?_)
  · replace hf := am_ifT c1 hf
    refine g_aload_n (pc := 182) 0 rfl dX12_square_182 rfl ?_
    refine g_getC (pc := 183) (e := 0) (in_12 hX (by omega)) fr_X12_107 dX12_square_183 rfl ?_
    refine g_iconst (pc := 186) (v := 5) dX12_square_186 (by decide) ?_
    refine g_iload (pc := 187) 8 rfl dX12_square_187 ?_
    refine g_imul (pc := 189) dX12_square_189 ?_
    refine g_iload (pc := 190) 9 rfl dX12_square_190 ?_
    refine g_iadd (pc := 192) dX12_square_192 ?_
    refine g_dup2_11 (pc := 193) dX12_square_193 rfl rfl ?_
    obtain ⟨j2, hj2, hf⟩ := am_bd hf
    have gj2 := am_ix_lt hj2
    refine g_aJ (pc := 194) (in_1379 hX (by omega)) ak_1379 hj2 dX12_square_194 ?_
    refine g_aload_n (pc := 195) 0 rfl dX12_square_195 rfl ?_
    refine g_getC (pc := 196) (e := 0) (in_12 hX (by omega)) fr_X12_113 dX12_square_196 rfl ?_
    refine g_iload (pc := 199) 8 rfl dX12_square_199 ?_
    obtain ⟨j3, hj3, hf⟩ := am_bd hf
    have gj3 := am_ix_lt hj3
    refine g_aI (pc := 201) (in_1383 hX (by omega)) ak_1383 hj3 dX12_square_201 ?_
    refine g_i2l (pc := 202) dX12_square_202 ?_
    refine g_aload_n (pc := 203) 0 rfl dX12_square_203 rfl ?_
    refine g_getC (pc := 204) (e := 0) (in_12 hX (by omega)) fr_X12_113 dX12_square_204 rfl ?_
    refine g_iload (pc := 207) 9 rfl dX12_square_207 ?_
    obtain ⟨j4, hj4, hf⟩ := am_bd hf
    have gj4 := am_ix_lt hj4
    refine g_aI (pc := 209) (in_1383 hX (by omega)) ak_1383 hj4 dX12_square_209 ?_
    refine g_i2l (pc := 210) dX12_square_210 ?_
    refine g_lmul (pc := 211) dX12_square_211 ?_
    refine g_ladd (pc := 212) dX12_square_212 ?_
    obtain ⟨j5, hj5, hf⟩ := am_bd hf
    have gj5 := am_ix_lt hj5
    obtain ⟨s6, hs6, hf⟩ := am_bd hf
    refine g_sJ (pc := 213) (in_1379 hX (by omega)) ak_1379 hj5 dX12_square_213 (Option.some.inj hs6) ?_
    refine g_iinc (pc := 214) (v := (v9 + 1)) 9 [(9, .int (v9 + 1)), (0, .ref (am_ad X 12 0)), (1, .int v1), (2, .int v2), (3, .int v3), (4, .int v4), (5, .int v5), (6, .int v6), (7, .int v7), (8, .int v8)] dX12_square_214 rfl rfl (Nat.le_of_ble_eq_true rfl) rfl ?_
    refine g_goto (pc := 217) 173 dX12_square_217 rfl ?_
    have hz := hk0 _ (Option.some.inj hf).symm
    exact am_sub [1, 2, 3, 4, 5, 6, 7, 8, 9, 0] rfl hz
  replace hf := am_ifF c1 hf
  have hz := hk1 _ (Option.some.inj hf).symm
  exact am_sub [0, 1, 2, 3, 4, 5, 6, 7, 8] rfl hz
set_option maxRecDepth 100000 in
set_option maxHeartbeats 4000000 in
theorem l_X12_square_173 {X : am_X} (hX : am_ks X = am_ksM) {Q : Option Value → am_H → Prop} (v1 : Int32) (v2 : Int32) (v3 : Int32) (v4 : Int32) (v5 : Int32) (v6 : Int32) (v7 : Int32) (v8 : Int32) (σ : am_H) (s : Int32 × am_H) {o : am_H} (hf : am_loop (fun s => f_X12_square_173 v1 v2 v3 v4 v5 v6 v7 v8 s.1 s.2) s = some o) (hk1 : ∀ t, o = t → am_G X gm_X12_square Q 220 [(0, .ref (am_ad X 12 0)), (1, .int v1), (2, .int v2), (3, .int v3), (4, .int v4), (5, .int v5), (6, .int v6), (7, .int v7), (8, .int v8)] [] t) : am_G X gm_X12_square Q 173 [(0, .ref (am_ad X 12 0)), (1, .int v1), (2, .int v2), (3, .int v3), (4, .int v4), (5, .int v5), (6, .int v6), (7, .int v7), (8, .int v8), (9, .int s.1)] [] s.2 := by
  refine am_loop_ind (P := fun s => am_G X gm_X12_square Q 173 [(0, .ref (am_ad X 12 0)), (1, .int v1), (2, .int v2), (3, .int v3), (4, .int v4), (5, .int v5), (6, .int v6), (7, .int v7), (8, .int v8), (9, .int s.1)] [] s.2) (K := fun r => r = o) ?_ hf rfl
  intro s o1 hb hi hr
  exact q_X12_square_173 hX v1 v2 v3 v4 v5 v6 v7 v8 s.1  s.2 hb hi (fun t e => hk1 t (hr _ e).symm)
noncomputable def f_X12_square_134 (v1 : Int32) (v2 : Int32) (v3 : Int32) (v4 : Int32) (v5 : Int32) (v6 : Int32) (v7 : Int32) (v8 : Int32) (σ : am_H) : Option ((Int32 × am_H) ⊕ (am_H)) :=
  if v8 < (σ.1 12 0 81) then
   ((am_ix 5 v8).bind fun j2 =>
   (am_ix 5 v8).bind fun j3 =>
   (f_X12_numberOf v5 v7 σ).bind fun p4 =>
   (am_ix 5 v8).bind fun j5 =>
   (some (am_wL σ 1380 0 j5 ((σ.2.1 1380 0 j2) + ((Int32.toInt64 (σ.1 1383 0 j3)) * p4)))).bind fun s6 =>
   (am_loop (fun s => f_X12_square_173 v1 v2 v3 v4 v5 v6 v7 v8 s.1 s.2) (0, s6)).bind fun w7 =>
   some (.inl ((v8 + 1), w7)))
  else
  some (.inr σ)
set_option maxRecDepth 100000 in
set_option maxHeartbeats 4000000 in
theorem q_X12_square_134 {X : am_X} (hX : am_ks X = am_ksM) {Q : Option Value → am_H → Prop} (v1 : Int32) (v2 : Int32) (v3 : Int32) (v4 : Int32) (v5 : Int32) (v6 : Int32) (v7 : Int32) (v8 : Int32) (σ : am_H) {o : (Int32 × am_H) ⊕ (am_H)} (hf : f_X12_square_134 v1 v2 v3 v4 v5 v6 v7 v8 σ = some o) (hk0 : ∀ s, o = .inl s → am_G X gm_X12_square Q 134 [(0, .ref (am_ad X 12 0)), (1, .int v1), (2, .int v2), (3, .int v3), (4, .int v4), (5, .int v5), (6, .int v6), (7, .int v7), (8, .int s.1)] [] s.2) (hk1 : ∀ t, o = .inr t → am_G X gm_X12_square Q 226 [(0, .ref (am_ad X 12 0)), (1, .int v1), (2, .int v2), (3, .int v3), (4, .int v4), (5, .int v5), (6, .int v6), (7, .int v7)] [] t) : am_G X gm_X12_square Q 134 [(0, .ref (am_ad X 12 0)), (1, .int v1), (2, .int v2), (3, .int v3), (4, .int v4), (5, .int v5), (6, .int v6), (7, .int v7), (8, .int v8)] [] σ := by
  unfold f_X12_square_134 at hf
  refine g_iload (pc := 134) 8 rfl dX12_square_134 ?_
  refine g_aload_n (pc := 136) 0 rfl dX12_square_136 rfl ?_
  refine g_getI (pc := 137) (in_12 hX (by omega)) fr_X12_405 dX12_square_137 ?_
  refine bi_ge (pc := 140) 226 dX12_square_140 rfl (fun c1 => ?_) (fun c1 => ?_)
  · replace hf := am_ifT c1 hf
    refine g_aload_n (pc := 143) 0 rfl dX12_square_143 rfl ?_
    refine g_getC (pc := 144) (e := 0) (in_12 hX (by omega)) fr_X12_110 dX12_square_144 rfl ?_
    refine g_iload (pc := 147) 8 rfl dX12_square_147 ?_
    refine g_dup2_11 (pc := 149) dX12_square_149 rfl rfl ?_
    obtain ⟨j2, hj2, hf⟩ := am_bd hf
    have gj2 := am_ix_lt hj2
    refine g_aJ (pc := 150) (in_1380 hX (by omega)) ak_1380 hj2 dX12_square_150 ?_
    refine g_aload_n (pc := 151) 0 rfl dX12_square_151 rfl ?_
    refine g_getC (pc := 152) (e := 0) (in_12 hX (by omega)) fr_X12_113 dX12_square_152 rfl ?_
    refine g_iload (pc := 155) 8 rfl dX12_square_155 ?_
    obtain ⟨j3, hj3, hf⟩ := am_bd hf
    have gj3 := am_ix_lt hj3
    refine g_aI (pc := 157) (in_1383 hX (by omega)) ak_1383 hj3 dX12_square_157 ?_
    refine g_i2l (pc := 158) dX12_square_158 ?_
    refine g_aload_n (pc := 159) 0 rfl dX12_square_159 rfl ?_
    refine g_iload (pc := 160) 5 rfl dX12_square_160 ?_
    refine g_iload (pc := 162) 7 rfl dX12_square_162 ?_
    obtain ⟨p4, hp4, hf⟩ := am_bd hf
    refine g_cV (pc := 164) (As := [.int v5, .int v7]) (st := [.long (Int32.toInt64 (σ.1 1383 0 j3)), .long (σ.2.1 1380 0 j2), .int v8, .ref (am_ad X 1380 0)]) (st1 := [.long p4, .long (Int32.toInt64 (σ.1 1383 0 j3)), .long (σ.2.1 1380 0 j2), .int v8, .ref (am_ad X 1380 0)]) (in_12 hX (by omega)) kk_12 mV_X12_numberOf ln_X12_394 rfl (Nat.le_of_ble_eq_true rfl) (Nat.le_of_ble_eq_true rfl) (k_X12_numberOf hX v5 v7 σ hp4) dX12_square_164 rfl rfl ?_
    refine g_lmul (pc := 167) dX12_square_167 ?_
    refine g_ladd (pc := 168) dX12_square_168 ?_
    obtain ⟨j5, hj5, hf⟩ := am_bd hf
    have gj5 := am_ix_lt hj5
    obtain ⟨s6, hs6, hf⟩ := am_bd hf
    refine g_sJ (pc := 169) (in_1380 hX (by omega)) ak_1380 hj5 dX12_square_169 (Option.some.inj hs6) ?_
    refine g_iconst (pc := 170) (v := 0) dX12_square_170 (by decide) ?_
    refine g_istore (pc := 171) [(9, .int 0), (0, .ref (am_ad X 12 0)), (1, .int v1), (2, .int v2), (3, .int v3), (4, .int v4), (5, .int v5), (6, .int v6), (7, .int v7), (8, .int v8)] dX12_square_171 (Nat.le_of_ble_eq_true rfl) rfl ?_
    obtain ⟨w7, hw7, hf⟩ := am_bd hf
    refine am_sub [1, 2, 3, 4, 5, 6, 7, 8, 9, 0] rfl (l_X12_square_173 hX v1 v2 v3 v4 v5 v6 v7 v8  s6 (0, s6) hw7 ?_)
    intro t e
    subst e
    refine g_iinc (pc := 220) (v := (v8 + 1)) 8 [(8, .int (v8 + 1)), (0, .ref (am_ad X 12 0)), (1, .int v1), (2, .int v2), (3, .int v3), (4, .int v4), (5, .int v5), (6, .int v6), (7, .int v7)] dX12_square_220 rfl rfl (Nat.le_of_ble_eq_true rfl) rfl ?_
    refine g_goto (pc := 223) 134 dX12_square_223 rfl ?_
    have hz := hk0 _ (Option.some.inj hf).symm
    exact am_sub [1, 2, 3, 4, 5, 6, 7, 8, 0] rfl hz
  replace hf := am_ifF c1 hf
  have hz := hk1 _ (Option.some.inj hf).symm
  exact am_sub [0, 1, 2, 3, 4, 5, 6, 7] rfl hz
set_option maxRecDepth 100000 in
set_option maxHeartbeats 4000000 in
theorem l_X12_square_134 {X : am_X} (hX : am_ks X = am_ksM) {Q : Option Value → am_H → Prop} (v1 : Int32) (v2 : Int32) (v3 : Int32) (v4 : Int32) (v5 : Int32) (v6 : Int32) (v7 : Int32) (σ : am_H) (s : Int32 × am_H) {o : am_H} (hf : am_loop (fun s => f_X12_square_134 v1 v2 v3 v4 v5 v6 v7 s.1 s.2) s = some o) (hk1 : ∀ t, o = t → am_G X gm_X12_square Q 226 [(0, .ref (am_ad X 12 0)), (1, .int v1), (2, .int v2), (3, .int v3), (4, .int v4), (5, .int v5), (6, .int v6), (7, .int v7)] [] t) : am_G X gm_X12_square Q 134 [(0, .ref (am_ad X 12 0)), (1, .int v1), (2, .int v2), (3, .int v3), (4, .int v4), (5, .int v5), (6, .int v6), (7, .int v7), (8, .int s.1)] [] s.2 := by
  refine am_loop_ind (P := fun s => am_G X gm_X12_square Q 134 [(0, .ref (am_ad X 12 0)), (1, .int v1), (2, .int v2), (3, .int v3), (4, .int v4), (5, .int v5), (6, .int v6), (7, .int v7), (8, .int s.1)] [] s.2) (K := fun r => r = o) ?_ hf rfl
  intro s o1 hb hi hr
  exact q_X12_square_134 hX v1 v2 v3 v4 v5 v6 v7 s.1  s.2 hb hi (fun t e => hk1 t (hr _ e).symm)
noncomputable def f_X12_square_64 (v1 : Int32) (v2 : Int32) (v3 : Int32) (v4 : Int32) (v5 : Int32) (v6 : Int32) (v7 : Int32) (σ : am_H) : Option ((Int32 × am_H) ⊕ (am_H)) :=
  if v7 < v6 then
   ((f_X12_numberOf v5 v7 σ).bind fun p2 =>
   if p2 = 1000 then
    (some (.inl ((v7 + 1), σ)))
   else
   (am_loop (fun s => f_X12_square_92 v1 v2 v3 v4 v5 v6 v7 s.1 s.2) (0, σ)).bind fun w4 =>
   (am_loop (fun s => f_X12_square_134 v1 v2 v3 v4 v5 v6 v7 s.1 s.2) (0, w4)).bind fun w5 =>
   some (.inl ((v7 + 1), w5)))
  else
  some (.inr σ)
set_option maxRecDepth 100000 in
set_option maxHeartbeats 4000000 in
theorem q_X12_square_64 {X : am_X} (hX : am_ks X = am_ksM) {Q : Option Value → am_H → Prop} (v1 : Int32) (v2 : Int32) (v3 : Int32) (v4 : Int32) (v5 : Int32) (v6 : Int32) (v7 : Int32) (σ : am_H) {o : (Int32 × am_H) ⊕ (am_H)} (hf : f_X12_square_64 v1 v2 v3 v4 v5 v6 v7 σ = some o) (hk0 : ∀ s, o = .inl s → am_G X gm_X12_square Q 64 [(0, .ref (am_ad X 12 0)), (1, .int v1), (2, .int v2), (3, .int v3), (4, .int v4), (5, .int v5), (6, .int v6), (7, .int s.1)] [] s.2) (hk1 : ∀ t, o = .inr t → am_G X gm_X12_square Q 232 [(0, .ref (am_ad X 12 0))] [] t) : am_G X gm_X12_square Q 64 [(0, .ref (am_ad X 12 0)), (1, .int v1), (2, .int v2), (3, .int v3), (4, .int v4), (5, .int v5), (6, .int v6), (7, .int v7)] [] σ := by
  unfold f_X12_square_64 at hf
  refine g_iload (pc := 64) 7 rfl dX12_square_64 ?_
  refine g_iload (pc := 66) 6 rfl dX12_square_66 ?_
  refine bi_ge (pc := 68) 232 dX12_square_68 rfl (fun c1 => ?_) (fun c1 => ?_)
  · replace hf := am_ifT c1 hf
    refine g_aload_n (pc := 71) 0 rfl dX12_square_71 rfl ?_
    refine g_iload (pc := 72) 5 rfl dX12_square_72 ?_
    refine g_iload (pc := 74) 7 rfl dX12_square_74 ?_
    obtain ⟨p2, hp2, hf⟩ := am_bd hf
    refine g_cV (pc := 76) (As := [.int v5, .int v7]) (st := []) (st1 := [.long p2]) (in_12 hX (by omega)) kk_12 mV_X12_numberOf ln_X12_394 rfl (Nat.le_of_ble_eq_true rfl) (Nat.le_of_ble_eq_true rfl) (k_X12_numberOf hX v5 v7 σ hp2) dX12_square_76 rfl rfl ?_
    refine g_ldc2 (pc := 79) (v := 1000) (tb_9 (List.mem_of_getElem? (i := 154) (by decide +kernel))) dX12_square_79 ?_
    refine g_lcm (pc := 82) dX12_square_82 ?_
    refine bl_ne (pc := 83) 89 dX12_square_83 rfl (fun c3 => ?_) (fun c3 => ?_)
    · replace hf := am_ifT c3 hf
      refine g_goto (pc := 86) 226 dX12_square_86 rfl ?_
      refine g_iinc (pc := 226) (v := (v7 + 1)) 7 [(7, .int (v7 + 1)), (0, .ref (am_ad X 12 0)), (1, .int v1), (2, .int v2), (3, .int v3), (4, .int v4), (5, .int v5), (6, .int v6)] dX12_square_226 rfl rfl (Nat.le_of_ble_eq_true rfl) rfl ?_
      refine g_goto (pc := 229) 64 dX12_square_229 rfl ?_
      have hz := hk0 _ (Option.some.inj hf).symm
      exact am_sub [1, 2, 3, 4, 5, 6, 7, 0] rfl hz
    replace hf := am_ifF c3 hf
    refine g_iconst (pc := 89) (v := 0) dX12_square_89 (by decide) ?_
    refine g_istore (pc := 90) [(8, .int 0), (0, .ref (am_ad X 12 0)), (1, .int v1), (2, .int v2), (3, .int v3), (4, .int v4), (5, .int v5), (6, .int v6), (7, .int v7)] dX12_square_90 (Nat.le_of_ble_eq_true rfl) rfl ?_
    obtain ⟨w4, hw4, hf⟩ := am_bd hf
    refine am_sub [1, 2, 3, 4, 5, 6, 7, 8, 0] rfl (l_X12_square_92 hX v1 v2 v3 v4 v5 v6 v7  σ (0, σ) hw4 ?_)
    intro t e
    subst e
    refine g_iconst (pc := 131) (v := 0) dX12_square_131 (by decide) ?_
    refine g_istore (pc := 132) [(8, .int 0), (0, .ref (am_ad X 12 0)), (1, .int v1), (2, .int v2), (3, .int v3), (4, .int v4), (5, .int v5), (6, .int v6), (7, .int v7)] dX12_square_132 (Nat.le_of_ble_eq_true rfl) rfl ?_
    obtain ⟨w5, hw5, hf⟩ := am_bd hf
    refine am_sub [1, 2, 3, 4, 5, 6, 7, 8, 0] rfl (l_X12_square_134 hX v1 v2 v3 v4 v5 v6 v7  w4 (0, w4) hw5 ?_)
    intro t e
    subst e
    refine g_iinc (pc := 226) (v := (v7 + 1)) 7 [(7, .int (v7 + 1)), (0, .ref (am_ad X 12 0)), (1, .int v1), (2, .int v2), (3, .int v3), (4, .int v4), (5, .int v5), (6, .int v6)] dX12_square_226 rfl rfl (Nat.le_of_ble_eq_true rfl) rfl ?_
    refine g_goto (pc := 229) 64 dX12_square_229 rfl ?_
    have hz := hk0 _ (Option.some.inj hf).symm
    exact am_sub [1, 2, 3, 4, 5, 6, 7, 0] rfl hz
  replace hf := am_ifF c1 hf
  have hz := hk1 _ (Option.some.inj hf).symm
  exact am_sub [0] rfl hz
set_option maxRecDepth 100000 in
set_option maxHeartbeats 4000000 in
theorem l_X12_square_64 {X : am_X} (hX : am_ks X = am_ksM) {Q : Option Value → am_H → Prop} (v1 : Int32) (v2 : Int32) (v3 : Int32) (v4 : Int32) (v5 : Int32) (v6 : Int32) (σ : am_H) (s : Int32 × am_H) {o : am_H} (hf : am_loop (fun s => f_X12_square_64 v1 v2 v3 v4 v5 v6 s.1 s.2) s = some o) (hk1 : ∀ t, o = t → am_G X gm_X12_square Q 232 [(0, .ref (am_ad X 12 0))] [] t) : am_G X gm_X12_square Q 64 [(0, .ref (am_ad X 12 0)), (1, .int v1), (2, .int v2), (3, .int v3), (4, .int v4), (5, .int v5), (6, .int v6), (7, .int s.1)] [] s.2 := by
  refine am_loop_ind (P := fun s => am_G X gm_X12_square Q 64 [(0, .ref (am_ad X 12 0)), (1, .int v1), (2, .int v2), (3, .int v3), (4, .int v4), (5, .int v5), (6, .int v6), (7, .int s.1)] [] s.2) (K := fun r => r = o) ?_ hf rfl
  intro s o1 hb hi hr
  exact q_X12_square_64 hX v1 v2 v3 v4 v5 v6 s.1  s.2 hb hi (fun t e => hk1 t (hr _ e).symm)
noncomputable def f_X12_square_11 (v1 : Int32) (v2 : Int32) (v3 : Int32) (v4 : Int32) (v5 : Int32) (v6 : Int32) (k1 : Int32) (σ : am_H) : Option (am_H) :=
  (some (am_wI σ 12 0 81 k1)).bind fun s1 =>
  (am_loop (fun s => f_X12_square_17 v1 v2 v3 v4 v5 v6 s.1 s.2) (0, s1)).bind fun w2 =>
  (am_loop (fun s => f_X12_square_41 v1 v2 v3 v4 v5 v6 s.1 s.2) (0, w2)).bind fun w3 =>
  (am_loop (fun s => f_X12_square_64 v1 v2 v3 v4 v5 v6 s.1 s.2) (0, w3)).bind fun w4 =>
  (f_X12_reckon 8 0 0 (-1) w4).bind fun p5 =>
  (some (am_wL w4 12 0 82 p5)).bind fun s6 =>
  some s6
set_option maxRecDepth 100000 in
set_option maxHeartbeats 4000000 in
theorem q_X12_square_11 {X : am_X} (hX : am_ks X = am_ksM) {Q : Option Value → am_H → Prop} (v1 : Int32) (v2 : Int32) (v3 : Int32) (v4 : Int32) (v5 : Int32) (v6 : Int32) (k1 : Int32) (σ : am_H) {o : am_H} (hf : f_X12_square_11 v1 v2 v3 v4 v5 v6 k1 σ = some o) (hk : Q none o) : am_G X gm_X12_square Q 11 [(0, .ref (am_ad X 12 0)), (1, .int v1), (2, .int v2), (3, .int v3), (4, .int v4), (5, .int v5), (6, .int v6)] [.int k1, .ref (am_ad X 12 0)] σ := by
  unfold f_X12_square_11 at hf
  obtain ⟨s1, hs1, hf⟩ := am_bd hf
  refine g_setI (pc := 11) (in_12 hX (by omega)) fr_X12_405 dX12_square_11 (Option.some.inj hs1) ?_
  refine g_iconst (pc := 14) (v := 0) dX12_square_14 (by decide) ?_
  refine g_istore (pc := 15) [(7, .int 0), (0, .ref (am_ad X 12 0)), (1, .int v1), (2, .int v2), (3, .int v3), (4, .int v4), (5, .int v5), (6, .int v6)] dX12_square_15 (Nat.le_of_ble_eq_true rfl) rfl ?_
  obtain ⟨w2, hw2, hf⟩ := am_bd hf
  refine am_sub [1, 2, 3, 4, 5, 6, 7, 0] rfl (l_X12_square_17 hX v1 v2 v3 v4 v5 v6  s1 (0, s1) hw2 ?_)
  intro t e
  subst e
  refine g_iconst (pc := 38) (v := 0) dX12_square_38 (by decide) ?_
  refine g_istore (pc := 39) [(7, .int 0), (0, .ref (am_ad X 12 0)), (1, .int v1), (2, .int v2), (3, .int v3), (4, .int v4), (5, .int v5), (6, .int v6)] dX12_square_39 (Nat.le_of_ble_eq_true rfl) rfl ?_
  obtain ⟨w3, hw3, hf⟩ := am_bd hf
  refine am_sub [1, 2, 3, 4, 5, 6, 7, 0] rfl (l_X12_square_41 hX v1 v2 v3 v4 v5 v6  w2 (0, w2) hw3 ?_)
  intro t e
  subst e
  refine g_iconst (pc := 61) (v := 0) dX12_square_61 (by decide) ?_
  refine g_istore (pc := 62) [(7, .int 0), (0, .ref (am_ad X 12 0)), (1, .int v1), (2, .int v2), (3, .int v3), (4, .int v4), (5, .int v5), (6, .int v6)] dX12_square_62 (Nat.le_of_ble_eq_true rfl) rfl ?_
  obtain ⟨w4, hw4, hf⟩ := am_bd hf
  refine am_sub [1, 2, 3, 4, 5, 6, 7, 0] rfl (l_X12_square_64 hX v1 v2 v3 v4 v5 v6  w3 (0, w3) hw4 ?_)
  intro t e
  subst e
  refine g_aload_n (pc := 232) 0 rfl dX12_square_232 rfl ?_
  refine g_aload_n (pc := 233) 0 rfl dX12_square_233 rfl ?_
  refine g_iconst (pc := 234) (v := 0) dX12_square_234 (by decide) ?_
  refine g_iconst (pc := 235) (v := 0) dX12_square_235 (by decide) ?_
  refine g_iconst (pc := 236) (v := (-1)) dX12_square_236 (by decide) ?_
  obtain ⟨p5, hp5, hf⟩ := am_bd hf
  refine g_cV (pc := 237) (As := [.int 0, .int 0, .int (-1)]) (st := [.ref (am_ad X 12 0)]) (st1 := [.long p5, .ref (am_ad X 12 0)]) (in_12 hX (by omega)) kk_12 (mV_X12_reckon _) ln_X12_415 rfl (Nat.le_of_ble_eq_true rfl) (Nat.le_of_ble_eq_true rfl) (k_X12_reckon hX 8 0 0 (-1) w4 hp5) dX12_square_237 rfl rfl ?_
  obtain ⟨s6, hs6, hf⟩ := am_bd hf
  refine g_setJ (pc := 240) (in_12 hX (by omega)) fr_X12_418 dX12_square_240 (Option.some.inj hs6) ?_
  have ho := Option.some.inj hf
  subst ho
  exact g_vreturn (pc := 243) (st := []) rfl dX12_square_243 hk
noncomputable def f_X12_square (v1 : Int32) (v2 : Int32) (v3 : Int32) (v4 : Int32) (v5 : Int32) (v6 : Int32) (σ : am_H) : Option (am_H) :=
  if v2 = v3 then
   (f_X12_square_11 v1 v2 v3 v4 v5 v6 3 σ)
  else
  f_X12_square_11 v1 v2 v3 v4 v5 v6 5 σ
set_option maxRecDepth 100000 in
set_option maxHeartbeats 4000000 in
theorem q_X12_square {X : am_X} (hX : am_ks X = am_ksM) {Q : Option Value → am_H → Prop} (v1 : Int32) (v2 : Int32) (v3 : Int32) (v4 : Int32) (v5 : Int32) (v6 : Int32) (σ : am_H) {o : am_H} (hf : f_X12_square v1 v2 v3 v4 v5 v6 σ = some o) (hk : Q none o) : am_G X gm_X12_square Q 0 [(0, .ref (am_ad X 12 0)), (1, .int v1), (2, .int v2), (3, .int v3), (4, .int v4), (5, .int v5), (6, .int v6)] [] σ := by
  unfold f_X12_square at hf
  refine g_aload_n (pc := 0) 0 rfl dX12_square_0 rfl ?_
  refine g_iload_n (pc := 1) 2 rfl dX12_square_1 rfl ?_
  refine g_iload_n (pc := 2) 3 rfl dX12_square_2 rfl ?_
  refine bi_ne (pc := 3) 10 dX12_square_3 rfl (fun c1 => ?_) (fun c1 => ?_)
  · replace hf := am_ifT c1 hf
    refine g_iconst (pc := 6) (v := 3) dX12_square_6 (by decide) ?_
    refine g_goto (pc := 7) 11 dX12_square_7 rfl ?_
    exact q_X12_square_11 hX v1 v2 v3 v4 v5 v6 3 σ hf hk
  replace hf := am_ifF c1 hf
  refine g_iconst (pc := 10) (v := 5) dX12_square_10 (by decide) ?_
  exact q_X12_square_11 hX v1 v2 v3 v4 v5 v6 5 σ hf hk
theorem k_X12_square {X : am_X} (hX : am_ks X = am_ksM) (v1 : Int32) (v2 : Int32) (v3 : Int32) (v4 : Int32) (v5 : Int32) (v6 : Int32) (σ : am_H) {o : am_H} (hf : f_X12_square v1 v2 v3 v4 v5 v6 σ = some o) : am_C X gm_X12_square [.ref (am_ad X 12 0), .int v1, .int v2, .int v3, .int v4, .int v5, .int v6] σ (am_is none o) :=
  am_ofG rfl (Nat.le_of_ble_eq_true rfl) rfl (q_X12_square hX v1 v2 v3 v4 v5 v6 σ hf ⟨rfl, rfl⟩)
theorem dX12_asksGauge_0 : decode cX12_asksGauge 0 = .ok (.aload_n 0, 1) := by decide +kernel
theorem dX12_asksGauge_1 : decode cX12_asksGauge 1 = .ok (.iload_n 2, 1) := by decide +kernel
theorem dX12_asksGauge_2 : decode cX12_asksGauge 2 = .ok (.invokevirtual 421, 3) := by decide +kernel
theorem dX12_asksGauge_5 : decode cX12_asksGauge 5 = .ok (.ifCond .eq 11, 3) := by decide +kernel
theorem dX12_asksGauge_8 : decode cX12_asksGauge 8 = .ok (.aload_n 0, 1) := by decide +kernel
theorem dX12_asksGauge_9 : decode cX12_asksGauge 9 = .ok (.iload_n 3, 1) := by decide +kernel
theorem dX12_asksGauge_10 : decode cX12_asksGauge 10 = .ok (.invokevirtual 421, 3) := by decide +kernel
theorem dX12_asksGauge_13 : decode cX12_asksGauge 13 = .ok (.ifCond .ne 5, 3) := by decide +kernel
theorem dX12_asksGauge_16 : decode cX12_asksGauge 16 = .ok (.iconst 1, 1) := by decide +kernel
theorem dX12_asksGauge_17 : decode cX12_asksGauge 17 = .ok (.ireturn, 1) := by decide +kernel
theorem dX12_asksGauge_18 : decode cX12_asksGauge 18 = .ok (.iload_n 1, 1) := by decide +kernel
theorem dX12_asksGauge_19 : decode cX12_asksGauge 19 = .ok (.invokestatic 280, 3) := by decide +kernel
theorem dX12_asksGauge_22 : decode cX12_asksGauge 22 = .ok (.ifCond .ne 5, 3) := by decide +kernel
theorem dX12_asksGauge_25 : decode cX12_asksGauge 25 = .ok (.iconst 2, 1) := by decide +kernel
theorem dX12_asksGauge_26 : decode cX12_asksGauge 26 = .ok (.ireturn, 1) := by decide +kernel
theorem dX12_asksGauge_27 : decode cX12_asksGauge 27 = .ok (.aload_n 0, 1) := by decide +kernel
theorem dX12_asksGauge_28 : decode cX12_asksGauge 28 = .ok (.getfield 17, 3) := by decide +kernel
theorem dX12_asksGauge_31 : decode cX12_asksGauge 31 = .ok (.iload_n 2, 1) := by decide +kernel
theorem dX12_asksGauge_32 : decode cX12_asksGauge 32 = .ok (.iaload, 1) := by decide +kernel
theorem dX12_asksGauge_33 : decode cX12_asksGauge 33 = .ok (.ifCond .lt 12, 3) := by decide +kernel
theorem dX12_asksGauge_36 : decode cX12_asksGauge 36 = .ok (.aload_n 0, 1) := by decide +kernel
theorem dX12_asksGauge_37 : decode cX12_asksGauge 37 = .ok (.getfield 17, 3) := by decide +kernel
theorem dX12_asksGauge_40 : decode cX12_asksGauge 40 = .ok (.iload_n 3, 1) := by decide +kernel
theorem dX12_asksGauge_41 : decode cX12_asksGauge 41 = .ok (.iaload, 1) := by decide +kernel
theorem dX12_asksGauge_42 : decode cX12_asksGauge 42 = .ok (.ifCond .ge 5, 3) := by decide +kernel
theorem dX12_asksGauge_45 : decode cX12_asksGauge 45 = .ok (.iconst 3, 1) := by decide +kernel
theorem dX12_asksGauge_46 : decode cX12_asksGauge 46 = .ok (.ireturn, 1) := by decide +kernel
theorem dX12_asksGauge_47 : decode cX12_asksGauge 47 = .ok (.iload 4, 2) := by decide +kernel
theorem dX12_asksGauge_49 : decode cX12_asksGauge 49 = .ok (.i2l, 1) := by decide +kernel
theorem dX12_asksGauge_50 : decode cX12_asksGauge 50 = .ok (.lconst 1, 1) := by decide +kernel
theorem dX12_asksGauge_51 : decode cX12_asksGauge 51 = .ok (.ldc2_w 316, 3) := by decide +kernel
theorem dX12_asksGauge_54 : decode cX12_asksGauge 54 = .ok (.invokestatic 239, 3) := by decide +kernel
theorem dX12_asksGauge_57 : decode cX12_asksGauge 57 = .ok (.ifCond .eq 8, 3) := by decide +kernel
theorem dX12_asksGauge_60 : decode cX12_asksGauge 60 = .ok (.iload 5, 2) := by decide +kernel
theorem dX12_asksGauge_62 : decode cX12_asksGauge 62 = .ok (.ifCond .ne 5, 3) := by decide +kernel
theorem dX12_asksGauge_65 : decode cX12_asksGauge 65 = .ok (.iconst 5, 1) := by decide +kernel
theorem dX12_asksGauge_66 : decode cX12_asksGauge 66 = .ok (.ireturn, 1) := by decide +kernel
theorem dX12_asksGauge_67 : decode cX12_asksGauge 67 = .ok (.aload_n 0, 1) := by decide +kernel
theorem dX12_asksGauge_68 : decode cX12_asksGauge 68 = .ok (.getfield 17, 3) := by decide +kernel
theorem dX12_asksGauge_71 : decode cX12_asksGauge 71 = .ok (.iload_n 2, 1) := by decide +kernel
theorem dX12_asksGauge_72 : decode cX12_asksGauge 72 = .ok (.iaload, 1) := by decide +kernel
theorem dX12_asksGauge_73 : decode cX12_asksGauge 73 = .ok (.iload 4, 2) := by decide +kernel
theorem dX12_asksGauge_75 : decode cX12_asksGauge 75 = .ok (.if_icmp .lt 14, 3) := by decide +kernel
theorem dX12_asksGauge_78 : decode cX12_asksGauge 78 = .ok (.aload_n 0, 1) := by decide +kernel
theorem dX12_asksGauge_79 : decode cX12_asksGauge 79 = .ok (.getfield 17, 3) := by decide +kernel
theorem dX12_asksGauge_82 : decode cX12_asksGauge 82 = .ok (.iload_n 3, 1) := by decide +kernel
theorem dX12_asksGauge_83 : decode cX12_asksGauge 83 = .ok (.iaload, 1) := by decide +kernel
theorem dX12_asksGauge_84 : decode cX12_asksGauge 84 = .ok (.iload 4, 2) := by decide +kernel
theorem dX12_asksGauge_86 : decode cX12_asksGauge 86 = .ok (.if_icmp .ge 5, 3) := by decide +kernel
theorem dX12_asksGauge_89 : decode cX12_asksGauge 89 = .ok (.iconst 4, 1) := by decide +kernel
theorem dX12_asksGauge_90 : decode cX12_asksGauge 90 = .ok (.ireturn, 1) := by decide +kernel
theorem dX12_asksGauge_91 : decode cX12_asksGauge 91 = .ok (.aload_n 0, 1) := by decide +kernel
theorem dX12_asksGauge_92 : decode cX12_asksGauge 92 = .ok (.iload_n 2, 1) := by decide +kernel
theorem dX12_asksGauge_93 : decode cX12_asksGauge 93 = .ok (.iload_n 3, 1) := by decide +kernel
theorem dX12_asksGauge_94 : decode cX12_asksGauge 94 = .ok (.iload 4, 2) := by decide +kernel
theorem dX12_asksGauge_96 : decode cX12_asksGauge 96 = .ok (.invokevirtual 424, 3) := by decide +kernel
theorem dX12_asksGauge_99 : decode cX12_asksGauge 99 = .ok (.ifCond .eq 7, 3) := by decide +kernel
theorem dX12_asksGauge_102 : decode cX12_asksGauge 102 = .ok (.iconst 0, 1) := by decide +kernel
theorem dX12_asksGauge_103 : decode cX12_asksGauge 103 = .ok (.goto 4, 3) := by decide +kernel
theorem dX12_asksGauge_106 : decode cX12_asksGauge 106 = .ok (.iconst 5, 1) := by decide +kernel
theorem dX12_asksGauge_107 : decode cX12_asksGauge 107 = .ok (.ireturn, 1) := by decide +kernel
noncomputable def f_X12_asksGauge (v1 : Int32) (v2 : Int32) (v3 : Int32) (v4 : Int32) (v5 : Bool) (σ : am_H) : Option (Int32) :=
  (f_X12_isTray v2 σ).bind fun p1 =>
  if p1 = true then
   ((f_X12_isTray v3 σ).bind fun p3 =>
   if p3 = true then
    ((f_X12_isMachine v1 σ).bind fun p5 =>
    if p5 = true then
     ((am_ix 5 v2).bind fun j7 =>
     if (σ.1 1305 0 j7) < 0 then
      (some 3)
     else
     (am_ix 5 v3).bind fun j9 =>
     if (σ.1 1305 0 j9) < 0 then
      (some 3)
     else
     (f_X12_isIn (Int32.toInt64 v4) 1 24 σ).bind fun p11 =>
     if p11 = true then
      (if v5 = true then
       ((am_ix 5 v2).bind fun j14 =>
       if (σ.1 1305 0 j14) < v4 then
        (some 4)
       else
       (am_ix 5 v3).bind fun j16 =>
       if (σ.1 1305 0 j16) < v4 then
        (some 4)
       else
       (f_X12_areRead v2 v3 v4 σ).bind fun p18 =>
       if p18 = true then
        (some 0)
       else
       some 5)
      else
      some 5)
     else
     some 5)
    else
    some 2)
   else
   some 1)
  else
  some 1
set_option maxRecDepth 100000 in
set_option maxHeartbeats 4000000 in
theorem q_X12_asksGauge {X : am_X} (hX : am_ks X = am_ksM) {Q : Option Value → am_H → Prop} (v1 : Int32) (v2 : Int32) (v3 : Int32) (v4 : Int32) (v5 : Bool) (σ : am_H) {o : Int32} (hf : f_X12_asksGauge v1 v2 v3 v4 v5 σ = some o) (hk : Q (some (.int o)) σ) : am_G X gm_X12_asksGauge Q 0 [(0, .ref (am_ad X 12 0)), (1, .int v1), (2, .int v2), (3, .int v3), (4, .int v4), (5, .int (am_b v5))] [] σ := by
  unfold f_X12_asksGauge at hf
  refine g_aload_n (pc := 0) 0 rfl dX12_asksGauge_0 rfl ?_
  refine g_iload_n (pc := 1) 2 rfl dX12_asksGauge_1 rfl ?_
  obtain ⟨p1, hp1, hf⟩ := am_bd hf
  refine g_cV (pc := 2) (As := [.int v2]) (st := []) (st1 := [.int (am_b p1)]) (in_12 hX (by omega)) kk_12 mV_X12_isTray ln_X12_421 rfl (Nat.le_of_ble_eq_true rfl) (Nat.le_of_ble_eq_true rfl) (k_X12_isTray hX v2 σ hp1) dX12_asksGauge_2 rfl rfl ?_
  refine bt_eq (pc := 5) 16 dX12_asksGauge_5 rfl (fun c2 => ?_) (fun c2 => ?_)
  · replace hf := am_ifT c2 hf
    refine g_aload_n (pc := 8) 0 rfl dX12_asksGauge_8 rfl ?_
    refine g_iload_n (pc := 9) 3 rfl dX12_asksGauge_9 rfl ?_
    obtain ⟨p3, hp3, hf⟩ := am_bd hf
    refine g_cV (pc := 10) (As := [.int v3]) (st := []) (st1 := [.int (am_b p3)]) (in_12 hX (by omega)) kk_12 mV_X12_isTray ln_X12_421 rfl (Nat.le_of_ble_eq_true rfl) (Nat.le_of_ble_eq_true rfl) (k_X12_isTray hX v3 σ hp3) dX12_asksGauge_10 rfl rfl ?_
    refine bt_ne (pc := 13) 18 dX12_asksGauge_13 rfl (fun c4 => ?_) (fun c4 => ?_)
    · replace hf := am_ifT c4 hf
      refine g_iload_n (pc := 18) 1 rfl dX12_asksGauge_18 rfl ?_
      obtain ⟨p5, hp5, hf⟩ := am_bd hf
      refine g_cS (pc := 19) (As := [.int v1]) (st := []) (st1 := [.int (am_b p5)]) mS_X12_isMachine ln_X12_280 rfl (Nat.le_of_ble_eq_true rfl) (Nat.le_of_ble_eq_true rfl) (k_X12_isMachine hX v1 σ hp5) dX12_asksGauge_19 rfl rfl ?_
      refine bt_ne (pc := 22) 27 dX12_asksGauge_22 rfl (fun c6 => ?_) (fun c6 => ?_)
      · replace hf := am_ifT c6 hf
        refine g_aload_n (pc := 27) 0 rfl dX12_asksGauge_27 rfl ?_
        refine g_getC (pc := 28) (e := 0) (in_12 hX (by omega)) fr_X12_17 dX12_asksGauge_28 rfl ?_
        refine g_iload_n (pc := 31) 2 rfl dX12_asksGauge_31 rfl ?_
        obtain ⟨j7, hj7, hf⟩ := am_bd hf
        have gj7 := am_ix_lt hj7
        refine g_aI (pc := 32) (in_1305 hX (by omega)) ak_1305 hj7 dX12_asksGauge_32 ?_
        refine bz_lt (pc := 33) 45 dX12_asksGauge_33 rfl (fun c8 => ?_) (fun c8 => ?_)
        · replace hf := am_ifT c8 hf
          refine g_iconst (pc := 45) (v := 3) dX12_asksGauge_45 (by decide) ?_
          have ho := Option.some.inj hf
          subst ho
          exact g_ireturn (pc := 46) (st := []) rfl dX12_asksGauge_46 hk
        replace hf := am_ifF c8 hf
        refine g_aload_n (pc := 36) 0 rfl dX12_asksGauge_36 rfl ?_
        refine g_getC (pc := 37) (e := 0) (in_12 hX (by omega)) fr_X12_17 dX12_asksGauge_37 rfl ?_
        refine g_iload_n (pc := 40) 3 rfl dX12_asksGauge_40 rfl ?_
        obtain ⟨j9, hj9, hf⟩ := am_bd hf
        have gj9 := am_ix_lt hj9
        refine g_aI (pc := 41) (in_1305 hX (by omega)) ak_1305 hj9 dX12_asksGauge_41 ?_
        refine bz_ge (pc := 42) 47 dX12_asksGauge_42 rfl (fun c10 => ?_) (fun c10 => ?_)
        · replace hf := am_ifT c10 hf
          refine g_iconst (pc := 45) (v := 3) dX12_asksGauge_45 (by decide) ?_
          have ho := Option.some.inj hf
          subst ho
          exact g_ireturn (pc := 46) (st := []) rfl dX12_asksGauge_46 hk
        replace hf := am_ifF c10 hf
        refine g_iload (pc := 47) 4 rfl dX12_asksGauge_47 ?_
        refine g_i2l (pc := 49) dX12_asksGauge_49 ?_
        refine g_lconst (pc := 50) (v := 1) dX12_asksGauge_50 (by decide) ?_
        refine g_ldc2 (pc := 51) (v := 24) (tb_9 (List.mem_of_getElem? (i := 51) (by decide +kernel))) dX12_asksGauge_51 ?_
        obtain ⟨p11, hp11, hf⟩ := am_bd hf
        refine g_cS (pc := 54) (As := [.long (Int32.toInt64 v4), .long 1, .long 24]) (st := []) (st1 := [.int (am_b p11)]) mS_X12_isIn ln_X12_239 rfl (Nat.le_of_ble_eq_true rfl) (Nat.le_of_ble_eq_true rfl) (k_X12_isIn hX (Int32.toInt64 v4) 1 24 σ hp11) dX12_asksGauge_54 rfl rfl ?_
        refine bt_eq (pc := 57) 65 dX12_asksGauge_57 rfl (fun c12 => ?_) (fun c12 => ?_)
        · replace hf := am_ifT c12 hf
          refine g_iload (pc := 60) 5 rfl dX12_asksGauge_60 ?_
          refine bt_ne (pc := 62) 67 dX12_asksGauge_62 rfl (fun c13 => ?_) (fun c13 => ?_)
          · replace hf := am_ifT c13 hf
            refine g_aload_n (pc := 67) 0 rfl dX12_asksGauge_67 rfl ?_
            refine g_getC (pc := 68) (e := 0) (in_12 hX (by omega)) fr_X12_17 dX12_asksGauge_68 rfl ?_
            refine g_iload_n (pc := 71) 2 rfl dX12_asksGauge_71 rfl ?_
            obtain ⟨j14, hj14, hf⟩ := am_bd hf
            have gj14 := am_ix_lt hj14
            refine g_aI (pc := 72) (in_1305 hX (by omega)) ak_1305 hj14 dX12_asksGauge_72 ?_
            refine g_iload (pc := 73) 4 rfl dX12_asksGauge_73 ?_
            refine bi_lt (pc := 75) 89 dX12_asksGauge_75 rfl (fun c15 => ?_) (fun c15 => ?_)
            · replace hf := am_ifT c15 hf
              refine g_iconst (pc := 89) (v := 4) dX12_asksGauge_89 (by decide) ?_
              have ho := Option.some.inj hf
              subst ho
              exact g_ireturn (pc := 90) (st := []) rfl dX12_asksGauge_90 hk
            replace hf := am_ifF c15 hf
            refine g_aload_n (pc := 78) 0 rfl dX12_asksGauge_78 rfl ?_
            refine g_getC (pc := 79) (e := 0) (in_12 hX (by omega)) fr_X12_17 dX12_asksGauge_79 rfl ?_
            refine g_iload_n (pc := 82) 3 rfl dX12_asksGauge_82 rfl ?_
            obtain ⟨j16, hj16, hf⟩ := am_bd hf
            have gj16 := am_ix_lt hj16
            refine g_aI (pc := 83) (in_1305 hX (by omega)) ak_1305 hj16 dX12_asksGauge_83 ?_
            refine g_iload (pc := 84) 4 rfl dX12_asksGauge_84 ?_
            refine bi_ge (pc := 86) 91 dX12_asksGauge_86 rfl (fun c17 => ?_) (fun c17 => ?_)
            · replace hf := am_ifT c17 hf
              refine g_iconst (pc := 89) (v := 4) dX12_asksGauge_89 (by decide) ?_
              have ho := Option.some.inj hf
              subst ho
              exact g_ireturn (pc := 90) (st := []) rfl dX12_asksGauge_90 hk
            replace hf := am_ifF c17 hf
            refine g_aload_n (pc := 91) 0 rfl dX12_asksGauge_91 rfl ?_
            refine g_iload_n (pc := 92) 2 rfl dX12_asksGauge_92 rfl ?_
            refine g_iload_n (pc := 93) 3 rfl dX12_asksGauge_93 rfl ?_
            refine g_iload (pc := 94) 4 rfl dX12_asksGauge_94 ?_
            obtain ⟨p18, hp18, hf⟩ := am_bd hf
            refine g_cV (pc := 96) (As := [.int v2, .int v3, .int v4]) (st := []) (st1 := [.int (am_b p18)]) (in_12 hX (by omega)) kk_12 mV_X12_areRead ln_X12_424 rfl (Nat.le_of_ble_eq_true rfl) (Nat.le_of_ble_eq_true rfl) (k_X12_areRead hX v2 v3 v4 σ hp18) dX12_asksGauge_96 rfl rfl ?_
            refine bt_eq (pc := 99) 106 dX12_asksGauge_99 rfl (fun c19 => ?_) (fun c19 => ?_)
            · replace hf := am_ifT c19 hf
              refine g_iconst (pc := 102) (v := 0) dX12_asksGauge_102 (by decide) ?_
              refine g_goto (pc := 103) 107 dX12_asksGauge_103 rfl ?_
              have ho := Option.some.inj hf
              subst ho
              exact g_ireturn (pc := 107) (st := []) rfl dX12_asksGauge_107 hk
            replace hf := am_ifF c19 hf
            refine g_iconst (pc := 106) (v := 5) dX12_asksGauge_106 (by decide) ?_
            have ho := Option.some.inj hf
            subst ho
            exact g_ireturn (pc := 107) (st := []) rfl dX12_asksGauge_107 hk
          replace hf := am_ifF c13 hf
          refine g_iconst (pc := 65) (v := 5) dX12_asksGauge_65 (by decide) ?_
          have ho := Option.some.inj hf
          subst ho
          exact g_ireturn (pc := 66) (st := []) rfl dX12_asksGauge_66 hk
        replace hf := am_ifF c12 hf
        refine g_iconst (pc := 65) (v := 5) dX12_asksGauge_65 (by decide) ?_
        have ho := Option.some.inj hf
        subst ho
        exact g_ireturn (pc := 66) (st := []) rfl dX12_asksGauge_66 hk
      replace hf := am_ifF c6 hf
      refine g_iconst (pc := 25) (v := 2) dX12_asksGauge_25 (by decide) ?_
      have ho := Option.some.inj hf
      subst ho
      exact g_ireturn (pc := 26) (st := []) rfl dX12_asksGauge_26 hk
    replace hf := am_ifF c4 hf
    refine g_iconst (pc := 16) (v := 1) dX12_asksGauge_16 (by decide) ?_
    have ho := Option.some.inj hf
    subst ho
    exact g_ireturn (pc := 17) (st := []) rfl dX12_asksGauge_17 hk
  replace hf := am_ifF c2 hf
  refine g_iconst (pc := 16) (v := 1) dX12_asksGauge_16 (by decide) ?_
  have ho := Option.some.inj hf
  subst ho
  exact g_ireturn (pc := 17) (st := []) rfl dX12_asksGauge_17 hk
theorem k_X12_asksGauge {X : am_X} (hX : am_ks X = am_ksM) (v1 : Int32) (v2 : Int32) (v3 : Int32) (v4 : Int32) (v5 : Bool) (σ : am_H) {o : Int32} (hf : f_X12_asksGauge v1 v2 v3 v4 v5 σ = some o) : am_C X gm_X12_asksGauge [.ref (am_ad X 12 0), .int v1, .int v2, .int v3, .int v4, .int (am_b v5)] σ (am_is (some (.int o)) σ) :=
  am_ofG rfl (Nat.le_of_ble_eq_true rfl) rfl (q_X12_asksGauge hX v1 v2 v3 v4 v5 σ hf ⟨rfl, rfl⟩)
theorem dX12_settings_0 : decode cX12_settings 0 = .ok (.aload_n 0, 1) := by decide +kernel
theorem dX12_settings_1 : decode cX12_settings 1 = .ok (.iconst 0, 1) := by decide +kernel
theorem dX12_settings_2 : decode cX12_settings 2 = .ok (.putfield 122, 3) := by decide +kernel
theorem dX12_settings_5 : decode cX12_settings 5 = .ok (.aload_n 0, 1) := by decide +kernel
theorem dX12_settings_6 : decode cX12_settings 6 = .ok (.iconst 0, 1) := by decide +kernel
theorem dX12_settings_7 : decode cX12_settings 7 = .ok (.putfield 125, 3) := by decide +kernel
theorem dX12_settings_10 : decode cX12_settings 10 = .ok (.aload_n 0, 1) := by decide +kernel
theorem dX12_settings_11 : decode cX12_settings 11 = .ok (.iload 4, 2) := by decide +kernel
theorem dX12_settings_13 : decode cX12_settings 13 = .ok (.invokevirtual 421, 3) := by decide +kernel
theorem dX12_settings_16 : decode cX12_settings 16 = .ok (.ifCond .eq 12, 3) := by decide +kernel
theorem dX12_settings_19 : decode cX12_settings 19 = .ok (.aload_n 0, 1) := by decide +kernel
theorem dX12_settings_20 : decode cX12_settings 20 = .ok (.iload 5, 2) := by decide +kernel
theorem dX12_settings_22 : decode cX12_settings 22 = .ok (.invokevirtual 421, 3) := by decide +kernel
theorem dX12_settings_25 : decode cX12_settings 25 = .ok (.ifCond .ne 9, 3) := by decide +kernel
theorem dX12_settings_28 : decode cX12_settings 28 = .ok (.aload_n 0, 1) := by decide +kernel
theorem dX12_settings_29 : decode cX12_settings 29 = .ok (.iconst 1, 1) := by decide +kernel
theorem dX12_settings_30 : decode cX12_settings 30 = .ok (.invokevirtual 137, 3) := by decide +kernel
theorem dX12_settings_33 : decode cX12_settings 33 = .ok (.ireturn, 1) := by decide +kernel
theorem dX12_settings_34 : decode cX12_settings 34 = .ok (.aload_n 0, 1) := by decide +kernel
theorem dX12_settings_35 : decode cX12_settings 35 = .ok (.iload_n 1, 1) := by decide +kernel
theorem dX12_settings_36 : decode cX12_settings 36 = .ok (.iload_n 2, 1) := by decide +kernel
theorem dX12_settings_37 : decode cX12_settings 37 = .ok (.invokevirtual 300, 3) := by decide +kernel
theorem dX12_settings_40 : decode cX12_settings 40 = .ok (.ifCond .eq 12, 3) := by decide +kernel
theorem dX12_settings_43 : decode cX12_settings 43 = .ok (.aload_n 0, 1) := by decide +kernel
theorem dX12_settings_44 : decode cX12_settings 44 = .ok (.iload_n 1, 1) := by decide +kernel
theorem dX12_settings_45 : decode cX12_settings 45 = .ok (.iload_n 3, 1) := by decide +kernel
theorem dX12_settings_46 : decode cX12_settings 46 = .ok (.invokevirtual 300, 3) := by decide +kernel
theorem dX12_settings_49 : decode cX12_settings 49 = .ok (.ifCond .ne 9, 3) := by decide +kernel
theorem dX12_settings_52 : decode cX12_settings 52 = .ok (.aload_n 0, 1) := by decide +kernel
theorem dX12_settings_53 : decode cX12_settings 53 = .ok (.iconst 2, 1) := by decide +kernel
theorem dX12_settings_54 : decode cX12_settings 54 = .ok (.invokevirtual 137, 3) := by decide +kernel
theorem dX12_settings_57 : decode cX12_settings 57 = .ok (.ireturn, 1) := by decide +kernel
theorem dX12_settings_58 : decode cX12_settings 58 = .ok (.aload_n 0, 1) := by decide +kernel
theorem dX12_settings_59 : decode cX12_settings 59 = .ok (.aload_n 0, 1) := by decide +kernel
theorem dX12_settings_60 : decode cX12_settings 60 = .ok (.iload_n 1, 1) := by decide +kernel
theorem dX12_settings_61 : decode cX12_settings 61 = .ok (.iload 4, 2) := by decide +kernel
theorem dX12_settings_63 : decode cX12_settings 63 = .ok (.iload 5, 2) := by decide +kernel
theorem dX12_settings_65 : decode cX12_settings 65 = .ok (.iload 6, 2) := by decide +kernel
theorem dX12_settings_67 : decode cX12_settings 67 = .ok (.iload 7, 2) := by decide +kernel
theorem dX12_settings_69 : decode cX12_settings 69 = .ok (.i2l, 1) := by decide +kernel
theorem dX12_settings_70 : decode cX12_settings 70 = .ok (.lconst 0, 1) := by decide +kernel
theorem dX12_settings_71 : decode cX12_settings 71 = .ok (.iload_n 2, 1) := by decide +kernel
theorem dX12_settings_72 : decode cX12_settings 72 = .ok (.iload_n 3, 1) := by decide +kernel
theorem dX12_settings_73 : decode cX12_settings 73 = .ok (.if_icmp .ne 9, 3) := by decide +kernel
theorem dX12_settings_76 : decode cX12_settings 76 = .ok (.ldc2_w 354, 3) := by decide +kernel
theorem dX12_settings_79 : decode cX12_settings 79 = .ok (.goto 6, 3) := by decide +kernel
theorem dX12_settings_82 : decode cX12_settings 82 = .ok (.ldc2_w 392, 3) := by decide +kernel
theorem dX12_settings_85 : decode cX12_settings 85 = .ok (.invokestatic 239, 3) := by decide +kernel
theorem dX12_settings_88 : decode cX12_settings 88 = .ok (.invokevirtual 428, 3) := by decide +kernel
theorem dX12_settings_91 : decode cX12_settings 91 = .ok (.putfield 125, 3) := by decide +kernel
theorem dX12_settings_94 : decode cX12_settings 94 = .ok (.aload_n 0, 1) := by decide +kernel
theorem dX12_settings_95 : decode cX12_settings 95 = .ok (.getfield 125, 3) := by decide +kernel
theorem dX12_settings_98 : decode cX12_settings 98 = .ok (.ifCond .le 5, 3) := by decide +kernel
theorem dX12_settings_101 : decode cX12_settings 101 = .ok (.iconst 0, 1) := by decide +kernel
theorem dX12_settings_102 : decode cX12_settings 102 = .ok (.ireturn, 1) := by decide +kernel
theorem dX12_settings_103 : decode cX12_settings 103 = .ok (.aload_n 0, 1) := by decide +kernel
theorem dX12_settings_104 : decode cX12_settings 104 = .ok (.iload_n 1, 1) := by decide +kernel
theorem dX12_settings_105 : decode cX12_settings 105 = .ok (.iload_n 2, 1) := by decide +kernel
theorem dX12_settings_106 : decode cX12_settings 106 = .ok (.iload_n 3, 1) := by decide +kernel
theorem dX12_settings_107 : decode cX12_settings 107 = .ok (.iload 4, 2) := by decide +kernel
theorem dX12_settings_109 : decode cX12_settings 109 = .ok (.iload 5, 2) := by decide +kernel
theorem dX12_settings_111 : decode cX12_settings 111 = .ok (.iload 6, 2) := by decide +kernel
theorem dX12_settings_113 : decode cX12_settings 113 = .ok (.invokevirtual 432, 3) := by decide +kernel
theorem dX12_settings_116 : decode cX12_settings 116 = .ok (.aload_n 0, 1) := by decide +kernel
theorem dX12_settings_117 : decode cX12_settings 117 = .ok (.getfield 418, 3) := by decide +kernel
theorem dX12_settings_120 : decode cX12_settings 120 = .ok (.lconst 0, 1) := by decide +kernel
theorem dX12_settings_121 : decode cX12_settings 121 = .ok (.lcmp, 1) := by decide +kernel
theorem dX12_settings_122 : decode cX12_settings 122 = .ok (.ifCond .ne 10, 3) := by decide +kernel
theorem dX12_settings_125 : decode cX12_settings 125 = .ok (.aload_n 0, 1) := by decide +kernel
theorem dX12_settings_126 : decode cX12_settings 126 = .ok (.bipush 9, 2) := by decide +kernel
theorem dX12_settings_128 : decode cX12_settings 128 = .ok (.invokevirtual 137, 3) := by decide +kernel
theorem dX12_settings_131 : decode cX12_settings 131 = .ok (.ireturn, 1) := by decide +kernel
theorem dX12_settings_132 : decode cX12_settings 132 = .ok (.aload_n 0, 1) := by decide +kernel
theorem dX12_settings_133 : decode cX12_settings 133 = .ok (.iconst 0, 1) := by decide +kernel
theorem dX12_settings_134 : decode cX12_settings 134 = .ok (.iconst 0, 1) := by decide +kernel
theorem dX12_settings_135 : decode cX12_settings 135 = .ok (.iload 7, 2) := by decide +kernel
theorem dX12_settings_137 : decode cX12_settings 137 = .ok (.invokevirtual 415, 3) := by decide +kernel
theorem dX12_settings_140 : decode cX12_settings 140 = .ok (.lstore 8, 2) := by decide +kernel
theorem dX12_settings_142 : decode cX12_settings 142 = .ok (.aload_n 0, 1) := by decide +kernel
theorem dX12_settings_143 : decode cX12_settings 143 = .ok (.aload_n 0, 1) := by decide +kernel
theorem dX12_settings_144 : decode cX12_settings 144 = .ok (.getfield 418, 3) := by decide +kernel
theorem dX12_settings_147 : decode cX12_settings 147 = .ok (.lconst 0, 1) := by decide +kernel
theorem dX12_settings_148 : decode cX12_settings 148 = .ok (.lcmp, 1) := by decide +kernel
theorem dX12_settings_149 : decode cX12_settings 149 = .ok (.ifCond .ge 9, 3) := by decide +kernel
theorem dX12_settings_152 : decode cX12_settings 152 = .ok (.lload 8, 2) := by decide +kernel
theorem dX12_settings_154 : decode cX12_settings 154 = .ok (.lneg, 1) := by decide +kernel
theorem dX12_settings_155 : decode cX12_settings 155 = .ok (.goto 5, 3) := by decide +kernel
theorem dX12_settings_158 : decode cX12_settings 158 = .ok (.lload 8, 2) := by decide +kernel
theorem dX12_settings_160 : decode cX12_settings 160 = .ok (.aload_n 0, 1) := by decide +kernel
theorem dX12_settings_161 : decode cX12_settings 161 = .ok (.getfield 418, 3) := by decide +kernel
theorem dX12_settings_164 : decode cX12_settings 164 = .ok (.invokestatic 131, 3) := by decide +kernel
theorem dX12_settings_167 : decode cX12_settings 167 = .ok (.invokevirtual 344, 3) := by decide +kernel
theorem dX12_settings_170 : decode cX12_settings 170 = .ok (.iconst 1, 1) := by decide +kernel
theorem dX12_settings_171 : decode cX12_settings 171 = .ok (.ireturn, 1) := by decide +kernel
noncomputable def f_X12_settings_160 (k1 : Int64) (σ : am_H) : Option (Bool × am_H) :=
  (f_X12_fraction k1 (am_abL (σ.2.1 12 0 82)) σ).bind fun p1 =>
  some (true, p1)
set_option maxRecDepth 100000 in
set_option maxHeartbeats 4000000 in
theorem q_X12_settings_160 {X : am_X} (hX : am_ks X = am_ksM) {Q : Option Value → am_H → Prop} (k1 : Int64) (σ : am_H) {o : Bool × am_H} (hf : f_X12_settings_160 k1 σ = some o) (hk : Q (some (.int (am_b o.1))) o.2) : am_G X gm_X12_settings Q 160 [(0, .ref (am_ad X 12 0))] [.long k1, .ref (am_ad X 12 0)] σ := by
  unfold f_X12_settings_160 at hf
  refine g_aload_n (pc := 160) 0 rfl dX12_settings_160 rfl ?_
  refine g_getJ (pc := 161) (in_12 hX (by omega)) fr_X12_418 dX12_settings_161 ?_
  refine g_mabsL (pc := 164) (Nat.le_of_ble_eq_true rfl) (Nat.le_of_ble_eq_true rfl) sp_X12_131 dX12_settings_164 ?_
  obtain ⟨p1, hp1, hf⟩ := am_bd hf
  refine g_cV (pc := 167) (As := [.long k1, .long (am_abL (σ.2.1 12 0 82))]) (st := []) (st1 := []) (in_12 hX (by omega)) kk_12 mV_X12_fraction ln_X12_344 rfl (Nat.le_of_ble_eq_true rfl) (Nat.le_of_ble_eq_true rfl) (k_X12_fraction hX k1 (am_abL (σ.2.1 12 0 82)) σ hp1) dX12_settings_167 rfl rfl ?_
  refine g_iconst (pc := 170) (v := 1) dX12_settings_170 (by decide) ?_
  have ho := Option.some.inj hf
  subst ho
  exact g_zreturn (pc := 171) (st := []) (x := true) rfl dX12_settings_171 hk
noncomputable def f_X12_settings_85 (v1 : Int32) (v2 : Int32) (v3 : Int32) (v4 : Int32) (v5 : Int32) (v6 : Int32) (v7 : Int32) (k2 : Int32) (k3 : Int32) (k4 : Int32) (k5 : Int32) (k6 : Int64) (k7 : Int64) (k8 : Int64) (σ : am_H) : Option (Bool × am_H) :=
  (f_X12_isIn k6 k7 k8 σ).bind fun p1 =>
  (f_X12_asksGauge k2 k3 k4 k5 p1 σ).bind fun p2 =>
  (some (am_wI σ 12 0 0 p2)).bind fun s3 =>
  if 0 < (s3.1 12 0 0) then
   (some (false, s3))
  else
  (f_X12_square v1 v2 v3 v4 v5 v6 s3).bind fun p5 =>
  if (p5.2.1 12 0 82) = 0 then
   ((f_X12_no 9 p5).bind fun p7 =>
   some (p7.1, p7.2))
  else
  (f_X12_reckon 8 0 0 v7 p5).bind fun p8 =>
  if (p5.2.1 12 0 82) < 0 then
   (f_X12_settings_160 (-p8) p5)
  else
  f_X12_settings_160 p8 p5
set_option maxRecDepth 100000 in
set_option maxHeartbeats 4000000 in
theorem q_X12_settings_85 {X : am_X} (hX : am_ks X = am_ksM) {Q : Option Value → am_H → Prop} (v1 : Int32) (v2 : Int32) (v3 : Int32) (v4 : Int32) (v5 : Int32) (v6 : Int32) (v7 : Int32) (k2 : Int32) (k3 : Int32) (k4 : Int32) (k5 : Int32) (k6 : Int64) (k7 : Int64) (k8 : Int64) (σ : am_H) {o : Bool × am_H} (hf : f_X12_settings_85 v1 v2 v3 v4 v5 v6 v7 k2 k3 k4 k5 k6 k7 k8 σ = some o) (hk : Q (some (.int (am_b o.1))) o.2) : am_G X gm_X12_settings Q 85 [(0, .ref (am_ad X 12 0)), (1, .int v1), (2, .int v2), (3, .int v3), (4, .int v4), (5, .int v5), (6, .int v6), (7, .int v7)] [.long k8, .long k7, .long k6, .int k5, .int k4, .int k3, .int k2, .ref (am_ad X 12 0), .ref (am_ad X 12 0)] σ := by
  unfold f_X12_settings_85 at hf
  obtain ⟨p1, hp1, hf⟩ := am_bd hf
  refine g_cS (pc := 85) (As := [.long k6, .long k7, .long k8]) (st := [.int k5, .int k4, .int k3, .int k2, .ref (am_ad X 12 0), .ref (am_ad X 12 0)]) (st1 := [.int (am_b p1), .int k5, .int k4, .int k3, .int k2, .ref (am_ad X 12 0), .ref (am_ad X 12 0)]) mS_X12_isIn ln_X12_239 rfl (Nat.le_of_ble_eq_true rfl) (Nat.le_of_ble_eq_true rfl) (k_X12_isIn hX k6 k7 k8 σ hp1) dX12_settings_85 rfl rfl ?_
  obtain ⟨p2, hp2, hf⟩ := am_bd hf
  refine g_cV (pc := 88) (As := [.int k2, .int k3, .int k4, .int k5, .int (am_b p1)]) (st := [.ref (am_ad X 12 0)]) (st1 := [.int p2, .ref (am_ad X 12 0)]) (in_12 hX (by omega)) kk_12 mV_X12_asksGauge ln_X12_428 rfl (Nat.le_of_ble_eq_true rfl) (Nat.le_of_ble_eq_true rfl) (k_X12_asksGauge hX k2 k3 k4 k5 p1 σ hp2) dX12_settings_88 rfl rfl ?_
  obtain ⟨s3, hs3, hf⟩ := am_bd hf
  refine g_setI (pc := 91) (in_12 hX (by omega)) fr_X12_125 dX12_settings_91 (Option.some.inj hs3) ?_
  refine g_aload_n (pc := 94) 0 rfl dX12_settings_94 rfl ?_
  refine g_getI (pc := 95) (in_12 hX (by omega)) fr_X12_125 dX12_settings_95 ?_
  refine bz_le (pc := 98) 103 dX12_settings_98 rfl (fun c4 => ?_) (fun c4 => ?_)
  · replace hf := am_ifT c4 hf
    refine g_iconst (pc := 101) (v := 0) dX12_settings_101 (by decide) ?_
    have ho := Option.some.inj hf
    subst ho
    exact g_zreturn (pc := 102) (st := []) (x := false) rfl dX12_settings_102 hk
  replace hf := am_ifF c4 hf
  refine g_aload_n (pc := 103) 0 rfl dX12_settings_103 rfl ?_
  refine g_iload_n (pc := 104) 1 rfl dX12_settings_104 rfl ?_
  refine g_iload_n (pc := 105) 2 rfl dX12_settings_105 rfl ?_
  refine g_iload_n (pc := 106) 3 rfl dX12_settings_106 rfl ?_
  refine g_iload (pc := 107) 4 rfl dX12_settings_107 ?_
  refine g_iload (pc := 109) 5 rfl dX12_settings_109 ?_
  refine g_iload (pc := 111) 6 rfl dX12_settings_111 ?_
  obtain ⟨p5, hp5, hf⟩ := am_bd hf
  refine g_cV (pc := 113) (As := [.int v1, .int v2, .int v3, .int v4, .int v5, .int v6]) (st := []) (st1 := []) (in_12 hX (by omega)) kk_12 mV_X12_square ln_X12_432 rfl (Nat.le_of_ble_eq_true rfl) (Nat.le_of_ble_eq_true rfl) (k_X12_square hX v1 v2 v3 v4 v5 v6 s3 hp5) dX12_settings_113 rfl rfl ?_
  refine g_aload_n (pc := 116) 0 rfl dX12_settings_116 rfl ?_
  refine g_getJ (pc := 117) (in_12 hX (by omega)) fr_X12_418 dX12_settings_117 ?_
  refine g_lconst (pc := 120) (v := 0) dX12_settings_120 (by decide) ?_
  refine g_lcm (pc := 121) dX12_settings_121 ?_
  refine bl_ne (pc := 122) 132 dX12_settings_122 rfl (fun c6 => ?_) (fun c6 => ?_)
  · replace hf := am_ifT c6 hf
    refine g_aload_n (pc := 125) 0 rfl dX12_settings_125 rfl ?_
    refine g_bipush (pc := 126) (v := 9) dX12_settings_126 (by decide) ?_
    obtain ⟨p7, hp7, hf⟩ := am_bd hf
    refine g_cV (pc := 128) (As := [.int 9]) (st := []) (st1 := [.int (am_b p7.1)]) (in_12 hX (by omega)) kk_12 mV_X12_no ln_X12_137 rfl (Nat.le_of_ble_eq_true rfl) (Nat.le_of_ble_eq_true rfl) (k_X12_no hX 9 p5 hp7) dX12_settings_128 rfl rfl ?_
    have ho := Option.some.inj hf
    subst ho
    exact g_zreturn (pc := 131) (st := []) (x := p7.1) rfl dX12_settings_131 hk
  replace hf := am_ifF c6 hf
  refine g_aload_n (pc := 132) 0 rfl dX12_settings_132 rfl ?_
  refine g_iconst (pc := 133) (v := 0) dX12_settings_133 (by decide) ?_
  refine g_iconst (pc := 134) (v := 0) dX12_settings_134 (by decide) ?_
  refine g_iload (pc := 135) 7 rfl dX12_settings_135 ?_
  obtain ⟨p8, hp8, hf⟩ := am_bd hf
  refine g_cV (pc := 137) (As := [.int 0, .int 0, .int v7]) (st := []) (st1 := [.long p8]) (in_12 hX (by omega)) kk_12 (mV_X12_reckon _) ln_X12_415 rfl (Nat.le_of_ble_eq_true rfl) (Nat.le_of_ble_eq_true rfl) (k_X12_reckon hX 8 0 0 v7 p5 hp8) dX12_settings_137 rfl rfl ?_
  refine g_lstore (pc := 140) [(8, .long p8), (0, .ref (am_ad X 12 0)), (1, .int v1), (2, .int v2), (3, .int v3), (4, .int v4), (5, .int v5), (6, .int v6), (7, .int v7)] dX12_settings_140 (Nat.le_of_ble_eq_true rfl) rfl ?_
  refine g_aload_n (pc := 142) 1 rfl dX12_settings_142 rfl ?_
  refine g_aload_n (pc := 143) 1 rfl dX12_settings_143 rfl ?_
  refine g_getJ (pc := 144) (in_12 hX (by omega)) fr_X12_418 dX12_settings_144 ?_
  refine g_lconst (pc := 147) (v := 0) dX12_settings_147 (by decide) ?_
  refine g_lcm (pc := 148) dX12_settings_148 ?_
  refine bl_ge (pc := 149) 158 dX12_settings_149 rfl (fun c9 => ?_) (fun c9 => ?_)
  · replace hf := am_ifT c9 hf
    refine g_lload (pc := 152) 0 rfl dX12_settings_152 ?_
    refine g_lneg (pc := 154) dX12_settings_154 ?_
    refine g_goto (pc := 155) 160 dX12_settings_155 rfl ?_
    exact am_sub [1] rfl (q_X12_settings_160 hX (-p8) p5 hf hk)
  replace hf := am_ifF c9 hf
  refine g_lload (pc := 158) 0 rfl dX12_settings_158 ?_
  exact am_sub [1] rfl (q_X12_settings_160 hX p8 p5 hf hk)
noncomputable def f_X12_settings_52 (σ : am_H) : Option (Bool × am_H) :=
  (f_X12_no 2 σ).bind fun p1 =>
  some (p1.1, p1.2)
set_option maxRecDepth 100000 in
set_option maxHeartbeats 4000000 in
theorem q_X12_settings_52 {X : am_X} (hX : am_ks X = am_ksM) {Q : Option Value → am_H → Prop} (σ : am_H) {o : Bool × am_H} (hf : f_X12_settings_52 σ = some o) (hk : Q (some (.int (am_b o.1))) o.2) : am_G X gm_X12_settings Q 52 [(0, .ref (am_ad X 12 0))] [] σ := by
  unfold f_X12_settings_52 at hf
  refine g_aload_n (pc := 52) 0 rfl dX12_settings_52 rfl ?_
  refine g_iconst (pc := 53) (v := 2) dX12_settings_53 (by decide) ?_
  obtain ⟨p1, hp1, hf⟩ := am_bd hf
  refine g_cV (pc := 54) (As := [.int 2]) (st := []) (st1 := [.int (am_b p1.1)]) (in_12 hX (by omega)) kk_12 mV_X12_no ln_X12_137 rfl (Nat.le_of_ble_eq_true rfl) (Nat.le_of_ble_eq_true rfl) (k_X12_no hX 2 σ hp1) dX12_settings_54 rfl rfl ?_
  have ho := Option.some.inj hf
  subst ho
  exact g_zreturn (pc := 57) (st := []) (x := p1.1) rfl dX12_settings_57 hk
noncomputable def f_X12_settings_28 (σ : am_H) : Option (Bool × am_H) :=
  (f_X12_no 1 σ).bind fun p1 =>
  some (p1.1, p1.2)
set_option maxRecDepth 100000 in
set_option maxHeartbeats 4000000 in
theorem q_X12_settings_28 {X : am_X} (hX : am_ks X = am_ksM) {Q : Option Value → am_H → Prop} (σ : am_H) {o : Bool × am_H} (hf : f_X12_settings_28 σ = some o) (hk : Q (some (.int (am_b o.1))) o.2) : am_G X gm_X12_settings Q 28 [(0, .ref (am_ad X 12 0))] [] σ := by
  unfold f_X12_settings_28 at hf
  refine g_aload_n (pc := 28) 0 rfl dX12_settings_28 rfl ?_
  refine g_iconst (pc := 29) (v := 1) dX12_settings_29 (by decide) ?_
  obtain ⟨p1, hp1, hf⟩ := am_bd hf
  refine g_cV (pc := 30) (As := [.int 1]) (st := []) (st1 := [.int (am_b p1.1)]) (in_12 hX (by omega)) kk_12 mV_X12_no ln_X12_137 rfl (Nat.le_of_ble_eq_true rfl) (Nat.le_of_ble_eq_true rfl) (k_X12_no hX 1 σ hp1) dX12_settings_30 rfl rfl ?_
  have ho := Option.some.inj hf
  subst ho
  exact g_zreturn (pc := 33) (st := []) (x := p1.1) rfl dX12_settings_33 hk
noncomputable def f_X12_settings (v1 : Int32) (v2 : Int32) (v3 : Int32) (v4 : Int32) (v5 : Int32) (v6 : Int32) (v7 : Int32) (σ : am_H) : Option (Bool × am_H) :=
  (some (am_wI σ 12 0 1 0)).bind fun s1 =>
  (some (am_wI s1 12 0 0 0)).bind fun s2 =>
  (f_X12_isTray v4 s2).bind fun p3 =>
  if p3 = true then
   ((f_X12_isTray v5 s2).bind fun p5 =>
   if p5 = true then
    ((f_X12_isWaveOf v1 v2 s2).bind fun p7 =>
    if p7 = true then
     ((f_X12_isWaveOf v1 v3 s2).bind fun p9 =>
     if p9 = true then
      (if v2 = v3 then
       (f_X12_settings_85 v1 v2 v3 v4 v5 v6 v7 v1 v4 v5 v6 (Int32.toInt64 v7) 0 2 s2)
      else
      f_X12_settings_85 v1 v2 v3 v4 v5 v6 v7 v1 v4 v5 v6 (Int32.toInt64 v7) 0 4 s2)
     else
     f_X12_settings_52 s2)
    else
    f_X12_settings_52 s2)
   else
   f_X12_settings_28 s2)
  else
  f_X12_settings_28 s2
set_option maxRecDepth 100000 in
set_option maxHeartbeats 4000000 in
theorem q_X12_settings {X : am_X} (hX : am_ks X = am_ksM) {Q : Option Value → am_H → Prop} (v1 : Int32) (v2 : Int32) (v3 : Int32) (v4 : Int32) (v5 : Int32) (v6 : Int32) (v7 : Int32) (σ : am_H) {o : Bool × am_H} (hf : f_X12_settings v1 v2 v3 v4 v5 v6 v7 σ = some o) (hk : Q (some (.int (am_b o.1))) o.2) : am_G X gm_X12_settings Q 0 [(0, .ref (am_ad X 12 0)), (1, .int v1), (2, .int v2), (3, .int v3), (4, .int v4), (5, .int v5), (6, .int v6), (7, .int v7)] [] σ := by
  unfold f_X12_settings at hf
  refine g_aload_n (pc := 0) 0 rfl dX12_settings_0 rfl ?_
  refine g_iconst (pc := 1) (v := 0) dX12_settings_1 (by decide) ?_
  obtain ⟨s1, hs1, hf⟩ := am_bd hf
  refine g_setI (pc := 2) (in_12 hX (by omega)) fr_X12_122 dX12_settings_2 (Option.some.inj hs1) ?_
  refine g_aload_n (pc := 5) 0 rfl dX12_settings_5 rfl ?_
  refine g_iconst (pc := 6) (v := 0) dX12_settings_6 (by decide) ?_
  obtain ⟨s2, hs2, hf⟩ := am_bd hf
  refine g_setI (pc := 7) (in_12 hX (by omega)) fr_X12_125 dX12_settings_7 (Option.some.inj hs2) ?_
  refine g_aload_n (pc := 10) 0 rfl dX12_settings_10 rfl ?_
  refine g_iload (pc := 11) 4 rfl dX12_settings_11 ?_
  obtain ⟨p3, hp3, hf⟩ := am_bd hf
  refine g_cV (pc := 13) (As := [.int v4]) (st := []) (st1 := [.int (am_b p3)]) (in_12 hX (by omega)) kk_12 mV_X12_isTray ln_X12_421 rfl (Nat.le_of_ble_eq_true rfl) (Nat.le_of_ble_eq_true rfl) (k_X12_isTray hX v4 s2 hp3) dX12_settings_13 rfl rfl ?_
  refine bt_eq (pc := 16) 28 dX12_settings_16 rfl (fun c4 => ?_) (fun c4 => ?_)
  · replace hf := am_ifT c4 hf
    refine g_aload_n (pc := 19) 0 rfl dX12_settings_19 rfl ?_
    refine g_iload (pc := 20) 5 rfl dX12_settings_20 ?_
    obtain ⟨p5, hp5, hf⟩ := am_bd hf
    refine g_cV (pc := 22) (As := [.int v5]) (st := []) (st1 := [.int (am_b p5)]) (in_12 hX (by omega)) kk_12 mV_X12_isTray ln_X12_421 rfl (Nat.le_of_ble_eq_true rfl) (Nat.le_of_ble_eq_true rfl) (k_X12_isTray hX v5 s2 hp5) dX12_settings_22 rfl rfl ?_
    refine bt_ne (pc := 25) 34 dX12_settings_25 rfl (fun c6 => ?_) (fun c6 => ?_)
    · replace hf := am_ifT c6 hf
      refine g_aload_n (pc := 34) 0 rfl dX12_settings_34 rfl ?_
      refine g_iload_n (pc := 35) 1 rfl dX12_settings_35 rfl ?_
      refine g_iload_n (pc := 36) 2 rfl dX12_settings_36 rfl ?_
      obtain ⟨p7, hp7, hf⟩ := am_bd hf
      refine g_cV (pc := 37) (As := [.int v1, .int v2]) (st := []) (st1 := [.int (am_b p7)]) (in_12 hX (by omega)) kk_12 mV_X12_isWaveOf ln_X12_300 rfl (Nat.le_of_ble_eq_true rfl) (Nat.le_of_ble_eq_true rfl) (k_X12_isWaveOf hX v1 v2 s2 hp7) dX12_settings_37 rfl rfl ?_
      refine bt_eq (pc := 40) 52 dX12_settings_40 rfl (fun c8 => ?_) (fun c8 => ?_)
      · replace hf := am_ifT c8 hf
        refine g_aload_n (pc := 43) 0 rfl dX12_settings_43 rfl ?_
        refine g_iload_n (pc := 44) 1 rfl dX12_settings_44 rfl ?_
        refine g_iload_n (pc := 45) 3 rfl dX12_settings_45 rfl ?_
        obtain ⟨p9, hp9, hf⟩ := am_bd hf
        refine g_cV (pc := 46) (As := [.int v1, .int v3]) (st := []) (st1 := [.int (am_b p9)]) (in_12 hX (by omega)) kk_12 mV_X12_isWaveOf ln_X12_300 rfl (Nat.le_of_ble_eq_true rfl) (Nat.le_of_ble_eq_true rfl) (k_X12_isWaveOf hX v1 v3 s2 hp9) dX12_settings_46 rfl rfl ?_
        refine bt_ne (pc := 49) 58 dX12_settings_49 rfl (fun c10 => ?_) (fun c10 => ?_)
        · replace hf := am_ifT c10 hf
          refine g_aload_n (pc := 58) 0 rfl dX12_settings_58 rfl ?_
          refine g_aload_n (pc := 59) 0 rfl dX12_settings_59 rfl ?_
          refine g_iload_n (pc := 60) 1 rfl dX12_settings_60 rfl ?_
          refine g_iload (pc := 61) 4 rfl dX12_settings_61 ?_
          refine g_iload (pc := 63) 5 rfl dX12_settings_63 ?_
          refine g_iload (pc := 65) 6 rfl dX12_settings_65 ?_
          refine g_iload (pc := 67) 7 rfl dX12_settings_67 ?_
          refine g_i2l (pc := 69) dX12_settings_69 ?_
          refine g_lconst (pc := 70) (v := 0) dX12_settings_70 (by decide) ?_
          refine g_iload_n (pc := 71) 2 rfl dX12_settings_71 rfl ?_
          refine g_iload_n (pc := 72) 3 rfl dX12_settings_72 rfl ?_
          refine bi_ne (pc := 73) 82 dX12_settings_73 rfl (fun c11 => ?_) (fun c11 => ?_)
          · replace hf := am_ifT c11 hf
            refine g_ldc2 (pc := 76) (v := 2) (tb_9 (List.mem_of_getElem? (i := 85) (by decide +kernel))) dX12_settings_76 ?_
            refine g_goto (pc := 79) 85 dX12_settings_79 rfl ?_
            exact q_X12_settings_85 hX v1 v2 v3 v4 v5 v6 v7 v1 v4 v5 v6 (Int32.toInt64 v7) 0 2 s2 hf hk
          replace hf := am_ifF c11 hf
          refine g_ldc2 (pc := 82) (v := 4) (tb_9 (List.mem_of_getElem? (i := 140) (by decide +kernel))) dX12_settings_82 ?_
          exact q_X12_settings_85 hX v1 v2 v3 v4 v5 v6 v7 v1 v4 v5 v6 (Int32.toInt64 v7) 0 4 s2 hf hk
        replace hf := am_ifF c10 hf
        exact am_sub [0] rfl (q_X12_settings_52 hX s2 hf hk)
      replace hf := am_ifF c8 hf
      exact am_sub [0] rfl (q_X12_settings_52 hX s2 hf hk)
    replace hf := am_ifF c6 hf
    exact am_sub [0] rfl (q_X12_settings_28 hX s2 hf hk)
  replace hf := am_ifF c4 hf
  exact am_sub [0] rfl (q_X12_settings_28 hX s2 hf hk)
theorem k_X12_settings {X : am_X} (hX : am_ks X = am_ksM) (v1 : Int32) (v2 : Int32) (v3 : Int32) (v4 : Int32) (v5 : Int32) (v6 : Int32) (v7 : Int32) (σ : am_H) {o : Bool × am_H} (hf : f_X12_settings v1 v2 v3 v4 v5 v6 v7 σ = some o) : am_C X gm_X12_settings [.ref (am_ad X 12 0), .int v1, .int v2, .int v3, .int v4, .int v5, .int v6, .int v7] σ (am_is (some (.int (am_b o.1))) o.2) :=
  am_ofG rfl (Nat.le_of_ble_eq_true rfl) rfl (q_X12_settings hX v1 v2 v3 v4 v5 v6 v7 σ hf ⟨rfl, rfl⟩)
