theorem dX12_isSlack_0 : decode cX12_isSlack 0 = .ok (.aload_n 0, 1) := by decide +kernel
theorem dX12_isSlack_1 : decode cX12_isSlack 1 = .ok (.bipush 115, 2) := by decide +kernel
theorem dX12_isSlack_3 : decode cX12_isSlack 3 = .ok (.bipush 108, 2) := by decide +kernel
theorem dX12_isSlack_5 : decode cX12_isSlack 5 = .ok (.bipush 97, 2) := by decide +kernel
theorem dX12_isSlack_7 : decode cX12_isSlack 7 = .ok (.bipush 99, 2) := by decide +kernel
theorem dX12_isSlack_9 : decode cX12_isSlack 9 = .ok (.bipush 107, 2) := by decide +kernel
theorem dX12_isSlack_11 : decode cX12_isSlack 11 = .ok (.invokestatic 189, 3) := by decide +kernel
theorem dX12_isSlack_14 : decode cX12_isSlack 14 = .ok (.invokevirtual 193, 3) := by decide +kernel
theorem dX12_isSlack_17 : decode cX12_isSlack 17 = .ok (.ireturn, 1) := by decide +kernel
noncomputable def f_X12_isSlack (σ : am_H) : Option (Bool) :=
  (f_X12_spelled 115 108 97 99 107 σ).bind fun p1 =>
  (f_X12_isWord p1 σ).bind fun p2 =>
  some p2
set_option maxRecDepth 100000 in
set_option maxHeartbeats 4000000 in
theorem q_X12_isSlack {X : am_X} (hX : am_ks X = am_ksM) {Q : Option Value → am_H → Prop} (σ : am_H) {o : Bool} (hf : f_X12_isSlack σ = some o) (hk : Q (some (.int (am_b o))) σ) : am_G X gm_X12_isSlack Q 0 [(0, .ref (am_ad X 12 0))] [] σ := by
  unfold f_X12_isSlack at hf
  refine g_aload_n (pc := 0) 0 rfl dX12_isSlack_0 rfl ?_
  refine g_bipush (pc := 1) (v := 115) dX12_isSlack_1 (by decide) ?_
  refine g_bipush (pc := 3) (v := 108) dX12_isSlack_3 (by decide) ?_
  refine g_bipush (pc := 5) (v := 97) dX12_isSlack_5 (by decide) ?_
  refine g_bipush (pc := 7) (v := 99) dX12_isSlack_7 (by decide) ?_
  refine g_bipush (pc := 9) (v := 107) dX12_isSlack_9 (by decide) ?_
  obtain ⟨p1, hp1, hf⟩ := am_bd hf
  refine g_cS (pc := 11) (As := [.int 115, .int 108, .int 97, .int 99, .int 107]) (st := [.ref (am_ad X 12 0)]) (st1 := [.long p1, .ref (am_ad X 12 0)]) mS_X12_spelled ln_X12_189 rfl (Nat.le_of_ble_eq_true rfl) (Nat.le_of_ble_eq_true rfl) (k_X12_spelled hX 115 108 97 99 107 σ hp1) dX12_isSlack_11 rfl rfl ?_
  obtain ⟨p2, hp2, hf⟩ := am_bd hf
  refine g_cV (pc := 14) (As := [.long p1]) (st := []) (st1 := [.int (am_b p2)]) (in_12 hX (by omega)) kk_12 mV_X12_isWord ln_X12_193 rfl (Nat.le_of_ble_eq_true rfl) (Nat.le_of_ble_eq_true rfl) (k_X12_isWord hX p1 σ hp2) dX12_isSlack_14 rfl rfl ?_
  have ho := Option.some.inj hf
  subst ho
  exact g_zreturn (pc := 17) (st := []) (x := p2) rfl dX12_isSlack_17 hk
theorem k_X12_isSlack {X : am_X} (hX : am_ks X = am_ksM) (σ : am_H) {o : Bool} (hf : f_X12_isSlack σ = some o) : am_C X gm_X12_isSlack [.ref (am_ad X 12 0)] σ (am_is (some (.int (am_b o))) σ) :=
  am_ofG rfl (Nat.le_of_ble_eq_true rfl) rfl (q_X12_isSlack hX σ hf ⟨rfl, rfl⟩)
theorem dX12_isZero_0 : decode cX12_isZero 0 = .ok (.aload_n 0, 1) := by decide +kernel
theorem dX12_isZero_1 : decode cX12_isZero 1 = .ok (.bipush 122, 2) := by decide +kernel
theorem dX12_isZero_3 : decode cX12_isZero 3 = .ok (.bipush 101, 2) := by decide +kernel
theorem dX12_isZero_5 : decode cX12_isZero 5 = .ok (.bipush 114, 2) := by decide +kernel
theorem dX12_isZero_7 : decode cX12_isZero 7 = .ok (.bipush 111, 2) := by decide +kernel
theorem dX12_isZero_9 : decode cX12_isZero 9 = .ok (.iconst 0, 1) := by decide +kernel
theorem dX12_isZero_10 : decode cX12_isZero 10 = .ok (.invokestatic 189, 3) := by decide +kernel
theorem dX12_isZero_13 : decode cX12_isZero 13 = .ok (.invokevirtual 193, 3) := by decide +kernel
theorem dX12_isZero_16 : decode cX12_isZero 16 = .ok (.ireturn, 1) := by decide +kernel
noncomputable def f_X12_isZero (σ : am_H) : Option (Bool) :=
  (f_X12_spelled 122 101 114 111 0 σ).bind fun p1 =>
  (f_X12_isWord p1 σ).bind fun p2 =>
  some p2
set_option maxRecDepth 100000 in
set_option maxHeartbeats 4000000 in
theorem q_X12_isZero {X : am_X} (hX : am_ks X = am_ksM) {Q : Option Value → am_H → Prop} (σ : am_H) {o : Bool} (hf : f_X12_isZero σ = some o) (hk : Q (some (.int (am_b o))) σ) : am_G X gm_X12_isZero Q 0 [(0, .ref (am_ad X 12 0))] [] σ := by
  unfold f_X12_isZero at hf
  refine g_aload_n (pc := 0) 0 rfl dX12_isZero_0 rfl ?_
  refine g_bipush (pc := 1) (v := 122) dX12_isZero_1 (by decide) ?_
  refine g_bipush (pc := 3) (v := 101) dX12_isZero_3 (by decide) ?_
  refine g_bipush (pc := 5) (v := 114) dX12_isZero_5 (by decide) ?_
  refine g_bipush (pc := 7) (v := 111) dX12_isZero_7 (by decide) ?_
  refine g_iconst (pc := 9) (v := 0) dX12_isZero_9 (by decide) ?_
  obtain ⟨p1, hp1, hf⟩ := am_bd hf
  refine g_cS (pc := 10) (As := [.int 122, .int 101, .int 114, .int 111, .int 0]) (st := [.ref (am_ad X 12 0)]) (st1 := [.long p1, .ref (am_ad X 12 0)]) mS_X12_spelled ln_X12_189 rfl (Nat.le_of_ble_eq_true rfl) (Nat.le_of_ble_eq_true rfl) (k_X12_spelled hX 122 101 114 111 0 σ hp1) dX12_isZero_10 rfl rfl ?_
  obtain ⟨p2, hp2, hf⟩ := am_bd hf
  refine g_cV (pc := 13) (As := [.long p1]) (st := []) (st1 := [.int (am_b p2)]) (in_12 hX (by omega)) kk_12 mV_X12_isWord ln_X12_193 rfl (Nat.le_of_ble_eq_true rfl) (Nat.le_of_ble_eq_true rfl) (k_X12_isWord hX p1 σ hp2) dX12_isZero_13 rfl rfl ?_
  have ho := Option.some.inj hf
  subst ho
  exact g_zreturn (pc := 16) (st := []) (x := p2) rfl dX12_isZero_16 hk
theorem k_X12_isZero {X : am_X} (hX : am_ks X = am_ksM) (σ : am_H) {o : Bool} (hf : f_X12_isZero σ = some o) : am_C X gm_X12_isZero [.ref (am_ad X 12 0)] σ (am_is (some (.int (am_b o))) σ) :=
  am_ofG rfl (Nat.le_of_ble_eq_true rfl) rfl (q_X12_isZero hX σ hf ⟨rfl, rfl⟩)
theorem dX12_setting_0 : decode cX12_setting 0 = .ok (.aload_n 0, 1) := by decide +kernel
theorem dX12_setting_1 : decode cX12_setting 1 = .ok (.bipush 115, 2) := by decide +kernel
theorem dX12_setting_3 : decode cX12_setting 3 = .ok (.bipush 105, 2) := by decide +kernel
theorem dX12_setting_5 : decode cX12_setting 5 = .ok (.bipush 122, 2) := by decide +kernel
theorem dX12_setting_7 : decode cX12_setting 7 = .ok (.bipush 101, 2) := by decide +kernel
theorem dX12_setting_9 : decode cX12_setting 9 = .ok (.iconst 0, 1) := by decide +kernel
theorem dX12_setting_10 : decode cX12_setting 10 = .ok (.invokestatic 189, 3) := by decide +kernel
theorem dX12_setting_13 : decode cX12_setting 13 = .ok (.invokevirtual 193, 3) := by decide +kernel
theorem dX12_setting_16 : decode cX12_setting 16 = .ok (.ifCond .eq 5, 3) := by decide +kernel
theorem dX12_setting_19 : decode cX12_setting 19 = .ok (.iconst 0, 1) := by decide +kernel
theorem dX12_setting_20 : decode cX12_setting 20 = .ok (.ireturn, 1) := by decide +kernel
theorem dX12_setting_21 : decode cX12_setting 21 = .ok (.aload_n 0, 1) := by decide +kernel
theorem dX12_setting_22 : decode cX12_setting 22 = .ok (.bipush 97, 2) := by decide +kernel
theorem dX12_setting_24 : decode cX12_setting 24 = .ok (.bipush 116, 2) := by decide +kernel
theorem dX12_setting_26 : decode cX12_setting 26 = .ok (.iconst 0, 1) := by decide +kernel
theorem dX12_setting_27 : decode cX12_setting 27 = .ok (.iconst 0, 1) := by decide +kernel
theorem dX12_setting_28 : decode cX12_setting 28 = .ok (.iconst 0, 1) := by decide +kernel
theorem dX12_setting_29 : decode cX12_setting 29 = .ok (.invokestatic 189, 3) := by decide +kernel
theorem dX12_setting_32 : decode cX12_setting 32 = .ok (.invokevirtual 193, 3) := by decide +kernel
theorem dX12_setting_35 : decode cX12_setting 35 = .ok (.ifCond .eq 5, 3) := by decide +kernel
theorem dX12_setting_38 : decode cX12_setting 38 = .ok (.iconst 1, 1) := by decide +kernel
theorem dX12_setting_39 : decode cX12_setting 39 = .ok (.ireturn, 1) := by decide +kernel
theorem dX12_setting_40 : decode cX12_setting 40 = .ok (.aload_n 0, 1) := by decide +kernel
theorem dX12_setting_41 : decode cX12_setting 41 = .ok (.bipush 116, 2) := by decide +kernel
theorem dX12_setting_43 : decode cX12_setting 43 = .ok (.bipush 114, 2) := by decide +kernel
theorem dX12_setting_45 : decode cX12_setting 45 = .ok (.bipush 97, 2) := by decide +kernel
theorem dX12_setting_47 : decode cX12_setting 47 = .ok (.bipush 105, 2) := by decide +kernel
theorem dX12_setting_49 : decode cX12_setting 49 = .ok (.bipush 110, 2) := by decide +kernel
theorem dX12_setting_51 : decode cX12_setting 51 = .ok (.invokestatic 189, 3) := by decide +kernel
theorem dX12_setting_54 : decode cX12_setting 54 = .ok (.invokevirtual 193, 3) := by decide +kernel
theorem dX12_setting_57 : decode cX12_setting 57 = .ok (.ifCond .eq 7, 3) := by decide +kernel
theorem dX12_setting_60 : decode cX12_setting 60 = .ok (.iconst 2, 1) := by decide +kernel
theorem dX12_setting_61 : decode cX12_setting 61 = .ok (.goto 4, 3) := by decide +kernel
theorem dX12_setting_64 : decode cX12_setting 64 = .ok (.iconst (-1), 1) := by decide +kernel
theorem dX12_setting_65 : decode cX12_setting 65 = .ok (.ireturn, 1) := by decide +kernel
noncomputable def f_X12_setting (σ : am_H) : Option (Int32) :=
  (f_X12_spelled 115 105 122 101 0 σ).bind fun p1 =>
  (f_X12_isWord p1 σ).bind fun p2 =>
  if p2 = true then
   (some 0)
  else
  (f_X12_spelled 97 116 0 0 0 σ).bind fun p4 =>
  (f_X12_isWord p4 σ).bind fun p5 =>
  if p5 = true then
   (some 1)
  else
  (f_X12_spelled 116 114 97 105 110 σ).bind fun p7 =>
  (f_X12_isWord p7 σ).bind fun p8 =>
  if p8 = true then
   (some 2)
  else
  some (-1)
set_option maxRecDepth 100000 in
set_option maxHeartbeats 4000000 in
theorem q_X12_setting {X : am_X} (hX : am_ks X = am_ksM) {Q : Option Value → am_H → Prop} (σ : am_H) {o : Int32} (hf : f_X12_setting σ = some o) (hk : Q (some (.int o)) σ) : am_G X gm_X12_setting Q 0 [(0, .ref (am_ad X 12 0))] [] σ := by
  unfold f_X12_setting at hf
  refine g_aload_n (pc := 0) 0 rfl dX12_setting_0 rfl ?_
  refine g_bipush (pc := 1) (v := 115) dX12_setting_1 (by decide) ?_
  refine g_bipush (pc := 3) (v := 105) dX12_setting_3 (by decide) ?_
  refine g_bipush (pc := 5) (v := 122) dX12_setting_5 (by decide) ?_
  refine g_bipush (pc := 7) (v := 101) dX12_setting_7 (by decide) ?_
  refine g_iconst (pc := 9) (v := 0) dX12_setting_9 (by decide) ?_
  obtain ⟨p1, hp1, hf⟩ := am_bd hf
  refine g_cS (pc := 10) (As := [.int 115, .int 105, .int 122, .int 101, .int 0]) (st := [.ref (am_ad X 12 0)]) (st1 := [.long p1, .ref (am_ad X 12 0)]) mS_X12_spelled ln_X12_189 rfl (Nat.le_of_ble_eq_true rfl) (Nat.le_of_ble_eq_true rfl) (k_X12_spelled hX 115 105 122 101 0 σ hp1) dX12_setting_10 rfl rfl ?_
  obtain ⟨p2, hp2, hf⟩ := am_bd hf
  refine g_cV (pc := 13) (As := [.long p1]) (st := []) (st1 := [.int (am_b p2)]) (in_12 hX (by omega)) kk_12 mV_X12_isWord ln_X12_193 rfl (Nat.le_of_ble_eq_true rfl) (Nat.le_of_ble_eq_true rfl) (k_X12_isWord hX p1 σ hp2) dX12_setting_13 rfl rfl ?_
  refine bt_eq (pc := 16) 21 dX12_setting_16 rfl (fun c3 => ?_) (fun c3 => ?_)
  · replace hf := am_ifT c3 hf
    refine g_iconst (pc := 19) (v := 0) dX12_setting_19 (by decide) ?_
    have ho := Option.some.inj hf
    subst ho
    exact g_ireturn (pc := 20) (st := []) rfl dX12_setting_20 hk
  replace hf := am_ifF c3 hf
  refine g_aload_n (pc := 21) 0 rfl dX12_setting_21 rfl ?_
  refine g_bipush (pc := 22) (v := 97) dX12_setting_22 (by decide) ?_
  refine g_bipush (pc := 24) (v := 116) dX12_setting_24 (by decide) ?_
  refine g_iconst (pc := 26) (v := 0) dX12_setting_26 (by decide) ?_
  refine g_iconst (pc := 27) (v := 0) dX12_setting_27 (by decide) ?_
  refine g_iconst (pc := 28) (v := 0) dX12_setting_28 (by decide) ?_
  obtain ⟨p4, hp4, hf⟩ := am_bd hf
  refine g_cS (pc := 29) (As := [.int 97, .int 116, .int 0, .int 0, .int 0]) (st := [.ref (am_ad X 12 0)]) (st1 := [.long p4, .ref (am_ad X 12 0)]) mS_X12_spelled ln_X12_189 rfl (Nat.le_of_ble_eq_true rfl) (Nat.le_of_ble_eq_true rfl) (k_X12_spelled hX 97 116 0 0 0 σ hp4) dX12_setting_29 rfl rfl ?_
  obtain ⟨p5, hp5, hf⟩ := am_bd hf
  refine g_cV (pc := 32) (As := [.long p4]) (st := []) (st1 := [.int (am_b p5)]) (in_12 hX (by omega)) kk_12 mV_X12_isWord ln_X12_193 rfl (Nat.le_of_ble_eq_true rfl) (Nat.le_of_ble_eq_true rfl) (k_X12_isWord hX p4 σ hp5) dX12_setting_32 rfl rfl ?_
  refine bt_eq (pc := 35) 40 dX12_setting_35 rfl (fun c6 => ?_) (fun c6 => ?_)
  · replace hf := am_ifT c6 hf
    refine g_iconst (pc := 38) (v := 1) dX12_setting_38 (by decide) ?_
    have ho := Option.some.inj hf
    subst ho
    exact g_ireturn (pc := 39) (st := []) rfl dX12_setting_39 hk
  replace hf := am_ifF c6 hf
  refine g_aload_n (pc := 40) 0 rfl dX12_setting_40 rfl ?_
  refine g_bipush (pc := 41) (v := 116) dX12_setting_41 (by decide) ?_
  refine g_bipush (pc := 43) (v := 114) dX12_setting_43 (by decide) ?_
  refine g_bipush (pc := 45) (v := 97) dX12_setting_45 (by decide) ?_
  refine g_bipush (pc := 47) (v := 105) dX12_setting_47 (by decide) ?_
  refine g_bipush (pc := 49) (v := 110) dX12_setting_49 (by decide) ?_
  obtain ⟨p7, hp7, hf⟩ := am_bd hf
  refine g_cS (pc := 51) (As := [.int 116, .int 114, .int 97, .int 105, .int 110]) (st := [.ref (am_ad X 12 0)]) (st1 := [.long p7, .ref (am_ad X 12 0)]) mS_X12_spelled ln_X12_189 rfl (Nat.le_of_ble_eq_true rfl) (Nat.le_of_ble_eq_true rfl) (k_X12_spelled hX 116 114 97 105 110 σ hp7) dX12_setting_51 rfl rfl ?_
  obtain ⟨p8, hp8, hf⟩ := am_bd hf
  refine g_cV (pc := 54) (As := [.long p7]) (st := []) (st1 := [.int (am_b p8)]) (in_12 hX (by omega)) kk_12 mV_X12_isWord ln_X12_193 rfl (Nat.le_of_ble_eq_true rfl) (Nat.le_of_ble_eq_true rfl) (k_X12_isWord hX p7 σ hp8) dX12_setting_54 rfl rfl ?_
  refine bt_eq (pc := 57) 64 dX12_setting_57 rfl (fun c9 => ?_) (fun c9 => ?_)
  · replace hf := am_ifT c9 hf
    refine g_iconst (pc := 60) (v := 2) dX12_setting_60 (by decide) ?_
    refine g_goto (pc := 61) 65 dX12_setting_61 rfl ?_
    have ho := Option.some.inj hf
    subst ho
    exact g_ireturn (pc := 65) (st := []) rfl dX12_setting_65 hk
  replace hf := am_ifF c9 hf
  refine g_iconst (pc := 64) (v := (-1)) dX12_setting_64 (by decide) ?_
  have ho := Option.some.inj hf
  subst ho
  exact g_ireturn (pc := 65) (st := []) rfl dX12_setting_65 hk
theorem k_X12_setting {X : am_X} (hX : am_ks X = am_ksM) (σ : am_H) {o : Int32} (hf : f_X12_setting σ = some o) : am_C X gm_X12_setting [.ref (am_ad X 12 0)] σ (am_is (some (.int o)) σ) :=
  am_ofG rfl (Nat.le_of_ble_eq_true rfl) rfl (q_X12_setting hX σ hf ⟨rfl, rfl⟩)
theorem dX12_isName_0 : decode cX12_isName 0 = .ok (.aload_n 0, 1) := by decide +kernel
theorem dX12_isName_1 : decode cX12_isName 1 = .ok (.getfield 167, 3) := by decide +kernel
theorem dX12_isName_4 : decode cX12_isName 4 = .ok (.iconst 1, 1) := by decide +kernel
theorem dX12_isName_5 : decode cX12_isName 5 = .ok (.if_icmp .ne 72, 3) := by decide +kernel
theorem dX12_isName_8 : decode cX12_isName 8 = .ok (.aload_n 0, 1) := by decide +kernel
theorem dX12_isName_9 : decode cX12_isName 9 = .ok (.getfield 180, 3) := by decide +kernel
theorem dX12_isName_12 : decode cX12_isName 12 = .ok (.bipush 8, 2) := by decide +kernel
theorem dX12_isName_14 : decode cX12_isName 14 = .ok (.if_icmp .gt 63, 3) := by decide +kernel
theorem dX12_isName_17 : decode cX12_isName 17 = .ok (.aload_n 0, 1) := by decide +kernel
theorem dX12_isName_18 : decode cX12_isName 18 = .ok (.invokevirtual 197, 3) := by decide +kernel
theorem dX12_isName_21 : decode cX12_isName 21 = .ok (.ifCond .ge 56, 3) := by decide +kernel
theorem dX12_isName_24 : decode cX12_isName 24 = .ok (.aload_n 0, 1) := by decide +kernel
theorem dX12_isName_25 : decode cX12_isName 25 = .ok (.invokevirtual 201, 3) := by decide +kernel
theorem dX12_isName_28 : decode cX12_isName 28 = .ok (.ifCond .ne 49, 3) := by decide +kernel
theorem dX12_isName_31 : decode cX12_isName 31 = .ok (.aload_n 0, 1) := by decide +kernel
theorem dX12_isName_32 : decode cX12_isName 32 = .ok (.invokevirtual 205, 3) := by decide +kernel
theorem dX12_isName_35 : decode cX12_isName 35 = .ok (.ifCond .ne 42, 3) := by decide +kernel
theorem dX12_isName_38 : decode cX12_isName 38 = .ok (.aload_n 0, 1) := by decide +kernel
theorem dX12_isName_39 : decode cX12_isName 39 = .ok (.invokevirtual 208, 3) := by decide +kernel
theorem dX12_isName_42 : decode cX12_isName 42 = .ok (.ifCond .ne 35, 3) := by decide +kernel
theorem dX12_isName_45 : decode cX12_isName 45 = .ok (.aload_n 0, 1) := by decide +kernel
theorem dX12_isName_46 : decode cX12_isName 46 = .ok (.invokevirtual 211, 3) := by decide +kernel
theorem dX12_isName_49 : decode cX12_isName 49 = .ok (.ifCond .ne 28, 3) := by decide +kernel
theorem dX12_isName_52 : decode cX12_isName 52 = .ok (.aload_n 0, 1) := by decide +kernel
theorem dX12_isName_53 : decode cX12_isName 53 = .ok (.invokevirtual 214, 3) := by decide +kernel
theorem dX12_isName_56 : decode cX12_isName 56 = .ok (.ifCond .ne 21, 3) := by decide +kernel
theorem dX12_isName_59 : decode cX12_isName 59 = .ok (.aload_n 0, 1) := by decide +kernel
theorem dX12_isName_60 : decode cX12_isName 60 = .ok (.invokevirtual 217, 3) := by decide +kernel
theorem dX12_isName_63 : decode cX12_isName 63 = .ok (.ifCond .ne 14, 3) := by decide +kernel
theorem dX12_isName_66 : decode cX12_isName 66 = .ok (.aload_n 0, 1) := by decide +kernel
theorem dX12_isName_67 : decode cX12_isName 67 = .ok (.invokevirtual 220, 3) := by decide +kernel
theorem dX12_isName_70 : decode cX12_isName 70 = .ok (.ifCond .ne 7, 3) := by decide +kernel
theorem dX12_isName_73 : decode cX12_isName 73 = .ok (.iconst 1, 1) := by decide +kernel
theorem dX12_isName_74 : decode cX12_isName 74 = .ok (.goto 4, 3) := by decide +kernel
theorem dX12_isName_77 : decode cX12_isName 77 = .ok (.iconst 0, 1) := by decide +kernel
theorem dX12_isName_78 : decode cX12_isName 78 = .ok (.ireturn, 1) := by decide +kernel
noncomputable def f_X12_isName (σ : am_H) : Option (Bool) :=
  if (σ.1 12 0 14) = 1 then
   (if 8 < (σ.1 12 0 18) then
    (some false)
   else
   (f_X12_setting σ).bind fun p3 =>
   if p3 < 0 then
    ((f_X12_isWave σ).bind fun p5 =>
    if p5 = true then
     (some false)
    else
    (f_X12_isTurns σ).bind fun p7 =>
    if p7 = true then
     (some false)
    else
    (f_X12_isInWord σ).bind fun p9 =>
    if p9 = true then
     (some false)
    else
    (f_X12_isBox σ).bind fun p11 =>
    if p11 = true then
     (some false)
    else
    (f_X12_isOf σ).bind fun p13 =>
    if p13 = true then
     (some false)
    else
    (f_X12_isSlack σ).bind fun p15 =>
    if p15 = true then
     (some false)
    else
    (f_X12_isZero σ).bind fun p17 =>
    if p17 = true then
     (some false)
    else
    some true)
   else
   some false)
  else
  some false
set_option maxRecDepth 100000 in
set_option maxHeartbeats 4000000 in
theorem q_X12_isName {X : am_X} (hX : am_ks X = am_ksM) {Q : Option Value → am_H → Prop} (σ : am_H) {o : Bool} (hf : f_X12_isName σ = some o) (hk : Q (some (.int (am_b o))) σ) : am_G X gm_X12_isName Q 0 [(0, .ref (am_ad X 12 0))] [] σ := by
  unfold f_X12_isName at hf
  refine g_aload_n (pc := 0) 0 rfl dX12_isName_0 rfl ?_
  refine g_getI (pc := 1) (in_12 hX (by omega)) fr_X12_167 dX12_isName_1 ?_
  refine g_iconst (pc := 4) (v := 1) dX12_isName_4 (by decide) ?_
  refine bi_ne (pc := 5) 77 dX12_isName_5 rfl (fun c1 => ?_) (fun c1 => ?_)
  · replace hf := am_ifT c1 hf
    refine g_aload_n (pc := 8) 0 rfl dX12_isName_8 rfl ?_
    refine g_getI (pc := 9) (in_12 hX (by omega)) fr_X12_180 dX12_isName_9 ?_
    refine g_bipush (pc := 12) (v := 8) dX12_isName_12 (by decide) ?_
    refine bi_gt (pc := 14) 77 dX12_isName_14 rfl (fun c2 => ?_) (fun c2 => ?_)
    · replace hf := am_ifT c2 hf
      refine g_iconst (pc := 77) (v := 0) dX12_isName_77 (by decide) ?_
      have ho := Option.some.inj hf
      subst ho
      exact g_zreturn (pc := 78) (st := []) (x := false) rfl dX12_isName_78 hk
    replace hf := am_ifF c2 hf
    refine g_aload_n (pc := 17) 0 rfl dX12_isName_17 rfl ?_
    obtain ⟨p3, hp3, hf⟩ := am_bd hf
    refine g_cV (pc := 18) (As := []) (st := []) (st1 := [.int p3]) (in_12 hX (by omega)) kk_12 mV_X12_setting ln_X12_197 rfl (Nat.le_of_ble_eq_true rfl) (Nat.le_of_ble_eq_true rfl) (k_X12_setting hX σ hp3) dX12_isName_18 rfl rfl ?_
    refine bz_ge (pc := 21) 77 dX12_isName_21 rfl (fun c4 => ?_) (fun c4 => ?_)
    · replace hf := am_ifT c4 hf
      refine g_aload_n (pc := 24) 0 rfl dX12_isName_24 rfl ?_
      obtain ⟨p5, hp5, hf⟩ := am_bd hf
      refine g_cV (pc := 25) (As := []) (st := []) (st1 := [.int (am_b p5)]) (in_12 hX (by omega)) kk_12 mV_X12_isWave ln_X12_201 rfl (Nat.le_of_ble_eq_true rfl) (Nat.le_of_ble_eq_true rfl) (k_X12_isWave hX σ hp5) dX12_isName_25 rfl rfl ?_
      refine bt_ne (pc := 28) 77 dX12_isName_28 rfl (fun c6 => ?_) (fun c6 => ?_)
      · replace hf := am_ifT c6 hf
        refine g_iconst (pc := 77) (v := 0) dX12_isName_77 (by decide) ?_
        have ho := Option.some.inj hf
        subst ho
        exact g_zreturn (pc := 78) (st := []) (x := false) rfl dX12_isName_78 hk
      replace hf := am_ifF c6 hf
      refine g_aload_n (pc := 31) 0 rfl dX12_isName_31 rfl ?_
      obtain ⟨p7, hp7, hf⟩ := am_bd hf
      refine g_cV (pc := 32) (As := []) (st := []) (st1 := [.int (am_b p7)]) (in_12 hX (by omega)) kk_12 mV_X12_isTurns ln_X12_205 rfl (Nat.le_of_ble_eq_true rfl) (Nat.le_of_ble_eq_true rfl) (k_X12_isTurns hX σ hp7) dX12_isName_32 rfl rfl ?_
      refine bt_ne (pc := 35) 77 dX12_isName_35 rfl (fun c8 => ?_) (fun c8 => ?_)
      · replace hf := am_ifT c8 hf
        refine g_iconst (pc := 77) (v := 0) dX12_isName_77 (by decide) ?_
        have ho := Option.some.inj hf
        subst ho
        exact g_zreturn (pc := 78) (st := []) (x := false) rfl dX12_isName_78 hk
      replace hf := am_ifF c8 hf
      refine g_aload_n (pc := 38) 0 rfl dX12_isName_38 rfl ?_
      obtain ⟨p9, hp9, hf⟩ := am_bd hf
      refine g_cV (pc := 39) (As := []) (st := []) (st1 := [.int (am_b p9)]) (in_12 hX (by omega)) kk_12 mV_X12_isInWord ln_X12_208 rfl (Nat.le_of_ble_eq_true rfl) (Nat.le_of_ble_eq_true rfl) (k_X12_isInWord hX σ hp9) dX12_isName_39 rfl rfl ?_
      refine bt_ne (pc := 42) 77 dX12_isName_42 rfl (fun c10 => ?_) (fun c10 => ?_)
      · replace hf := am_ifT c10 hf
        refine g_iconst (pc := 77) (v := 0) dX12_isName_77 (by decide) ?_
        have ho := Option.some.inj hf
        subst ho
        exact g_zreturn (pc := 78) (st := []) (x := false) rfl dX12_isName_78 hk
      replace hf := am_ifF c10 hf
      refine g_aload_n (pc := 45) 0 rfl dX12_isName_45 rfl ?_
      obtain ⟨p11, hp11, hf⟩ := am_bd hf
      refine g_cV (pc := 46) (As := []) (st := []) (st1 := [.int (am_b p11)]) (in_12 hX (by omega)) kk_12 mV_X12_isBox ln_X12_211 rfl (Nat.le_of_ble_eq_true rfl) (Nat.le_of_ble_eq_true rfl) (k_X12_isBox hX σ hp11) dX12_isName_46 rfl rfl ?_
      refine bt_ne (pc := 49) 77 dX12_isName_49 rfl (fun c12 => ?_) (fun c12 => ?_)
      · replace hf := am_ifT c12 hf
        refine g_iconst (pc := 77) (v := 0) dX12_isName_77 (by decide) ?_
        have ho := Option.some.inj hf
        subst ho
        exact g_zreturn (pc := 78) (st := []) (x := false) rfl dX12_isName_78 hk
      replace hf := am_ifF c12 hf
      refine g_aload_n (pc := 52) 0 rfl dX12_isName_52 rfl ?_
      obtain ⟨p13, hp13, hf⟩ := am_bd hf
      refine g_cV (pc := 53) (As := []) (st := []) (st1 := [.int (am_b p13)]) (in_12 hX (by omega)) kk_12 mV_X12_isOf ln_X12_214 rfl (Nat.le_of_ble_eq_true rfl) (Nat.le_of_ble_eq_true rfl) (k_X12_isOf hX σ hp13) dX12_isName_53 rfl rfl ?_
      refine bt_ne (pc := 56) 77 dX12_isName_56 rfl (fun c14 => ?_) (fun c14 => ?_)
      · replace hf := am_ifT c14 hf
        refine g_iconst (pc := 77) (v := 0) dX12_isName_77 (by decide) ?_
        have ho := Option.some.inj hf
        subst ho
        exact g_zreturn (pc := 78) (st := []) (x := false) rfl dX12_isName_78 hk
      replace hf := am_ifF c14 hf
      refine g_aload_n (pc := 59) 0 rfl dX12_isName_59 rfl ?_
      obtain ⟨p15, hp15, hf⟩ := am_bd hf
      refine g_cV (pc := 60) (As := []) (st := []) (st1 := [.int (am_b p15)]) (in_12 hX (by omega)) kk_12 mV_X12_isSlack ln_X12_217 rfl (Nat.le_of_ble_eq_true rfl) (Nat.le_of_ble_eq_true rfl) (k_X12_isSlack hX σ hp15) dX12_isName_60 rfl rfl ?_
      refine bt_ne (pc := 63) 77 dX12_isName_63 rfl (fun c16 => ?_) (fun c16 => ?_)
      · replace hf := am_ifT c16 hf
        refine g_iconst (pc := 77) (v := 0) dX12_isName_77 (by decide) ?_
        have ho := Option.some.inj hf
        subst ho
        exact g_zreturn (pc := 78) (st := []) (x := false) rfl dX12_isName_78 hk
      replace hf := am_ifF c16 hf
      refine g_aload_n (pc := 66) 0 rfl dX12_isName_66 rfl ?_
      obtain ⟨p17, hp17, hf⟩ := am_bd hf
      refine g_cV (pc := 67) (As := []) (st := []) (st1 := [.int (am_b p17)]) (in_12 hX (by omega)) kk_12 mV_X12_isZero ln_X12_220 rfl (Nat.le_of_ble_eq_true rfl) (Nat.le_of_ble_eq_true rfl) (k_X12_isZero hX σ hp17) dX12_isName_67 rfl rfl ?_
      refine bt_ne (pc := 70) 77 dX12_isName_70 rfl (fun c18 => ?_) (fun c18 => ?_)
      · replace hf := am_ifT c18 hf
        refine g_iconst (pc := 77) (v := 0) dX12_isName_77 (by decide) ?_
        have ho := Option.some.inj hf
        subst ho
        exact g_zreturn (pc := 78) (st := []) (x := false) rfl dX12_isName_78 hk
      replace hf := am_ifF c18 hf
      refine g_iconst (pc := 73) (v := 1) dX12_isName_73 (by decide) ?_
      refine g_goto (pc := 74) 78 dX12_isName_74 rfl ?_
      have ho := Option.some.inj hf
      subst ho
      exact g_zreturn (pc := 78) (st := []) (x := true) rfl dX12_isName_78 hk
    replace hf := am_ifF c4 hf
    refine g_iconst (pc := 77) (v := 0) dX12_isName_77 (by decide) ?_
    have ho := Option.some.inj hf
    subst ho
    exact g_zreturn (pc := 78) (st := []) (x := false) rfl dX12_isName_78 hk
  replace hf := am_ifF c1 hf
  refine g_iconst (pc := 77) (v := 0) dX12_isName_77 (by decide) ?_
  have ho := Option.some.inj hf
  subst ho
  exact g_zreturn (pc := 78) (st := []) (x := false) rfl dX12_isName_78 hk
theorem k_X12_isName {X : am_X} (hX : am_ks X = am_ksM) (σ : am_H) {o : Bool} (hf : f_X12_isName σ = some o) : am_C X gm_X12_isName [.ref (am_ad X 12 0)] σ (am_is (some (.int (am_b o))) σ) :=
  am_ofG rfl (Nat.le_of_ble_eq_true rfl) rfl (q_X12_isName hX σ hf ⟨rfl, rfl⟩)
theorem dX12_fail_0 : decode cX12_fail 0 = .ok (.aload_n 0, 1) := by decide +kernel
theorem dX12_fail_1 : decode cX12_fail 1 = .ok (.getfield 223, 3) := by decide +kernel
theorem dX12_fail_4 : decode cX12_fail 4 = .ok (.ifCond .le 4, 3) := by decide +kernel
theorem dX12_fail_7 : decode cX12_fail 7 = .ok (.return_, 1) := by decide +kernel
theorem dX12_fail_8 : decode cX12_fail 8 = .ok (.aload_n 0, 1) := by decide +kernel
theorem dX12_fail_9 : decode cX12_fail 9 = .ok (.iload_n 1, 1) := by decide +kernel
theorem dX12_fail_10 : decode cX12_fail 10 = .ok (.putfield 223, 3) := by decide +kernel
theorem dX12_fail_13 : decode cX12_fail 13 = .ok (.aload_n 0, 1) := by decide +kernel
theorem dX12_fail_14 : decode cX12_fail 14 = .ok (.iload_n 2, 1) := by decide +kernel
theorem dX12_fail_15 : decode cX12_fail 15 = .ok (.putfield 226, 3) := by decide +kernel
theorem dX12_fail_18 : decode cX12_fail 18 = .ok (.return_, 1) := by decide +kernel
noncomputable def f_X12_fail (v1 : Int32) (v2 : Int32) (σ : am_H) : Option (am_H) :=
  if 0 < (σ.1 12 0 12) then
   (some σ)
  else
  (some (am_wI σ 12 0 12 v1)).bind fun s2 =>
  (some (am_wI s2 12 0 13 v2)).bind fun s3 =>
  some s3
set_option maxRecDepth 100000 in
set_option maxHeartbeats 4000000 in
theorem q_X12_fail {X : am_X} (hX : am_ks X = am_ksM) {Q : Option Value → am_H → Prop} (v1 : Int32) (v2 : Int32) (σ : am_H) {o : am_H} (hf : f_X12_fail v1 v2 σ = some o) (hk : Q none o) : am_G X gm_X12_fail Q 0 [(0, .ref (am_ad X 12 0)), (1, .int v1), (2, .int v2)] [] σ := by
  unfold f_X12_fail at hf
  refine g_aload_n (pc := 0) 0 rfl dX12_fail_0 rfl ?_
  refine g_getI (pc := 1) (in_12 hX (by omega)) fr_X12_223 dX12_fail_1 ?_
  refine bz_le (pc := 4) 8 dX12_fail_4 rfl (fun c1 => ?_) (fun c1 => ?_)
  · replace hf := am_ifT c1 hf
    have ho := Option.some.inj hf
    subst ho
    exact g_vreturn (pc := 7) (st := []) rfl dX12_fail_7 hk
  replace hf := am_ifF c1 hf
  refine g_aload_n (pc := 8) 0 rfl dX12_fail_8 rfl ?_
  refine g_iload_n (pc := 9) 1 rfl dX12_fail_9 rfl ?_
  obtain ⟨s2, hs2, hf⟩ := am_bd hf
  refine g_setI (pc := 10) (in_12 hX (by omega)) fr_X12_223 dX12_fail_10 (Option.some.inj hs2) ?_
  refine g_aload_n (pc := 13) 0 rfl dX12_fail_13 rfl ?_
  refine g_iload_n (pc := 14) 2 rfl dX12_fail_14 rfl ?_
  obtain ⟨s3, hs3, hf⟩ := am_bd hf
  refine g_setI (pc := 15) (in_12 hX (by omega)) fr_X12_226 dX12_fail_15 (Option.some.inj hs3) ?_
  have ho := Option.some.inj hf
  subst ho
  exact g_vreturn (pc := 18) (st := []) rfl dX12_fail_18 hk
theorem k_X12_fail {X : am_X} (hX : am_ks X = am_ksM) (v1 : Int32) (v2 : Int32) (σ : am_H) {o : am_H} (hf : f_X12_fail v1 v2 σ = some o) : am_C X gm_X12_fail [.ref (am_ad X 12 0), .int v1, .int v2] σ (am_is none o) :=
  am_ofG rfl (Nat.le_of_ble_eq_true rfl) rfl (q_X12_fail hX v1 v2 σ hf ⟨rfl, rfl⟩)
theorem dX12_wrong_0 : decode cX12_wrong 0 = .ok (.aload_n 0, 1) := by decide +kernel
theorem dX12_wrong_1 : decode cX12_wrong 1 = .ok (.aload_n 0, 1) := by decide +kernel
theorem dX12_wrong_2 : decode cX12_wrong 2 = .ok (.getfield 167, 3) := by decide +kernel
theorem dX12_wrong_5 : decode cX12_wrong 5 = .ok (.iconst 4, 1) := by decide +kernel
theorem dX12_wrong_6 : decode cX12_wrong 6 = .ok (.if_icmp .ne 7, 3) := by decide +kernel
theorem dX12_wrong_9 : decode cX12_wrong 9 = .ok (.iconst 1, 1) := by decide +kernel
theorem dX12_wrong_10 : decode cX12_wrong 10 = .ok (.goto 4, 3) := by decide +kernel
theorem dX12_wrong_13 : decode cX12_wrong 13 = .ok (.iconst 2, 1) := by decide +kernel
theorem dX12_wrong_14 : decode cX12_wrong 14 = .ok (.aload_n 0, 1) := by decide +kernel
theorem dX12_wrong_15 : decode cX12_wrong 15 = .ok (.getfield 161, 3) := by decide +kernel
theorem dX12_wrong_18 : decode cX12_wrong 18 = .ok (.invokevirtual 229, 3) := by decide +kernel
theorem dX12_wrong_21 : decode cX12_wrong 21 = .ok (.return_, 1) := by decide +kernel
noncomputable def f_X12_wrong_14 (k1 : Int32) (σ : am_H) : Option (am_H) :=
  (f_X12_fail k1 (σ.1 12 0 15) σ).bind fun p1 =>
  some p1
set_option maxRecDepth 100000 in
set_option maxHeartbeats 4000000 in
theorem q_X12_wrong_14 {X : am_X} (hX : am_ks X = am_ksM) {Q : Option Value → am_H → Prop} (k1 : Int32) (σ : am_H) {o : am_H} (hf : f_X12_wrong_14 k1 σ = some o) (hk : Q none o) : am_G X gm_X12_wrong Q 14 [(0, .ref (am_ad X 12 0))] [.int k1, .ref (am_ad X 12 0)] σ := by
  unfold f_X12_wrong_14 at hf
  refine g_aload_n (pc := 14) 0 rfl dX12_wrong_14 rfl ?_
  refine g_getI (pc := 15) (in_12 hX (by omega)) fr_X12_161 dX12_wrong_15 ?_
  obtain ⟨p1, hp1, hf⟩ := am_bd hf
  refine g_cV (pc := 18) (As := [.int k1, .int (σ.1 12 0 15)]) (st := []) (st1 := []) (in_12 hX (by omega)) kk_12 mV_X12_fail ln_X12_229 rfl (Nat.le_of_ble_eq_true rfl) (Nat.le_of_ble_eq_true rfl) (k_X12_fail hX k1 (σ.1 12 0 15) σ hp1) dX12_wrong_18 rfl rfl ?_
  have ho := Option.some.inj hf
  subst ho
  exact g_vreturn (pc := 21) (st := []) rfl dX12_wrong_21 hk
noncomputable def f_X12_wrong (σ : am_H) : Option (am_H) :=
  if (σ.1 12 0 14) = 4 then
   (f_X12_wrong_14 1 σ)
  else
  f_X12_wrong_14 2 σ
set_option maxRecDepth 100000 in
set_option maxHeartbeats 4000000 in
theorem q_X12_wrong {X : am_X} (hX : am_ks X = am_ksM) {Q : Option Value → am_H → Prop} (σ : am_H) {o : am_H} (hf : f_X12_wrong σ = some o) (hk : Q none o) : am_G X gm_X12_wrong Q 0 [(0, .ref (am_ad X 12 0))] [] σ := by
  unfold f_X12_wrong at hf
  refine g_aload_n (pc := 0) 0 rfl dX12_wrong_0 rfl ?_
  refine g_aload_n (pc := 1) 0 rfl dX12_wrong_1 rfl ?_
  refine g_getI (pc := 2) (in_12 hX (by omega)) fr_X12_167 dX12_wrong_2 ?_
  refine g_iconst (pc := 5) (v := 4) dX12_wrong_5 (by decide) ?_
  refine bi_ne (pc := 6) 13 dX12_wrong_6 rfl (fun c1 => ?_) (fun c1 => ?_)
  · replace hf := am_ifT c1 hf
    refine g_iconst (pc := 9) (v := 1) dX12_wrong_9 (by decide) ?_
    refine g_goto (pc := 10) 14 dX12_wrong_10 rfl ?_
    exact q_X12_wrong_14 hX 1 σ hf hk
  replace hf := am_ifF c1 hf
  refine g_iconst (pc := 13) (v := 2) dX12_wrong_13 (by decide) ?_
  exact q_X12_wrong_14 hX 2 σ hf hk
theorem k_X12_wrong {X : am_X} (hX : am_ks X = am_ksM) (σ : am_H) {o : am_H} (hf : f_X12_wrong σ = some o) : am_C X gm_X12_wrong [.ref (am_ad X 12 0)] σ (am_is none o) :=
  am_ofG rfl (Nat.le_of_ble_eq_true rfl) rfl (q_X12_wrong hX σ hf ⟨rfl, rfl⟩)
theorem dX12_must_0 : decode cX12_must 0 = .ok (.aload_n 0, 1) := by decide +kernel
theorem dX12_must_1 : decode cX12_must 1 = .ok (.getfield 223, 3) := by decide +kernel
theorem dX12_must_4 : decode cX12_must 4 = .ok (.ifCond .le 4, 3) := by decide +kernel
theorem dX12_must_7 : decode cX12_must 7 = .ok (.return_, 1) := by decide +kernel
theorem dX12_must_8 : decode cX12_must 8 = .ok (.iload_n 1, 1) := by decide +kernel
theorem dX12_must_9 : decode cX12_must 9 = .ok (.ifCond .eq 10, 3) := by decide +kernel
theorem dX12_must_12 : decode cX12_must 12 = .ok (.aload_n 0, 1) := by decide +kernel
theorem dX12_must_13 : decode cX12_must 13 = .ok (.invokevirtual 233, 3) := by decide +kernel
theorem dX12_must_16 : decode cX12_must 16 = .ok (.goto 7, 3) := by decide +kernel
theorem dX12_must_19 : decode cX12_must 19 = .ok (.aload_n 0, 1) := by decide +kernel
theorem dX12_must_20 : decode cX12_must 20 = .ok (.invokevirtual 236, 3) := by decide +kernel
theorem dX12_must_23 : decode cX12_must 23 = .ok (.return_, 1) := by decide +kernel
noncomputable def f_X12_must (v1 : Bool) (σ : am_H) : Option (am_H) :=
  if 0 < (σ.1 12 0 12) then
   (some σ)
  else
  if v1 = true then
   ((f_X12_next σ).bind fun p3 =>
   some p3)
  else
  (f_X12_wrong σ).bind fun p4 =>
  some p4
set_option maxRecDepth 100000 in
set_option maxHeartbeats 4000000 in
theorem q_X12_must {X : am_X} (hX : am_ks X = am_ksM) {Q : Option Value → am_H → Prop} (v1 : Bool) (σ : am_H) {o : am_H} (hf : f_X12_must v1 σ = some o) (hk : Q none o) : am_G X gm_X12_must Q 0 [(0, .ref (am_ad X 12 0)), (1, .int (am_b v1))] [] σ := by
  unfold f_X12_must at hf
  refine g_aload_n (pc := 0) 0 rfl dX12_must_0 rfl ?_
  refine g_getI (pc := 1) (in_12 hX (by omega)) fr_X12_223 dX12_must_1 ?_
  refine bz_le (pc := 4) 8 dX12_must_4 rfl (fun c1 => ?_) (fun c1 => ?_)
  · replace hf := am_ifT c1 hf
    have ho := Option.some.inj hf
    subst ho
    exact g_vreturn (pc := 7) (st := []) rfl dX12_must_7 hk
  replace hf := am_ifF c1 hf
  refine g_iload_n (pc := 8) 1 rfl dX12_must_8 rfl ?_
  refine bt_eq (pc := 9) 19 dX12_must_9 rfl (fun c2 => ?_) (fun c2 => ?_)
  · replace hf := am_ifT c2 hf
    refine g_aload_n (pc := 12) 0 rfl dX12_must_12 rfl ?_
    obtain ⟨p3, hp3, hf⟩ := am_bd hf
    refine g_cV (pc := 13) (As := []) (st := []) (st1 := []) (in_12 hX (by omega)) kk_12 mV_X12_next ln_X12_233 rfl (Nat.le_of_ble_eq_true rfl) (Nat.le_of_ble_eq_true rfl) (k_X12_next hX σ hp3) dX12_must_13 rfl rfl ?_
    refine g_goto (pc := 16) 23 dX12_must_16 rfl ?_
    have ho := Option.some.inj hf
    subst ho
    exact g_vreturn (pc := 23) (st := []) rfl dX12_must_23 hk
  replace hf := am_ifF c2 hf
  refine g_aload_n (pc := 19) 0 rfl dX12_must_19 rfl ?_
  obtain ⟨p4, hp4, hf⟩ := am_bd hf
  refine g_cV (pc := 20) (As := []) (st := []) (st1 := []) (in_12 hX (by omega)) kk_12 mV_X12_wrong ln_X12_236 rfl (Nat.le_of_ble_eq_true rfl) (Nat.le_of_ble_eq_true rfl) (k_X12_wrong hX σ hp4) dX12_must_20 rfl rfl ?_
  have ho := Option.some.inj hf
  subst ho
  exact g_vreturn (pc := 23) (st := []) rfl dX12_must_23 hk
theorem k_X12_must {X : am_X} (hX : am_ks X = am_ksM) (v1 : Bool) (σ : am_H) {o : am_H} (hf : f_X12_must v1 σ = some o) : am_C X gm_X12_must [.ref (am_ad X 12 0), .int (am_b v1)] σ (am_is none o) :=
  am_ofG rfl (Nat.le_of_ble_eq_true rfl) rfl (q_X12_must hX v1 σ hf ⟨rfl, rfl⟩)
theorem dX12_seen_0 : decode cX12_seen 0 = .ok (.aload_n 0, 1) := by decide +kernel
theorem dX12_seen_1 : decode cX12_seen 1 = .ok (.getfield 223, 3) := by decide +kernel
theorem dX12_seen_4 : decode cX12_seen 4 = .ok (.ifCond .ne 15, 3) := by decide +kernel
theorem dX12_seen_7 : decode cX12_seen 7 = .ok (.aload_n 0, 1) := by decide +kernel
theorem dX12_seen_8 : decode cX12_seen 8 = .ok (.getfield 167, 3) := by decide +kernel
theorem dX12_seen_11 : decode cX12_seen 11 = .ok (.iconst 2, 1) := by decide +kernel
theorem dX12_seen_12 : decode cX12_seen 12 = .ok (.if_icmp .eq 7, 3) := by decide +kernel
theorem dX12_seen_15 : decode cX12_seen 15 = .ok (.aload_n 0, 1) := by decide +kernel
theorem dX12_seen_16 : decode cX12_seen 16 = .ok (.invokevirtual 236, 3) := by decide +kernel
theorem dX12_seen_19 : decode cX12_seen 19 = .ok (.aload_n 0, 1) := by decide +kernel
theorem dX12_seen_20 : decode cX12_seen 20 = .ok (.getfield 223, 3) := by decide +kernel
theorem dX12_seen_23 : decode cX12_seen 23 = .ok (.ifCond .ne 27, 3) := by decide +kernel
theorem dX12_seen_26 : decode cX12_seen 26 = .ok (.aload_n 0, 1) := by decide +kernel
theorem dX12_seen_27 : decode cX12_seen 27 = .ok (.getfield 186, 3) := by decide +kernel
theorem dX12_seen_30 : decode cX12_seen 30 = .ok (.i2l, 1) := by decide +kernel
theorem dX12_seen_31 : decode cX12_seen 31 = .ok (.iload_n 1, 1) := by decide +kernel
theorem dX12_seen_32 : decode cX12_seen 32 = .ok (.i2l, 1) := by decide +kernel
theorem dX12_seen_33 : decode cX12_seen 33 = .ok (.iload_n 2, 1) := by decide +kernel
theorem dX12_seen_34 : decode cX12_seen 34 = .ok (.i2l, 1) := by decide +kernel
theorem dX12_seen_35 : decode cX12_seen 35 = .ok (.invokestatic 239, 3) := by decide +kernel
theorem dX12_seen_38 : decode cX12_seen 38 = .ok (.ifCond .ne 12, 3) := by decide +kernel
theorem dX12_seen_41 : decode cX12_seen 41 = .ok (.aload_n 0, 1) := by decide +kernel
theorem dX12_seen_42 : decode cX12_seen 42 = .ok (.iconst 4, 1) := by decide +kernel
theorem dX12_seen_43 : decode cX12_seen 43 = .ok (.aload_n 0, 1) := by decide +kernel
theorem dX12_seen_44 : decode cX12_seen 44 = .ok (.getfield 161, 3) := by decide +kernel
theorem dX12_seen_47 : decode cX12_seen 47 = .ok (.invokevirtual 229, 3) := by decide +kernel
theorem dX12_seen_50 : decode cX12_seen 50 = .ok (.aload_n 0, 1) := by decide +kernel
theorem dX12_seen_51 : decode cX12_seen 51 = .ok (.getfield 223, 3) := by decide +kernel
theorem dX12_seen_54 : decode cX12_seen 54 = .ok (.ifCond .ne 10, 3) := by decide +kernel
theorem dX12_seen_57 : decode cX12_seen 57 = .ok (.aload_n 0, 1) := by decide +kernel
theorem dX12_seen_58 : decode cX12_seen 58 = .ok (.getfield 186, 3) := by decide +kernel
theorem dX12_seen_61 : decode cX12_seen 61 = .ok (.goto 4, 3) := by decide +kernel
theorem dX12_seen_64 : decode cX12_seen 64 = .ok (.iconst 0, 1) := by decide +kernel
theorem dX12_seen_65 : decode cX12_seen 65 = .ok (.ireturn, 1) := by decide +kernel
noncomputable def f_X12_seen_50 (σ : am_H) : Option (Int32 × am_H) :=
  if (σ.1 12 0 12) = 0 then
   (some ((σ.1 12 0 17), σ))
  else
  some (0, σ)
set_option maxRecDepth 100000 in
set_option maxHeartbeats 4000000 in
theorem q_X12_seen_50 {X : am_X} (hX : am_ks X = am_ksM) {Q : Option Value → am_H → Prop} (σ : am_H) {o : Int32 × am_H} (hf : f_X12_seen_50 σ = some o) (hk : Q (some (.int o.1)) o.2) : am_G X gm_X12_seen Q 50 [(0, .ref (am_ad X 12 0))] [] σ := by
  unfold f_X12_seen_50 at hf
  refine g_aload_n (pc := 50) 0 rfl dX12_seen_50 rfl ?_
  refine g_getI (pc := 51) (in_12 hX (by omega)) fr_X12_223 dX12_seen_51 ?_
  refine bz_ne (pc := 54) 64 dX12_seen_54 rfl (fun c1 => ?_) (fun c1 => ?_)
  · replace hf := am_ifT c1 hf
    refine g_aload_n (pc := 57) 0 rfl dX12_seen_57 rfl ?_
    refine g_getI (pc := 58) (in_12 hX (by omega)) fr_X12_186 dX12_seen_58 ?_
    refine g_goto (pc := 61) 65 dX12_seen_61 rfl ?_
    have ho := Option.some.inj hf
    subst ho
    exact g_ireturn (pc := 65) (st := []) rfl dX12_seen_65 hk
  replace hf := am_ifF c1 hf
  refine g_iconst (pc := 64) (v := 0) dX12_seen_64 (by decide) ?_
  have ho := Option.some.inj hf
  subst ho
  exact g_ireturn (pc := 65) (st := []) rfl dX12_seen_65 hk
noncomputable def f_X12_seen_19 (v1 : Int32) (v2 : Int32) (σ : am_H) : Option (Int32 × am_H) :=
  if (σ.1 12 0 12) = 0 then
   ((f_X12_isIn (Int32.toInt64 (σ.1 12 0 17)) (Int32.toInt64 v1) (Int32.toInt64 v2) σ).bind fun p2 =>
   if p2 = true then
    (f_X12_seen_50 σ)
   else
   (f_X12_fail 4 (σ.1 12 0 15) σ).bind fun p4 =>
   f_X12_seen_50 p4)
  else
  f_X12_seen_50 σ
set_option maxRecDepth 100000 in
set_option maxHeartbeats 4000000 in
theorem q_X12_seen_19 {X : am_X} (hX : am_ks X = am_ksM) {Q : Option Value → am_H → Prop} (v1 : Int32) (v2 : Int32) (σ : am_H) {o : Int32 × am_H} (hf : f_X12_seen_19 v1 v2 σ = some o) (hk : Q (some (.int o.1)) o.2) : am_G X gm_X12_seen Q 19 [(0, .ref (am_ad X 12 0)), (1, .int v1), (2, .int v2)] [] σ := by
  unfold f_X12_seen_19 at hf
  refine g_aload_n (pc := 19) 0 rfl dX12_seen_19 rfl ?_
  refine g_getI (pc := 20) (in_12 hX (by omega)) fr_X12_223 dX12_seen_20 ?_
  refine bz_ne (pc := 23) 50 dX12_seen_23 rfl (fun c1 => ?_) (fun c1 => ?_)
  · replace hf := am_ifT c1 hf
    refine g_aload_n (pc := 26) 0 rfl dX12_seen_26 rfl ?_
    refine g_getI (pc := 27) (in_12 hX (by omega)) fr_X12_186 dX12_seen_27 ?_
    refine g_i2l (pc := 30) dX12_seen_30 ?_
    refine g_iload_n (pc := 31) 1 rfl dX12_seen_31 rfl ?_
    refine g_i2l (pc := 32) dX12_seen_32 ?_
    refine g_iload_n (pc := 33) 2 rfl dX12_seen_33 rfl ?_
    refine g_i2l (pc := 34) dX12_seen_34 ?_
    obtain ⟨p2, hp2, hf⟩ := am_bd hf
    refine g_cS (pc := 35) (As := [.long (Int32.toInt64 (σ.1 12 0 17)), .long (Int32.toInt64 v1), .long (Int32.toInt64 v2)]) (st := []) (st1 := [.int (am_b p2)]) mS_X12_isIn ln_X12_239 rfl (Nat.le_of_ble_eq_true rfl) (Nat.le_of_ble_eq_true rfl) (k_X12_isIn hX (Int32.toInt64 (σ.1 12 0 17)) (Int32.toInt64 v1) (Int32.toInt64 v2) σ hp2) dX12_seen_35 rfl rfl ?_
    refine bt_ne (pc := 38) 50 dX12_seen_38 rfl (fun c3 => ?_) (fun c3 => ?_)
    · replace hf := am_ifT c3 hf
      exact am_sub [0] rfl (q_X12_seen_50 hX σ hf hk)
    replace hf := am_ifF c3 hf
    refine g_aload_n (pc := 41) 0 rfl dX12_seen_41 rfl ?_
    refine g_iconst (pc := 42) (v := 4) dX12_seen_42 (by decide) ?_
    refine g_aload_n (pc := 43) 0 rfl dX12_seen_43 rfl ?_
    refine g_getI (pc := 44) (in_12 hX (by omega)) fr_X12_161 dX12_seen_44 ?_
    obtain ⟨p4, hp4, hf⟩ := am_bd hf
    refine g_cV (pc := 47) (As := [.int 4, .int (σ.1 12 0 15)]) (st := []) (st1 := []) (in_12 hX (by omega)) kk_12 mV_X12_fail ln_X12_229 rfl (Nat.le_of_ble_eq_true rfl) (Nat.le_of_ble_eq_true rfl) (k_X12_fail hX 4 (σ.1 12 0 15) σ hp4) dX12_seen_47 rfl rfl ?_
    exact am_sub [0] rfl (q_X12_seen_50 hX p4 hf hk)
  replace hf := am_ifF c1 hf
  exact am_sub [0] rfl (q_X12_seen_50 hX σ hf hk)
noncomputable def f_X12_seen (v1 : Int32) (v2 : Int32) (σ : am_H) : Option (Int32 × am_H) :=
  if (σ.1 12 0 12) = 0 then
   (if (σ.1 12 0 14) = 2 then
    (f_X12_seen_19 v1 v2 σ)
   else
   (f_X12_wrong σ).bind fun p3 =>
   f_X12_seen_19 v1 v2 p3)
  else
  f_X12_seen_19 v1 v2 σ
set_option maxRecDepth 100000 in
set_option maxHeartbeats 4000000 in
theorem q_X12_seen {X : am_X} (hX : am_ks X = am_ksM) {Q : Option Value → am_H → Prop} (v1 : Int32) (v2 : Int32) (σ : am_H) {o : Int32 × am_H} (hf : f_X12_seen v1 v2 σ = some o) (hk : Q (some (.int o.1)) o.2) : am_G X gm_X12_seen Q 0 [(0, .ref (am_ad X 12 0)), (1, .int v1), (2, .int v2)] [] σ := by
  unfold f_X12_seen at hf
  refine g_aload_n (pc := 0) 0 rfl dX12_seen_0 rfl ?_
  refine g_getI (pc := 1) (in_12 hX (by omega)) fr_X12_223 dX12_seen_1 ?_
  refine bz_ne (pc := 4) 19 dX12_seen_4 rfl (fun c1 => ?_) (fun c1 => ?_)
  · replace hf := am_ifT c1 hf
    refine g_aload_n (pc := 7) 0 rfl dX12_seen_7 rfl ?_
    refine g_getI (pc := 8) (in_12 hX (by omega)) fr_X12_167 dX12_seen_8 ?_
    refine g_iconst (pc := 11) (v := 2) dX12_seen_11 (by decide) ?_
    refine bi_eq (pc := 12) 19 dX12_seen_12 rfl (fun c2 => ?_) (fun c2 => ?_)
    · replace hf := am_ifT c2 hf
      exact q_X12_seen_19 hX v1 v2 σ hf hk
    replace hf := am_ifF c2 hf
    refine g_aload_n (pc := 15) 0 rfl dX12_seen_15 rfl ?_
    obtain ⟨p3, hp3, hf⟩ := am_bd hf
    refine g_cV (pc := 16) (As := []) (st := []) (st1 := []) (in_12 hX (by omega)) kk_12 mV_X12_wrong ln_X12_236 rfl (Nat.le_of_ble_eq_true rfl) (Nat.le_of_ble_eq_true rfl) (k_X12_wrong hX σ hp3) dX12_seen_16 rfl rfl ?_
    exact q_X12_seen_19 hX v1 v2 p3 hf hk
  replace hf := am_ifF c1 hf
  exact q_X12_seen_19 hX v1 v2 σ hf hk
theorem k_X12_seen {X : am_X} (hX : am_ks X = am_ksM) (v1 : Int32) (v2 : Int32) (σ : am_H) {o : Int32 × am_H} (hf : f_X12_seen v1 v2 σ = some o) : am_C X gm_X12_seen [.ref (am_ad X 12 0), .int v1, .int v2] σ (am_is (some (.int o.1)) o.2) :=
  am_ofG rfl (Nat.le_of_ble_eq_true rfl) rfl (q_X12_seen hX v1 v2 σ hf ⟨rfl, rfl⟩)
theorem dX12_count_0 : decode cX12_count 0 = .ok (.aload_n 0, 1) := by decide +kernel
theorem dX12_count_1 : decode cX12_count 1 = .ok (.iload_n 1, 1) := by decide +kernel
theorem dX12_count_2 : decode cX12_count 2 = .ok (.iload_n 2, 1) := by decide +kernel
theorem dX12_count_3 : decode cX12_count 3 = .ok (.invokevirtual 243, 3) := by decide +kernel
theorem dX12_count_6 : decode cX12_count 6 = .ok (.istore_n 3, 1) := by decide +kernel
theorem dX12_count_7 : decode cX12_count 7 = .ok (.aload_n 0, 1) := by decide +kernel
theorem dX12_count_8 : decode cX12_count 8 = .ok (.getfield 223, 3) := by decide +kernel
theorem dX12_count_11 : decode cX12_count 11 = .ok (.ifCond .ne 7, 3) := by decide +kernel
theorem dX12_count_14 : decode cX12_count 14 = .ok (.aload_n 0, 1) := by decide +kernel
theorem dX12_count_15 : decode cX12_count 15 = .ok (.invokevirtual 233, 3) := by decide +kernel
theorem dX12_count_18 : decode cX12_count 18 = .ok (.iload_n 3, 1) := by decide +kernel
theorem dX12_count_19 : decode cX12_count 19 = .ok (.ireturn, 1) := by decide +kernel
noncomputable def f_X12_count (v1 : Int32) (v2 : Int32) (σ : am_H) : Option (Int32 × am_H) :=
  (f_X12_seen v1 v2 σ).bind fun p1 =>
  if (p1.2.1 12 0 12) = 0 then
   ((f_X12_next p1.2).bind fun p3 =>
   some (p1.1, p3))
  else
  some (p1.1, p1.2)
set_option maxRecDepth 100000 in
set_option maxHeartbeats 4000000 in
theorem q_X12_count {X : am_X} (hX : am_ks X = am_ksM) {Q : Option Value → am_H → Prop} (v1 : Int32) (v2 : Int32) (σ : am_H) {o : Int32 × am_H} (hf : f_X12_count v1 v2 σ = some o) (hk : Q (some (.int o.1)) o.2) : am_G X gm_X12_count Q 0 [(0, .ref (am_ad X 12 0)), (1, .int v1), (2, .int v2)] [] σ := by
  unfold f_X12_count at hf
  refine g_aload_n (pc := 0) 0 rfl dX12_count_0 rfl ?_
  refine g_iload_n (pc := 1) 1 rfl dX12_count_1 rfl ?_
  refine g_iload_n (pc := 2) 2 rfl dX12_count_2 rfl ?_
  obtain ⟨p1, hp1, hf⟩ := am_bd hf
  refine g_cV (pc := 3) (As := [.int v1, .int v2]) (st := []) (st1 := [.int p1.1]) (in_12 hX (by omega)) kk_12 mV_X12_seen ln_X12_243 rfl (Nat.le_of_ble_eq_true rfl) (Nat.le_of_ble_eq_true rfl) (k_X12_seen hX v1 v2 σ hp1) dX12_count_3 rfl rfl ?_
  refine g_istore_n (pc := 6) [(3, .int p1.1), (0, .ref (am_ad X 12 0)), (1, .int v1), (2, .int v2)] dX12_count_6 rfl (Nat.le_of_ble_eq_true rfl) rfl ?_
  refine g_aload_n (pc := 7) 1 rfl dX12_count_7 rfl ?_
  refine g_getI (pc := 8) (in_12 hX (by omega)) fr_X12_223 dX12_count_8 ?_
  refine bz_ne (pc := 11) 18 dX12_count_11 rfl (fun c2 => ?_) (fun c2 => ?_)
  · replace hf := am_ifT c2 hf
    refine g_aload_n (pc := 14) 1 rfl dX12_count_14 rfl ?_
    obtain ⟨p3, hp3, hf⟩ := am_bd hf
    refine g_cV (pc := 15) (As := []) (st := []) (st1 := []) (in_12 hX (by omega)) kk_12 mV_X12_next ln_X12_233 rfl (Nat.le_of_ble_eq_true rfl) (Nat.le_of_ble_eq_true rfl) (k_X12_next hX p1.2 hp3) dX12_count_15 rfl rfl ?_
    refine g_iload_n (pc := 18) 0 rfl dX12_count_18 rfl ?_
    have ho := Option.some.inj hf
    subst ho
    exact g_ireturn (pc := 19) (st := []) rfl dX12_count_19 hk
  replace hf := am_ifF c2 hf
  refine g_iload_n (pc := 18) 0 rfl dX12_count_18 rfl ?_
  have ho := Option.some.inj hf
  subst ho
  exact g_ireturn (pc := 19) (st := []) rfl dX12_count_19 hk
theorem k_X12_count {X : am_X} (hX : am_ks X = am_ksM) (v1 : Int32) (v2 : Int32) (σ : am_H) {o : Int32 × am_H} (hf : f_X12_count v1 v2 σ = some o) : am_C X gm_X12_count [.ref (am_ad X 12 0), .int v1, .int v2] σ (am_is (some (.int o.1)) o.2) :=
  am_ofG rfl (Nat.le_of_ble_eq_true rfl) rfl (q_X12_count hX v1 v2 σ hf ⟨rfl, rfl⟩)
theorem dX12_isNamed_0 : decode cX12_isNamed 0 = .ok (.iconst 0, 1) := by decide +kernel
theorem dX12_isNamed_1 : decode cX12_isNamed 1 = .ok (.istore_n 1, 1) := by decide +kernel
theorem dX12_isNamed_2 : decode cX12_isNamed 2 = .ok (.iload_n 1, 1) := by decide +kernel
theorem dX12_isNamed_3 : decode cX12_isNamed 3 = .ok (.aload_n 0, 1) := by decide +kernel
theorem dX12_isNamed_4 : decode cX12_isNamed 4 = .ok (.getfield 35, 3) := by decide +kernel
theorem dX12_isNamed_7 : decode cX12_isNamed 7 = .ok (.iconst 2, 1) := by decide +kernel
theorem dX12_isNamed_8 : decode cX12_isNamed 8 = .ok (.iaload, 1) := by decide +kernel
theorem dX12_isNamed_9 : decode cX12_isNamed 9 = .ok (.if_icmp .ge 25, 3) := by decide +kernel
theorem dX12_isNamed_12 : decode cX12_isNamed 12 = .ok (.aload_n 0, 1) := by decide +kernel
theorem dX12_isNamed_13 : decode cX12_isNamed 13 = .ok (.getfield 53, 3) := by decide +kernel
theorem dX12_isNamed_16 : decode cX12_isNamed 16 = .ok (.iload_n 1, 1) := by decide +kernel
theorem dX12_isNamed_17 : decode cX12_isNamed 17 = .ok (.laload, 1) := by decide +kernel
theorem dX12_isNamed_18 : decode cX12_isNamed 18 = .ok (.aload_n 0, 1) := by decide +kernel
theorem dX12_isNamed_19 : decode cX12_isNamed 19 = .ok (.getfield 173, 3) := by decide +kernel
theorem dX12_isNamed_22 : decode cX12_isNamed 22 = .ok (.lcmp, 1) := by decide +kernel
theorem dX12_isNamed_23 : decode cX12_isNamed 23 = .ok (.ifCond .ne 5, 3) := by decide +kernel
theorem dX12_isNamed_26 : decode cX12_isNamed 26 = .ok (.iconst 1, 1) := by decide +kernel
theorem dX12_isNamed_27 : decode cX12_isNamed 27 = .ok (.ireturn, 1) := by decide +kernel
theorem dX12_isNamed_28 : decode cX12_isNamed 28 = .ok (.iinc 1 1, 3) := by decide +kernel
theorem dX12_isNamed_31 : decode cX12_isNamed 31 = .ok (.goto (-29), 3) := by decide +kernel
theorem dX12_isNamed_34 : decode cX12_isNamed 34 = .ok (.iconst 0, 1) := by decide +kernel
theorem dX12_isNamed_35 : decode cX12_isNamed 35 = .ok (.ireturn, 1) := by decide +kernel
noncomputable def f_X12_isNamed_2 (v1 : Int32) (σ : am_H) : Option ((Int32) ⊕ ((Unit) ⊕ (Unit))) :=
  (am_ix 3 2).bind fun j1 =>
  if v1 < (σ.1 1320 0 j1) then
   ((am_ix 6 v1).bind fun j3 =>
   if (σ.2.1 1326 0 j3) = (σ.2.1 12 0 19) then
    (some (.inr (.inl ())))
   else
   some (.inl (v1 + 1)))
  else
  some (.inr (.inr ()))
set_option maxRecDepth 100000 in
set_option maxHeartbeats 4000000 in
theorem q_X12_isNamed_2 {X : am_X} (hX : am_ks X = am_ksM) {Q : Option Value → am_H → Prop} (v1 : Int32) (σ : am_H) {o : (Int32) ⊕ ((Unit) ⊕ (Unit))} (hf : f_X12_isNamed_2 v1 σ = some o) (hk0 : ∀ s, o = .inl s → am_G X gm_X12_isNamed Q 2 [(0, .ref (am_ad X 12 0)), (1, .int s)] [] σ) (hk1 : ∀ t, o = .inr (.inl t) → am_G X gm_X12_isNamed Q 26 [] [] σ) (hk2 : ∀ t, o = .inr (.inr t) → am_G X gm_X12_isNamed Q 34 [] [] σ) : am_G X gm_X12_isNamed Q 2 [(0, .ref (am_ad X 12 0)), (1, .int v1)] [] σ := by
  unfold f_X12_isNamed_2 at hf
  refine g_iload_n (pc := 2) 1 rfl dX12_isNamed_2 rfl ?_
  refine g_aload_n (pc := 3) 0 rfl dX12_isNamed_3 rfl ?_
  refine g_getC (pc := 4) (e := 0) (in_12 hX (by omega)) fr_X12_35 dX12_isNamed_4 rfl ?_
  refine g_iconst (pc := 7) (v := 2) dX12_isNamed_7 (by decide) ?_
  obtain ⟨j1, hj1, hf⟩ := am_bd hf
  have gj1 := am_ix_lt hj1
  refine g_aI (pc := 8) (in_1320 hX (by omega)) ak_1320 hj1 dX12_isNamed_8 ?_
  refine bi_ge (pc := 9) 34 dX12_isNamed_9 rfl (fun c2 => ?_) (fun c2 => ?_)
  · replace hf := am_ifT c2 hf
    refine g_aload_n (pc := 12) 0 rfl dX12_isNamed_12 rfl ?_
    refine g_getC (pc := 13) (e := 0) (in_12 hX (by omega)) fr_X12_53 dX12_isNamed_13 rfl ?_
    refine g_iload_n (pc := 16) 1 rfl dX12_isNamed_16 rfl ?_
    obtain ⟨j3, hj3, hf⟩ := am_bd hf
    have gj3 := am_ix_lt hj3
    refine g_aJ (pc := 17) (in_1326 hX (by omega)) ak_1326 hj3 dX12_isNamed_17 ?_
    refine g_aload_n (pc := 18) 0 rfl dX12_isNamed_18 rfl ?_
    refine g_getJ (pc := 19) (in_12 hX (by omega)) fr_X12_173 dX12_isNamed_19 ?_
    refine g_lcm (pc := 22) dX12_isNamed_22 ?_
    refine bl_ne (pc := 23) 28 dX12_isNamed_23 rfl (fun c4 => ?_) (fun c4 => ?_)
    · replace hf := am_ifT c4 hf
      have hz := hk1 _ (Option.some.inj hf).symm
      exact am_sub [] rfl hz
    replace hf := am_ifF c4 hf
    refine g_iinc (pc := 28) (v := (v1 + 1)) 1 [(1, .int (v1 + 1)), (0, .ref (am_ad X 12 0))] dX12_isNamed_28 rfl rfl (Nat.le_of_ble_eq_true rfl) rfl ?_
    refine g_goto (pc := 31) 2 dX12_isNamed_31 rfl ?_
    have hz := hk0 _ (Option.some.inj hf).symm
    exact am_sub [1, 0] rfl hz
  replace hf := am_ifF c2 hf
  have hz := hk2 _ (Option.some.inj hf).symm
  exact am_sub [] rfl hz
set_option maxRecDepth 100000 in
set_option maxHeartbeats 4000000 in
theorem l_X12_isNamed_2 {X : am_X} (hX : am_ks X = am_ksM) {Q : Option Value → am_H → Prop} (σ : am_H) (s : Int32) {o : (Unit) ⊕ (Unit)} (hf : am_loop (fun s => f_X12_isNamed_2 s σ) s = some o) (hk1 : ∀ t, o = (.inl t) → am_G X gm_X12_isNamed Q 26 [] [] σ) (hk2 : ∀ t, o = (.inr t) → am_G X gm_X12_isNamed Q 34 [] [] σ) : am_G X gm_X12_isNamed Q 2 [(0, .ref (am_ad X 12 0)), (1, .int s)] [] σ := by
  refine am_loop_ind (P := fun s => am_G X gm_X12_isNamed Q 2 [(0, .ref (am_ad X 12 0)), (1, .int s)] [] σ) (K := fun r => r = o) ?_ hf rfl
  intro s o1 hb hi hr
  exact q_X12_isNamed_2 hX s  σ hb hi (fun t e => hk1 t (hr _ e).symm) (fun t e => hk2 t (hr _ e).symm)
noncomputable def f_X12_isNamed (σ : am_H) : Option (Bool) :=
  (am_loop (fun s => f_X12_isNamed_2 s σ) 0).bind fun w1 =>
  Sum.elim (fun t1_0 =>
   some true) (fun u1_0 =>
   some false) w1
set_option maxRecDepth 100000 in
set_option maxHeartbeats 4000000 in
theorem q_X12_isNamed {X : am_X} (hX : am_ks X = am_ksM) {Q : Option Value → am_H → Prop} (σ : am_H) {o : Bool} (hf : f_X12_isNamed σ = some o) (hk : Q (some (.int (am_b o))) σ) : am_G X gm_X12_isNamed Q 0 [(0, .ref (am_ad X 12 0))] [] σ := by
  unfold f_X12_isNamed at hf
  refine g_iconst (pc := 0) (v := 0) dX12_isNamed_0 (by decide) ?_
  refine g_istore_n (pc := 1) [(1, .int 0), (0, .ref (am_ad X 12 0))] dX12_isNamed_1 rfl (Nat.le_of_ble_eq_true rfl) rfl ?_
  obtain ⟨w1, hw1, hf⟩ := am_bd hf
  refine am_sub [1, 0] rfl (l_X12_isNamed_2 hX  σ 0 hw1 ?_ ?_)
  · intro t1_0 e
    subst e
    replace hf := am_elL hf
    refine g_iconst (pc := 26) (v := 1) dX12_isNamed_26 (by decide) ?_
    have ho := Option.some.inj hf
    subst ho
    exact g_zreturn (pc := 27) (st := []) (x := true) rfl dX12_isNamed_27 hk
  · intro u1_0 e
    subst e
    replace hf := am_elR hf
    refine g_iconst (pc := 34) (v := 0) dX12_isNamed_34 (by decide) ?_
    have ho := Option.some.inj hf
    subst ho
    exact g_zreturn (pc := 35) (st := []) (x := false) rfl dX12_isNamed_35 hk
theorem k_X12_isNamed {X : am_X} (hX : am_ks X = am_ksM) (σ : am_H) {o : Bool} (hf : f_X12_isNamed σ = some o) : am_C X gm_X12_isNamed [.ref (am_ad X 12 0)] σ (am_is (some (.int (am_b o))) σ) :=
  am_ofG rfl (Nat.le_of_ble_eq_true rfl) rfl (q_X12_isNamed hX σ hf ⟨rfl, rfl⟩)
theorem dX12_cell_0 : decode cX12_cell 0 = .ok (.bipush 54, 2) := by decide +kernel
theorem dX12_cell_2 : decode cX12_cell 2 = .ok (.iload_n 1, 1) := by decide +kernel
theorem dX12_cell_3 : decode cX12_cell 3 = .ok (.imul, 1) := by decide +kernel
theorem dX12_cell_4 : decode cX12_cell 4 = .ok (.bipush 9, 2) := by decide +kernel
theorem dX12_cell_6 : decode cX12_cell 6 = .ok (.iload_n 2, 1) := by decide +kernel
theorem dX12_cell_7 : decode cX12_cell 7 = .ok (.imul, 1) := by decide +kernel
theorem dX12_cell_8 : decode cX12_cell 8 = .ok (.iadd, 1) := by decide +kernel
theorem dX12_cell_9 : decode cX12_cell 9 = .ok (.iload_n 3, 1) := by decide +kernel
theorem dX12_cell_10 : decode cX12_cell 10 = .ok (.iadd, 1) := by decide +kernel
theorem dX12_cell_11 : decode cX12_cell 11 = .ok (.ireturn, 1) := by decide +kernel
noncomputable def f_X12_cell (v1 : Int32) (v2 : Int32) (v3 : Int32) (σ : am_H) : Option (Int32) :=
  some (((54 * v1) + (9 * v2)) + v3)
set_option maxRecDepth 100000 in
set_option maxHeartbeats 4000000 in
theorem q_X12_cell {X : am_X} (hX : am_ks X = am_ksM) {Q : Option Value → am_H → Prop} (v1 : Int32) (v2 : Int32) (v3 : Int32) (σ : am_H) {o : Int32} (hf : f_X12_cell v1 v2 v3 σ = some o) (hk : Q (some (.int o)) σ) : am_G X gm_X12_cell Q 0 [(0, .ref (am_ad X 12 0)), (1, .int v1), (2, .int v2), (3, .int v3)] [] σ := by
  unfold f_X12_cell at hf
  refine g_bipush (pc := 0) (v := 54) dX12_cell_0 (by decide) ?_
  refine g_iload_n (pc := 2) 1 rfl dX12_cell_2 rfl ?_
  refine g_imul (pc := 3) dX12_cell_3 ?_
  refine g_bipush (pc := 4) (v := 9) dX12_cell_4 (by decide) ?_
  refine g_iload_n (pc := 6) 2 rfl dX12_cell_6 rfl ?_
  refine g_imul (pc := 7) dX12_cell_7 ?_
  refine g_iadd (pc := 8) dX12_cell_8 ?_
  refine g_iload_n (pc := 9) 3 rfl dX12_cell_9 rfl ?_
  refine g_iadd (pc := 10) dX12_cell_10 ?_
  have ho := Option.some.inj hf
  subst ho
  exact g_ireturn (pc := 11) (st := []) rfl dX12_cell_11 hk
theorem k_X12_cell {X : am_X} (hX : am_ks X = am_ksM) (v1 : Int32) (v2 : Int32) (v3 : Int32) (σ : am_H) {o : Int32} (hf : f_X12_cell v1 v2 v3 σ = some o) : am_C X gm_X12_cell [.ref (am_ad X 12 0), .int v1, .int v2, .int v3] σ (am_is (some (.int o)) σ) :=
  am_ofG rfl (Nat.le_of_ble_eq_true rfl) rfl (q_X12_cell hX v1 v2 v3 σ hf ⟨rfl, rfl⟩)
theorem dX12_readTrain_0 : decode cX12_readTrain 0 = .ok (.aload_n 0, 1) := by decide +kernel
theorem dX12_readTrain_1 : decode cX12_readTrain 1 = .ok (.getfield 47, 3) := by decide +kernel
theorem dX12_readTrain_4 : decode cX12_readTrain 4 = .ok (.aload_n 0, 1) := by decide +kernel
theorem dX12_readTrain_5 : decode cX12_readTrain 5 = .ok (.iconst 2, 1) := by decide +kernel
theorem dX12_readTrain_6 : decode cX12_readTrain 6 = .ok (.iload_n 1, 1) := by decide +kernel
theorem dX12_readTrain_7 : decode cX12_readTrain 7 = .ok (.iconst 4, 1) := by decide +kernel
theorem dX12_readTrain_8 : decode cX12_readTrain 8 = .ok (.invokevirtual 252, 3) := by decide +kernel
theorem dX12_readTrain_11 : decode cX12_readTrain 11 = .ok (.iconst 1, 1) := by decide +kernel
theorem dX12_readTrain_12 : decode cX12_readTrain 12 = .ok (.iastore, 1) := by decide +kernel
theorem dX12_readTrain_13 : decode cX12_readTrain 13 = .ok (.aload_n 0, 1) := by decide +kernel
theorem dX12_readTrain_14 : decode cX12_readTrain 14 = .ok (.getfield 47, 3) := by decide +kernel
theorem dX12_readTrain_17 : decode cX12_readTrain 17 = .ok (.aload_n 0, 1) := by decide +kernel
theorem dX12_readTrain_18 : decode cX12_readTrain 18 = .ok (.iconst 2, 1) := by decide +kernel
theorem dX12_readTrain_19 : decode cX12_readTrain 19 = .ok (.iload_n 1, 1) := by decide +kernel
theorem dX12_readTrain_20 : decode cX12_readTrain 20 = .ok (.iconst 5, 1) := by decide +kernel
theorem dX12_readTrain_21 : decode cX12_readTrain 21 = .ok (.invokevirtual 252, 3) := by decide +kernel
theorem dX12_readTrain_24 : decode cX12_readTrain 24 = .ok (.aload_n 0, 1) := by decide +kernel
theorem dX12_readTrain_25 : decode cX12_readTrain 25 = .ok (.iconst 5, 1) := by decide +kernel
theorem dX12_readTrain_26 : decode cX12_readTrain 26 = .ok (.sipush 200, 3) := by decide +kernel
theorem dX12_readTrain_29 : decode cX12_readTrain 29 = .ok (.invokevirtual 260, 3) := by decide +kernel
theorem dX12_readTrain_32 : decode cX12_readTrain 32 = .ok (.iastore, 1) := by decide +kernel
theorem dX12_readTrain_33 : decode cX12_readTrain 33 = .ok (.aload_n 0, 1) := by decide +kernel
theorem dX12_readTrain_34 : decode cX12_readTrain 34 = .ok (.getfield 47, 3) := by decide +kernel
theorem dX12_readTrain_37 : decode cX12_readTrain 37 = .ok (.aload_n 0, 1) := by decide +kernel
theorem dX12_readTrain_38 : decode cX12_readTrain 38 = .ok (.iconst 2, 1) := by decide +kernel
theorem dX12_readTrain_39 : decode cX12_readTrain 39 = .ok (.iload_n 1, 1) := by decide +kernel
theorem dX12_readTrain_40 : decode cX12_readTrain 40 = .ok (.bipush 6, 2) := by decide +kernel
theorem dX12_readTrain_42 : decode cX12_readTrain 42 = .ok (.invokevirtual 252, 3) := by decide +kernel
theorem dX12_readTrain_45 : decode cX12_readTrain 45 = .ok (.aload_n 0, 1) := by decide +kernel
theorem dX12_readTrain_46 : decode cX12_readTrain 46 = .ok (.iconst 5, 1) := by decide +kernel
theorem dX12_readTrain_47 : decode cX12_readTrain 47 = .ok (.sipush 200, 3) := by decide +kernel
theorem dX12_readTrain_50 : decode cX12_readTrain 50 = .ok (.invokevirtual 260, 3) := by decide +kernel
theorem dX12_readTrain_53 : decode cX12_readTrain 53 = .ok (.iastore, 1) := by decide +kernel
theorem dX12_readTrain_54 : decode cX12_readTrain 54 = .ok (.aload_n 0, 1) := by decide +kernel
theorem dX12_readTrain_55 : decode cX12_readTrain 55 = .ok (.getfield 223, 3) := by decide +kernel
theorem dX12_readTrain_58 : decode cX12_readTrain 58 = .ok (.ifCond .gt 11, 3) := by decide +kernel
theorem dX12_readTrain_61 : decode cX12_readTrain 61 = .ok (.aload_n 0, 1) := by decide +kernel
theorem dX12_readTrain_62 : decode cX12_readTrain 62 = .ok (.getfield 167, 3) := by decide +kernel
theorem dX12_readTrain_65 : decode cX12_readTrain 65 = .ok (.iconst 2, 1) := by decide +kernel
theorem dX12_readTrain_66 : decode cX12_readTrain 66 = .ok (.if_icmp .eq 4, 3) := by decide +kernel
theorem dX12_readTrain_69 : decode cX12_readTrain 69 = .ok (.return_, 1) := by decide +kernel
theorem dX12_readTrain_70 : decode cX12_readTrain 70 = .ok (.aload_n 0, 1) := by decide +kernel
theorem dX12_readTrain_71 : decode cX12_readTrain 71 = .ok (.getfield 47, 3) := by decide +kernel
theorem dX12_readTrain_74 : decode cX12_readTrain 74 = .ok (.aload_n 0, 1) := by decide +kernel
theorem dX12_readTrain_75 : decode cX12_readTrain 75 = .ok (.iconst 2, 1) := by decide +kernel
theorem dX12_readTrain_76 : decode cX12_readTrain 76 = .ok (.iload_n 1, 1) := by decide +kernel
theorem dX12_readTrain_77 : decode cX12_readTrain 77 = .ok (.iconst 4, 1) := by decide +kernel
theorem dX12_readTrain_78 : decode cX12_readTrain 78 = .ok (.invokevirtual 252, 3) := by decide +kernel
theorem dX12_readTrain_81 : decode cX12_readTrain 81 = .ok (.iconst 2, 1) := by decide +kernel
theorem dX12_readTrain_82 : decode cX12_readTrain 82 = .ok (.iastore, 1) := by decide +kernel
theorem dX12_readTrain_83 : decode cX12_readTrain 83 = .ok (.aload_n 0, 1) := by decide +kernel
theorem dX12_readTrain_84 : decode cX12_readTrain 84 = .ok (.getfield 47, 3) := by decide +kernel
theorem dX12_readTrain_87 : decode cX12_readTrain 87 = .ok (.aload_n 0, 1) := by decide +kernel
theorem dX12_readTrain_88 : decode cX12_readTrain 88 = .ok (.iconst 2, 1) := by decide +kernel
theorem dX12_readTrain_89 : decode cX12_readTrain 89 = .ok (.iload_n 1, 1) := by decide +kernel
theorem dX12_readTrain_90 : decode cX12_readTrain 90 = .ok (.bipush 7, 2) := by decide +kernel
theorem dX12_readTrain_92 : decode cX12_readTrain 92 = .ok (.invokevirtual 252, 3) := by decide +kernel
theorem dX12_readTrain_95 : decode cX12_readTrain 95 = .ok (.aload_n 0, 1) := by decide +kernel
theorem dX12_readTrain_96 : decode cX12_readTrain 96 = .ok (.iconst 5, 1) := by decide +kernel
theorem dX12_readTrain_97 : decode cX12_readTrain 97 = .ok (.sipush 200, 3) := by decide +kernel
theorem dX12_readTrain_100 : decode cX12_readTrain 100 = .ok (.invokevirtual 260, 3) := by decide +kernel
theorem dX12_readTrain_103 : decode cX12_readTrain 103 = .ok (.iastore, 1) := by decide +kernel
theorem dX12_readTrain_104 : decode cX12_readTrain 104 = .ok (.aload_n 0, 1) := by decide +kernel
theorem dX12_readTrain_105 : decode cX12_readTrain 105 = .ok (.getfield 47, 3) := by decide +kernel
theorem dX12_readTrain_108 : decode cX12_readTrain 108 = .ok (.aload_n 0, 1) := by decide +kernel
theorem dX12_readTrain_109 : decode cX12_readTrain 109 = .ok (.iconst 2, 1) := by decide +kernel
theorem dX12_readTrain_110 : decode cX12_readTrain 110 = .ok (.iload_n 1, 1) := by decide +kernel
theorem dX12_readTrain_111 : decode cX12_readTrain 111 = .ok (.bipush 8, 2) := by decide +kernel
theorem dX12_readTrain_113 : decode cX12_readTrain 113 = .ok (.invokevirtual 252, 3) := by decide +kernel
theorem dX12_readTrain_116 : decode cX12_readTrain 116 = .ok (.aload_n 0, 1) := by decide +kernel
theorem dX12_readTrain_117 : decode cX12_readTrain 117 = .ok (.iconst 5, 1) := by decide +kernel
theorem dX12_readTrain_118 : decode cX12_readTrain 118 = .ok (.sipush 200, 3) := by decide +kernel
theorem dX12_readTrain_121 : decode cX12_readTrain 121 = .ok (.invokevirtual 260, 3) := by decide +kernel
theorem dX12_readTrain_124 : decode cX12_readTrain 124 = .ok (.iastore, 1) := by decide +kernel
theorem dX12_readTrain_125 : decode cX12_readTrain 125 = .ok (.return_, 1) := by decide +kernel
noncomputable def f_X12_readTrain (v1 : Int32) (σ : am_H) : Option (am_H) :=
  (f_X12_cell 2 v1 4 σ).bind fun p1 =>
  (am_ix 162 p1).bind fun j2 =>
  (some (am_wI σ 1324 0 j2 1)).bind fun s3 =>
  (f_X12_cell 2 v1 5 s3).bind fun p4 =>
  (f_X12_count 5 200 s3).bind fun p5 =>
  (am_ix 162 p4).bind fun j6 =>
  (some (am_wI p5.2 1324 0 j6 p5.1)).bind fun s7 =>
  (f_X12_cell 2 v1 6 s7).bind fun p8 =>
  (f_X12_count 5 200 s7).bind fun p9 =>
  (am_ix 162 p8).bind fun j10 =>
  (some (am_wI p9.2 1324 0 j10 p9.1)).bind fun s11 =>
  if 0 < (s11.1 12 0 12) then
   (some s11)
  else
  if (s11.1 12 0 14) = 2 then
   ((f_X12_cell 2 v1 4 s11).bind fun p14 =>
   (am_ix 162 p14).bind fun j15 =>
   (some (am_wI s11 1324 0 j15 2)).bind fun s16 =>
   (f_X12_cell 2 v1 7 s16).bind fun p17 =>
   (f_X12_count 5 200 s16).bind fun p18 =>
   (am_ix 162 p17).bind fun j19 =>
   (some (am_wI p18.2 1324 0 j19 p18.1)).bind fun s20 =>
   (f_X12_cell 2 v1 8 s20).bind fun p21 =>
   (f_X12_count 5 200 s20).bind fun p22 =>
   (am_ix 162 p21).bind fun j23 =>
   (some (am_wI p22.2 1324 0 j23 p22.1)).bind fun s24 =>
   some s24)
  else
  some s11
set_option maxRecDepth 100000 in
set_option maxHeartbeats 4000000 in
theorem q_X12_readTrain {X : am_X} (hX : am_ks X = am_ksM) {Q : Option Value → am_H → Prop} (v1 : Int32) (σ : am_H) {o : am_H} (hf : f_X12_readTrain v1 σ = some o) (hk : Q none o) : am_G X gm_X12_readTrain Q 0 [(0, .ref (am_ad X 12 0)), (1, .int v1)] [] σ := by
  unfold f_X12_readTrain at hf
  refine g_aload_n (pc := 0) 0 rfl dX12_readTrain_0 rfl ?_
  refine g_getC (pc := 1) (e := 0) (in_12 hX (by omega)) fr_X12_47 dX12_readTrain_1 rfl ?_
  refine g_aload_n (pc := 4) 0 rfl dX12_readTrain_4 rfl ?_
  refine g_iconst (pc := 5) (v := 2) dX12_readTrain_5 (by decide) ?_
  refine g_iload_n (pc := 6) 1 rfl dX12_readTrain_6 rfl ?_
  refine g_iconst (pc := 7) (v := 4) dX12_readTrain_7 (by decide) ?_
  obtain ⟨p1, hp1, hf⟩ := am_bd hf
  refine g_cV (pc := 8) (As := [.int 2, .int v1, .int 4]) (st := [.ref (am_ad X 1324 0)]) (st1 := [.int p1, .ref (am_ad X 1324 0)]) (in_12 hX (by omega)) kk_12 mV_X12_cell ln_X12_252 rfl (Nat.le_of_ble_eq_true rfl) (Nat.le_of_ble_eq_true rfl) (k_X12_cell hX 2 v1 4 σ hp1) dX12_readTrain_8 rfl rfl ?_
  refine g_iconst (pc := 11) (v := 1) dX12_readTrain_11 (by decide) ?_
  obtain ⟨j2, hj2, hf⟩ := am_bd hf
  have gj2 := am_ix_lt hj2
  obtain ⟨s3, hs3, hf⟩ := am_bd hf
  refine g_sI (pc := 12) (in_1324 hX (by omega)) ak_1324 hj2 dX12_readTrain_12 (Option.some.inj hs3) ?_
  refine g_aload_n (pc := 13) 0 rfl dX12_readTrain_13 rfl ?_
  refine g_getC (pc := 14) (e := 0) (in_12 hX (by omega)) fr_X12_47 dX12_readTrain_14 rfl ?_
  refine g_aload_n (pc := 17) 0 rfl dX12_readTrain_17 rfl ?_
  refine g_iconst (pc := 18) (v := 2) dX12_readTrain_18 (by decide) ?_
  refine g_iload_n (pc := 19) 1 rfl dX12_readTrain_19 rfl ?_
  refine g_iconst (pc := 20) (v := 5) dX12_readTrain_20 (by decide) ?_
  obtain ⟨p4, hp4, hf⟩ := am_bd hf
  refine g_cV (pc := 21) (As := [.int 2, .int v1, .int 5]) (st := [.ref (am_ad X 1324 0)]) (st1 := [.int p4, .ref (am_ad X 1324 0)]) (in_12 hX (by omega)) kk_12 mV_X12_cell ln_X12_252 rfl (Nat.le_of_ble_eq_true rfl) (Nat.le_of_ble_eq_true rfl) (k_X12_cell hX 2 v1 5 s3 hp4) dX12_readTrain_21 rfl rfl ?_
  refine g_aload_n (pc := 24) 0 rfl dX12_readTrain_24 rfl ?_
  refine g_iconst (pc := 25) (v := 5) dX12_readTrain_25 (by decide) ?_
  refine g_sipush (pc := 26) (v := 200) dX12_readTrain_26 (by decide) ?_
  obtain ⟨p5, hp5, hf⟩ := am_bd hf
  refine g_cV (pc := 29) (As := [.int 5, .int 200]) (st := [.int p4, .ref (am_ad X 1324 0)]) (st1 := [.int p5.1, .int p4, .ref (am_ad X 1324 0)]) (in_12 hX (by omega)) kk_12 mV_X12_count ln_X12_260 rfl (Nat.le_of_ble_eq_true rfl) (Nat.le_of_ble_eq_true rfl) (k_X12_count hX 5 200 s3 hp5) dX12_readTrain_29 rfl rfl ?_
  obtain ⟨j6, hj6, hf⟩ := am_bd hf
  have gj6 := am_ix_lt hj6
  obtain ⟨s7, hs7, hf⟩ := am_bd hf
  refine g_sI (pc := 32) (in_1324 hX (by omega)) ak_1324 hj6 dX12_readTrain_32 (Option.some.inj hs7) ?_
  refine g_aload_n (pc := 33) 0 rfl dX12_readTrain_33 rfl ?_
  refine g_getC (pc := 34) (e := 0) (in_12 hX (by omega)) fr_X12_47 dX12_readTrain_34 rfl ?_
  refine g_aload_n (pc := 37) 0 rfl dX12_readTrain_37 rfl ?_
  refine g_iconst (pc := 38) (v := 2) dX12_readTrain_38 (by decide) ?_
  refine g_iload_n (pc := 39) 1 rfl dX12_readTrain_39 rfl ?_
  refine g_bipush (pc := 40) (v := 6) dX12_readTrain_40 (by decide) ?_
  obtain ⟨p8, hp8, hf⟩ := am_bd hf
  refine g_cV (pc := 42) (As := [.int 2, .int v1, .int 6]) (st := [.ref (am_ad X 1324 0)]) (st1 := [.int p8, .ref (am_ad X 1324 0)]) (in_12 hX (by omega)) kk_12 mV_X12_cell ln_X12_252 rfl (Nat.le_of_ble_eq_true rfl) (Nat.le_of_ble_eq_true rfl) (k_X12_cell hX 2 v1 6 s7 hp8) dX12_readTrain_42 rfl rfl ?_
  refine g_aload_n (pc := 45) 0 rfl dX12_readTrain_45 rfl ?_
  refine g_iconst (pc := 46) (v := 5) dX12_readTrain_46 (by decide) ?_
  refine g_sipush (pc := 47) (v := 200) dX12_readTrain_47 (by decide) ?_
  obtain ⟨p9, hp9, hf⟩ := am_bd hf
  refine g_cV (pc := 50) (As := [.int 5, .int 200]) (st := [.int p8, .ref (am_ad X 1324 0)]) (st1 := [.int p9.1, .int p8, .ref (am_ad X 1324 0)]) (in_12 hX (by omega)) kk_12 mV_X12_count ln_X12_260 rfl (Nat.le_of_ble_eq_true rfl) (Nat.le_of_ble_eq_true rfl) (k_X12_count hX 5 200 s7 hp9) dX12_readTrain_50 rfl rfl ?_
  obtain ⟨j10, hj10, hf⟩ := am_bd hf
  have gj10 := am_ix_lt hj10
  obtain ⟨s11, hs11, hf⟩ := am_bd hf
  refine g_sI (pc := 53) (in_1324 hX (by omega)) ak_1324 hj10 dX12_readTrain_53 (Option.some.inj hs11) ?_
  refine g_aload_n (pc := 54) 0 rfl dX12_readTrain_54 rfl ?_
  refine g_getI (pc := 55) (in_12 hX (by omega)) fr_X12_223 dX12_readTrain_55 ?_
  refine bz_gt (pc := 58) 69 dX12_readTrain_58 rfl (fun c12 => ?_) (fun c12 => ?_)
  · replace hf := am_ifT c12 hf
    have ho := Option.some.inj hf
    subst ho
    exact g_vreturn (pc := 69) (st := []) rfl dX12_readTrain_69 hk
  replace hf := am_ifF c12 hf
  refine g_aload_n (pc := 61) 0 rfl dX12_readTrain_61 rfl ?_
  refine g_getI (pc := 62) (in_12 hX (by omega)) fr_X12_167 dX12_readTrain_62 ?_
  refine g_iconst (pc := 65) (v := 2) dX12_readTrain_65 (by decide) ?_
  refine bi_eq (pc := 66) 70 dX12_readTrain_66 rfl (fun c13 => ?_) (fun c13 => ?_)
  · replace hf := am_ifT c13 hf
    refine g_aload_n (pc := 70) 0 rfl dX12_readTrain_70 rfl ?_
    refine g_getC (pc := 71) (e := 0) (in_12 hX (by omega)) fr_X12_47 dX12_readTrain_71 rfl ?_
    refine g_aload_n (pc := 74) 0 rfl dX12_readTrain_74 rfl ?_
    refine g_iconst (pc := 75) (v := 2) dX12_readTrain_75 (by decide) ?_
    refine g_iload_n (pc := 76) 1 rfl dX12_readTrain_76 rfl ?_
    refine g_iconst (pc := 77) (v := 4) dX12_readTrain_77 (by decide) ?_
    obtain ⟨p14, hp14, hf⟩ := am_bd hf
    refine g_cV (pc := 78) (As := [.int 2, .int v1, .int 4]) (st := [.ref (am_ad X 1324 0)]) (st1 := [.int p14, .ref (am_ad X 1324 0)]) (in_12 hX (by omega)) kk_12 mV_X12_cell ln_X12_252 rfl (Nat.le_of_ble_eq_true rfl) (Nat.le_of_ble_eq_true rfl) (k_X12_cell hX 2 v1 4 s11 hp14) dX12_readTrain_78 rfl rfl ?_
    refine g_iconst (pc := 81) (v := 2) dX12_readTrain_81 (by decide) ?_
    obtain ⟨j15, hj15, hf⟩ := am_bd hf
    have gj15 := am_ix_lt hj15
    obtain ⟨s16, hs16, hf⟩ := am_bd hf
    refine g_sI (pc := 82) (in_1324 hX (by omega)) ak_1324 hj15 dX12_readTrain_82 (Option.some.inj hs16) ?_
    refine g_aload_n (pc := 83) 0 rfl dX12_readTrain_83 rfl ?_
    refine g_getC (pc := 84) (e := 0) (in_12 hX (by omega)) fr_X12_47 dX12_readTrain_84 rfl ?_
    refine g_aload_n (pc := 87) 0 rfl dX12_readTrain_87 rfl ?_
    refine g_iconst (pc := 88) (v := 2) dX12_readTrain_88 (by decide) ?_
    refine g_iload_n (pc := 89) 1 rfl dX12_readTrain_89 rfl ?_
    refine g_bipush (pc := 90) (v := 7) dX12_readTrain_90 (by decide) ?_
    obtain ⟨p17, hp17, hf⟩ := am_bd hf
    refine g_cV (pc := 92) (As := [.int 2, .int v1, .int 7]) (st := [.ref (am_ad X 1324 0)]) (st1 := [.int p17, .ref (am_ad X 1324 0)]) (in_12 hX (by omega)) kk_12 mV_X12_cell ln_X12_252 rfl (Nat.le_of_ble_eq_true rfl) (Nat.le_of_ble_eq_true rfl) (k_X12_cell hX 2 v1 7 s16 hp17) dX12_readTrain_92 rfl rfl ?_
    refine g_aload_n (pc := 95) 0 rfl dX12_readTrain_95 rfl ?_
    refine g_iconst (pc := 96) (v := 5) dX12_readTrain_96 (by decide) ?_
    refine g_sipush (pc := 97) (v := 200) dX12_readTrain_97 (by decide) ?_
    obtain ⟨p18, hp18, hf⟩ := am_bd hf
    refine g_cV (pc := 100) (As := [.int 5, .int 200]) (st := [.int p17, .ref (am_ad X 1324 0)]) (st1 := [.int p18.1, .int p17, .ref (am_ad X 1324 0)]) (in_12 hX (by omega)) kk_12 mV_X12_count ln_X12_260 rfl (Nat.le_of_ble_eq_true rfl) (Nat.le_of_ble_eq_true rfl) (k_X12_count hX 5 200 s16 hp18) dX12_readTrain_100 rfl rfl ?_
    obtain ⟨j19, hj19, hf⟩ := am_bd hf
    have gj19 := am_ix_lt hj19
    obtain ⟨s20, hs20, hf⟩ := am_bd hf
    refine g_sI (pc := 103) (in_1324 hX (by omega)) ak_1324 hj19 dX12_readTrain_103 (Option.some.inj hs20) ?_
    refine g_aload_n (pc := 104) 0 rfl dX12_readTrain_104 rfl ?_
    refine g_getC (pc := 105) (e := 0) (in_12 hX (by omega)) fr_X12_47 dX12_readTrain_105 rfl ?_
    refine g_aload_n (pc := 108) 0 rfl dX12_readTrain_108 rfl ?_
    refine g_iconst (pc := 109) (v := 2) dX12_readTrain_109 (by decide) ?_
    refine g_iload_n (pc := 110) 1 rfl dX12_readTrain_110 rfl ?_
    refine g_bipush (pc := 111) (v := 8) dX12_readTrain_111 (by decide) ?_
    obtain ⟨p21, hp21, hf⟩ := am_bd hf
    refine g_cV (pc := 113) (As := [.int 2, .int v1, .int 8]) (st := [.ref (am_ad X 1324 0)]) (st1 := [.int p21, .ref (am_ad X 1324 0)]) (in_12 hX (by omega)) kk_12 mV_X12_cell ln_X12_252 rfl (Nat.le_of_ble_eq_true rfl) (Nat.le_of_ble_eq_true rfl) (k_X12_cell hX 2 v1 8 s20 hp21) dX12_readTrain_113 rfl rfl ?_
    refine g_aload_n (pc := 116) 0 rfl dX12_readTrain_116 rfl ?_
    refine g_iconst (pc := 117) (v := 5) dX12_readTrain_117 (by decide) ?_
    refine g_sipush (pc := 118) (v := 200) dX12_readTrain_118 (by decide) ?_
    obtain ⟨p22, hp22, hf⟩ := am_bd hf
    refine g_cV (pc := 121) (As := [.int 5, .int 200]) (st := [.int p21, .ref (am_ad X 1324 0)]) (st1 := [.int p22.1, .int p21, .ref (am_ad X 1324 0)]) (in_12 hX (by omega)) kk_12 mV_X12_count ln_X12_260 rfl (Nat.le_of_ble_eq_true rfl) (Nat.le_of_ble_eq_true rfl) (k_X12_count hX 5 200 s20 hp22) dX12_readTrain_121 rfl rfl ?_
    obtain ⟨j23, hj23, hf⟩ := am_bd hf
    have gj23 := am_ix_lt hj23
    obtain ⟨s24, hs24, hf⟩ := am_bd hf
    refine g_sI (pc := 124) (in_1324 hX (by omega)) ak_1324 hj23 dX12_readTrain_124 (Option.some.inj hs24) ?_
    have ho := Option.some.inj hf
    subst ho
    exact g_vreturn (pc := 125) (st := []) rfl dX12_readTrain_125 hk
  replace hf := am_ifF c13 hf
  have ho := Option.some.inj hf
  subst ho
  exact g_vreturn (pc := 69) (st := []) rfl dX12_readTrain_69 hk
theorem k_X12_readTrain {X : am_X} (hX : am_ks X = am_ksM) (v1 : Int32) (σ : am_H) {o : am_H} (hf : f_X12_readTrain v1 σ = some o) : am_C X gm_X12_readTrain [.ref (am_ad X 12 0), .int v1] σ (am_is none o) :=
  am_ofG rfl (Nat.le_of_ble_eq_true rfl) rfl (q_X12_readTrain hX v1 σ hf ⟨rfl, rfl⟩)
theorem dX12_readWave_0 : decode cX12_readWave 0 = .ok (.aload_n 0, 1) := by decide +kernel
theorem dX12_readWave_1 : decode cX12_readWave 1 = .ok (.invokevirtual 233, 3) := by decide +kernel
theorem dX12_readWave_4 : decode cX12_readWave 4 = .ok (.aload_n 0, 1) := by decide +kernel
theorem dX12_readWave_5 : decode cX12_readWave 5 = .ok (.invokevirtual 246, 3) := by decide +kernel
theorem dX12_readWave_8 : decode cX12_readWave 8 = .ok (.ifCond .ne 7, 3) := by decide +kernel
theorem dX12_readWave_11 : decode cX12_readWave 11 = .ok (.aload_n 0, 1) := by decide +kernel
theorem dX12_readWave_12 : decode cX12_readWave 12 = .ok (.invokevirtual 236, 3) := by decide +kernel
theorem dX12_readWave_15 : decode cX12_readWave 15 = .ok (.aload_n 0, 1) := by decide +kernel
theorem dX12_readWave_16 : decode cX12_readWave 16 = .ok (.getfield 223, 3) := by decide +kernel
theorem dX12_readWave_19 : decode cX12_readWave 19 = .ok (.ifCond .ne 19, 3) := by decide +kernel
theorem dX12_readWave_22 : decode cX12_readWave 22 = .ok (.aload_n 0, 1) := by decide +kernel
theorem dX12_readWave_23 : decode cX12_readWave 23 = .ok (.invokevirtual 249, 3) := by decide +kernel
theorem dX12_readWave_26 : decode cX12_readWave 26 = .ok (.ifCond .eq 12, 3) := by decide +kernel
theorem dX12_readWave_29 : decode cX12_readWave 29 = .ok (.aload_n 0, 1) := by decide +kernel
theorem dX12_readWave_30 : decode cX12_readWave 30 = .ok (.iconst 3, 1) := by decide +kernel
theorem dX12_readWave_31 : decode cX12_readWave 31 = .ok (.aload_n 0, 1) := by decide +kernel
theorem dX12_readWave_32 : decode cX12_readWave 32 = .ok (.getfield 161, 3) := by decide +kernel
theorem dX12_readWave_35 : decode cX12_readWave 35 = .ok (.invokevirtual 229, 3) := by decide +kernel
theorem dX12_readWave_38 : decode cX12_readWave 38 = .ok (.aload_n 0, 1) := by decide +kernel
theorem dX12_readWave_39 : decode cX12_readWave 39 = .ok (.getfield 223, 3) := by decide +kernel
theorem dX12_readWave_42 : decode cX12_readWave 42 = .ok (.ifCond .ne 24, 3) := by decide +kernel
theorem dX12_readWave_45 : decode cX12_readWave 45 = .ok (.aload_n 0, 1) := by decide +kernel
theorem dX12_readWave_46 : decode cX12_readWave 46 = .ok (.getfield 35, 3) := by decide +kernel
theorem dX12_readWave_49 : decode cX12_readWave 49 = .ok (.iconst 2, 1) := by decide +kernel
theorem dX12_readWave_50 : decode cX12_readWave 50 = .ok (.iaload, 1) := by decide +kernel
theorem dX12_readWave_51 : decode cX12_readWave 51 = .ok (.bipush 6, 2) := by decide +kernel
theorem dX12_readWave_53 : decode cX12_readWave 53 = .ok (.if_icmp .ne 13, 3) := by decide +kernel
theorem dX12_readWave_56 : decode cX12_readWave 56 = .ok (.aload_n 0, 1) := by decide +kernel
theorem dX12_readWave_57 : decode cX12_readWave 57 = .ok (.bipush 6, 2) := by decide +kernel
theorem dX12_readWave_59 : decode cX12_readWave 59 = .ok (.aload_n 0, 1) := by decide +kernel
theorem dX12_readWave_60 : decode cX12_readWave 60 = .ok (.getfield 161, 3) := by decide +kernel
theorem dX12_readWave_63 : decode cX12_readWave 63 = .ok (.invokevirtual 229, 3) := by decide +kernel
theorem dX12_readWave_66 : decode cX12_readWave 66 = .ok (.aload_n 0, 1) := by decide +kernel
theorem dX12_readWave_67 : decode cX12_readWave 67 = .ok (.getfield 223, 3) := by decide +kernel
theorem dX12_readWave_70 : decode cX12_readWave 70 = .ok (.ifCond .le 4, 3) := by decide +kernel
theorem dX12_readWave_73 : decode cX12_readWave 73 = .ok (.return_, 1) := by decide +kernel
theorem dX12_readWave_74 : decode cX12_readWave 74 = .ok (.aload_n 0, 1) := by decide +kernel
theorem dX12_readWave_75 : decode cX12_readWave 75 = .ok (.getfield 35, 3) := by decide +kernel
theorem dX12_readWave_78 : decode cX12_readWave 78 = .ok (.iconst 2, 1) := by decide +kernel
theorem dX12_readWave_79 : decode cX12_readWave 79 = .ok (.iaload, 1) := by decide +kernel
theorem dX12_readWave_80 : decode cX12_readWave 80 = .ok (.istore_n 1, 1) := by decide +kernel
theorem dX12_readWave_81 : decode cX12_readWave 81 = .ok (.aload_n 0, 1) := by decide +kernel
theorem dX12_readWave_82 : decode cX12_readWave 82 = .ok (.getfield 53, 3) := by decide +kernel
theorem dX12_readWave_85 : decode cX12_readWave 85 = .ok (.iload_n 1, 1) := by decide +kernel
theorem dX12_readWave_86 : decode cX12_readWave 86 = .ok (.aload_n 0, 1) := by decide +kernel
theorem dX12_readWave_87 : decode cX12_readWave 87 = .ok (.getfield 173, 3) := by decide +kernel
theorem dX12_readWave_90 : decode cX12_readWave 90 = .ok (.lastore, 1) := by decide +kernel
theorem dX12_readWave_91 : decode cX12_readWave 91 = .ok (.iconst 0, 1) := by decide +kernel
theorem dX12_readWave_92 : decode cX12_readWave 92 = .ok (.istore_n 2, 1) := by decide +kernel
theorem dX12_readWave_93 : decode cX12_readWave 93 = .ok (.iload_n 2, 1) := by decide +kernel
theorem dX12_readWave_94 : decode cX12_readWave 94 = .ok (.bipush 9, 2) := by decide +kernel
theorem dX12_readWave_96 : decode cX12_readWave 96 = .ok (.if_icmp .ge 31, 3) := by decide +kernel
theorem dX12_readWave_99 : decode cX12_readWave 99 = .ok (.aload_n 0, 1) := by decide +kernel
theorem dX12_readWave_100 : decode cX12_readWave 100 = .ok (.getfield 47, 3) := by decide +kernel
theorem dX12_readWave_103 : decode cX12_readWave 103 = .ok (.aload_n 0, 1) := by decide +kernel
theorem dX12_readWave_104 : decode cX12_readWave 104 = .ok (.iconst 2, 1) := by decide +kernel
theorem dX12_readWave_105 : decode cX12_readWave 105 = .ok (.iload_n 1, 1) := by decide +kernel
theorem dX12_readWave_106 : decode cX12_readWave 106 = .ok (.iload_n 2, 1) := by decide +kernel
theorem dX12_readWave_107 : decode cX12_readWave 107 = .ok (.invokevirtual 252, 3) := by decide +kernel
theorem dX12_readWave_110 : decode cX12_readWave 110 = .ok (.iload_n 2, 1) := by decide +kernel
theorem dX12_readWave_111 : decode cX12_readWave 111 = .ok (.iconst 4, 1) := by decide +kernel
theorem dX12_readWave_112 : decode cX12_readWave 112 = .ok (.if_icmp .le 7, 3) := by decide +kernel
theorem dX12_readWave_115 : decode cX12_readWave 115 = .ok (.iconst 1, 1) := by decide +kernel
theorem dX12_readWave_116 : decode cX12_readWave 116 = .ok (.goto 4, 3) := by decide +kernel
theorem dX12_readWave_119 : decode cX12_readWave 119 = .ok (.iconst 0, 1) := by decide +kernel
theorem dX12_readWave_120 : decode cX12_readWave 120 = .ok (.iastore, 1) := by decide +kernel
theorem dX12_readWave_121 : decode cX12_readWave 121 = .ok (.iinc 2 1, 3) := by decide +kernel
theorem dX12_readWave_124 : decode cX12_readWave 124 = .ok (.goto (-31), 3) := by decide +kernel
theorem dX12_readWave_127 : decode cX12_readWave 127 = .ok (.aload_n 0, 1) := by decide +kernel
theorem dX12_readWave_128 : decode cX12_readWave 128 = .ok (.invokevirtual 233, 3) := by decide +kernel
theorem dX12_readWave_131 : decode cX12_readWave 131 = .ok (.aload_n 0, 1) := by decide +kernel
theorem dX12_readWave_132 : decode cX12_readWave 132 = .ok (.aload_n 0, 1) := by decide +kernel
theorem dX12_readWave_133 : decode cX12_readWave 133 = .ok (.invokevirtual 205, 3) := by decide +kernel
theorem dX12_readWave_136 : decode cX12_readWave 136 = .ok (.invokevirtual 256, 3) := by decide +kernel
theorem dX12_readWave_139 : decode cX12_readWave 139 = .ok (.aload_n 0, 1) := by decide +kernel
theorem dX12_readWave_140 : decode cX12_readWave 140 = .ok (.getfield 47, 3) := by decide +kernel
theorem dX12_readWave_143 : decode cX12_readWave 143 = .ok (.aload_n 0, 1) := by decide +kernel
theorem dX12_readWave_144 : decode cX12_readWave 144 = .ok (.iconst 2, 1) := by decide +kernel
theorem dX12_readWave_145 : decode cX12_readWave 145 = .ok (.iload_n 1, 1) := by decide +kernel
theorem dX12_readWave_146 : decode cX12_readWave 146 = .ok (.iconst 0, 1) := by decide +kernel
theorem dX12_readWave_147 : decode cX12_readWave 147 = .ok (.invokevirtual 252, 3) := by decide +kernel
theorem dX12_readWave_150 : decode cX12_readWave 150 = .ok (.aload_n 0, 1) := by decide +kernel
theorem dX12_readWave_151 : decode cX12_readWave 151 = .ok (.iconst 1, 1) := by decide +kernel
theorem dX12_readWave_152 : decode cX12_readWave 152 = .ok (.sipush 9999, 3) := by decide +kernel
theorem dX12_readWave_155 : decode cX12_readWave 155 = .ok (.invokevirtual 260, 3) := by decide +kernel
theorem dX12_readWave_158 : decode cX12_readWave 158 = .ok (.iastore, 1) := by decide +kernel
theorem dX12_readWave_159 : decode cX12_readWave 159 = .ok (.aload_n 0, 1) := by decide +kernel
theorem dX12_readWave_160 : decode cX12_readWave 160 = .ok (.aload_n 0, 1) := by decide +kernel
theorem dX12_readWave_161 : decode cX12_readWave 161 = .ok (.invokevirtual 208, 3) := by decide +kernel
theorem dX12_readWave_164 : decode cX12_readWave 164 = .ok (.invokevirtual 256, 3) := by decide +kernel
theorem dX12_readWave_167 : decode cX12_readWave 167 = .ok (.aload_n 0, 1) := by decide +kernel
theorem dX12_readWave_168 : decode cX12_readWave 168 = .ok (.getfield 47, 3) := by decide +kernel
theorem dX12_readWave_171 : decode cX12_readWave 171 = .ok (.aload_n 0, 1) := by decide +kernel
theorem dX12_readWave_172 : decode cX12_readWave 172 = .ok (.iconst 2, 1) := by decide +kernel
theorem dX12_readWave_173 : decode cX12_readWave 173 = .ok (.iload_n 1, 1) := by decide +kernel
theorem dX12_readWave_174 : decode cX12_readWave 174 = .ok (.iconst 1, 1) := by decide +kernel
theorem dX12_readWave_175 : decode cX12_readWave 175 = .ok (.invokevirtual 252, 3) := by decide +kernel
theorem dX12_readWave_178 : decode cX12_readWave 178 = .ok (.aload_n 0, 1) := by decide +kernel
theorem dX12_readWave_179 : decode cX12_readWave 179 = .ok (.iconst 1, 1) := by decide +kernel
theorem dX12_readWave_180 : decode cX12_readWave 180 = .ok (.sipush 9999, 3) := by decide +kernel
theorem dX12_readWave_183 : decode cX12_readWave 183 = .ok (.invokevirtual 260, 3) := by decide +kernel
theorem dX12_readWave_186 : decode cX12_readWave 186 = .ok (.iastore, 1) := by decide +kernel
theorem dX12_readWave_187 : decode cX12_readWave 187 = .ok (.iconst 0, 1) := by decide +kernel
theorem dX12_readWave_188 : decode cX12_readWave 188 = .ok (.istore_n 2, 1) := by decide +kernel
theorem dX12_readWave_189 : decode cX12_readWave 189 = .ok (.aload_n 0, 1) := by decide +kernel
theorem dX12_readWave_190 : decode cX12_readWave 190 = .ok (.getfield 223, 3) := by decide +kernel
theorem dX12_readWave_193 : decode cX12_readWave 193 = .ok (.ifCond .ne 97, 3) := by decide +kernel
theorem dX12_readWave_196 : decode cX12_readWave 196 = .ok (.aload_n 0, 1) := by decide +kernel
theorem dX12_readWave_197 : decode cX12_readWave 197 = .ok (.invokevirtual 197, 3) := by decide +kernel
theorem dX12_readWave_200 : decode cX12_readWave 200 = .ok (.ifCond .lt 90, 3) := by decide +kernel
theorem dX12_readWave_203 : decode cX12_readWave 203 = .ok (.aload_n 0, 1) := by decide +kernel
theorem dX12_readWave_204 : decode cX12_readWave 204 = .ok (.invokevirtual 197, 3) := by decide +kernel
theorem dX12_readWave_207 : decode cX12_readWave 207 = .ok (.istore_n 3, 1) := by decide +kernel
theorem dX12_readWave_208 : decode cX12_readWave 208 = .ok (.iload_n 2, 1) := by decide +kernel
theorem dX12_readWave_209 : decode cX12_readWave 209 = .ok (.iload_n 3, 1) := by decide +kernel
theorem dX12_readWave_210 : decode cX12_readWave 210 = .ok (.ishr, 1) := by decide +kernel
theorem dX12_readWave_211 : decode cX12_readWave 211 = .ok (.iconst 1, 1) := by decide +kernel
theorem dX12_readWave_212 : decode cX12_readWave 212 = .ok (.iand, 1) := by decide +kernel
theorem dX12_readWave_213 : decode cX12_readWave 213 = .ok (.iconst 1, 1) := by decide +kernel
theorem dX12_readWave_214 : decode cX12_readWave 214 = .ok (.if_icmp .ne 12, 3) := by decide +kernel
theorem dX12_readWave_217 : decode cX12_readWave 217 = .ok (.aload_n 0, 1) := by decide +kernel
theorem dX12_readWave_218 : decode cX12_readWave 218 = .ok (.iconst 5, 1) := by decide +kernel
theorem dX12_readWave_219 : decode cX12_readWave 219 = .ok (.aload_n 0, 1) := by decide +kernel
theorem dX12_readWave_220 : decode cX12_readWave 220 = .ok (.getfield 161, 3) := by decide +kernel
theorem dX12_readWave_223 : decode cX12_readWave 223 = .ok (.invokevirtual 229, 3) := by decide +kernel
theorem dX12_readWave_226 : decode cX12_readWave 226 = .ok (.aload_n 0, 1) := by decide +kernel
theorem dX12_readWave_227 : decode cX12_readWave 227 = .ok (.getfield 223, 3) := by decide +kernel
theorem dX12_readWave_230 : decode cX12_readWave 230 = .ok (.ifCond .le 4, 3) := by decide +kernel
theorem dX12_readWave_233 : decode cX12_readWave 233 = .ok (.return_, 1) := by decide +kernel
theorem dX12_readWave_234 : decode cX12_readWave 234 = .ok (.iload_n 2, 1) := by decide +kernel
theorem dX12_readWave_235 : decode cX12_readWave 235 = .ok (.iconst 1, 1) := by decide +kernel
theorem dX12_readWave_236 : decode cX12_readWave 236 = .ok (.iload_n 3, 1) := by decide +kernel
theorem dX12_readWave_237 : decode cX12_readWave 237 = .ok (.ishl, 1) := by decide +kernel
theorem dX12_readWave_238 : decode cX12_readWave 238 = .ok (.ior, 1) := by decide +kernel
theorem dX12_readWave_239 : decode cX12_readWave 239 = .ok (.istore_n 2, 1) := by decide +kernel
theorem dX12_readWave_240 : decode cX12_readWave 240 = .ok (.aload_n 0, 1) := by decide +kernel
theorem dX12_readWave_241 : decode cX12_readWave 241 = .ok (.invokevirtual 233, 3) := by decide +kernel
theorem dX12_readWave_244 : decode cX12_readWave 244 = .ok (.iload_n 3, 1) := by decide +kernel
theorem dX12_readWave_245 : decode cX12_readWave 245 = .ok (.iconst 2, 1) := by decide +kernel
theorem dX12_readWave_246 : decode cX12_readWave 246 = .ok (.if_icmp .ne 11, 3) := by decide +kernel
theorem dX12_readWave_249 : decode cX12_readWave 249 = .ok (.aload_n 0, 1) := by decide +kernel
theorem dX12_readWave_250 : decode cX12_readWave 250 = .ok (.iload_n 1, 1) := by decide +kernel
theorem dX12_readWave_251 : decode cX12_readWave 251 = .ok (.invokevirtual 263, 3) := by decide +kernel
theorem dX12_readWave_254 : decode cX12_readWave 254 = .ok (.goto 33, 3) := by decide +kernel
theorem dX12_readWave_257 : decode cX12_readWave 257 = .ok (.aload_n 0, 1) := by decide +kernel
theorem dX12_readWave_258 : decode cX12_readWave 258 = .ok (.getfield 47, 3) := by decide +kernel
theorem dX12_readWave_261 : decode cX12_readWave 261 = .ok (.aload_n 0, 1) := by decide +kernel
theorem dX12_readWave_262 : decode cX12_readWave 262 = .ok (.iconst 2, 1) := by decide +kernel
theorem dX12_readWave_263 : decode cX12_readWave 263 = .ok (.iload_n 1, 1) := by decide +kernel
theorem dX12_readWave_264 : decode cX12_readWave 264 = .ok (.iconst 2, 1) := by decide +kernel
theorem dX12_readWave_265 : decode cX12_readWave 265 = .ok (.iload_n 3, 1) := by decide +kernel
theorem dX12_readWave_266 : decode cX12_readWave 266 = .ok (.iadd, 1) := by decide +kernel
theorem dX12_readWave_267 : decode cX12_readWave 267 = .ok (.invokevirtual 252, 3) := by decide +kernel
theorem dX12_readWave_270 : decode cX12_readWave 270 = .ok (.aload_n 0, 1) := by decide +kernel
theorem dX12_readWave_271 : decode cX12_readWave 271 = .ok (.iconst 0, 1) := by decide +kernel
theorem dX12_readWave_272 : decode cX12_readWave 272 = .ok (.iload_n 3, 1) := by decide +kernel
theorem dX12_readWave_273 : decode cX12_readWave 273 = .ok (.ifCond .ne 8, 3) := by decide +kernel
theorem dX12_readWave_276 : decode cX12_readWave 276 = .ok (.bipush 99, 2) := by decide +kernel
theorem dX12_readWave_278 : decode cX12_readWave 278 = .ok (.goto 5, 3) := by decide +kernel
theorem dX12_readWave_281 : decode cX12_readWave 281 = .ok (.bipush 23, 2) := by decide +kernel
theorem dX12_readWave_283 : decode cX12_readWave 283 = .ok (.invokevirtual 260, 3) := by decide +kernel
theorem dX12_readWave_286 : decode cX12_readWave 286 = .ok (.iastore, 1) := by decide +kernel
theorem dX12_readWave_287 : decode cX12_readWave 287 = .ok (.goto (-98), 3) := by decide +kernel
theorem dX12_readWave_290 : decode cX12_readWave 290 = .ok (.aload_n 0, 1) := by decide +kernel
theorem dX12_readWave_291 : decode cX12_readWave 291 = .ok (.aload_n 0, 1) := by decide +kernel
theorem dX12_readWave_292 : decode cX12_readWave 292 = .ok (.getfield 167, 3) := by decide +kernel
theorem dX12_readWave_295 : decode cX12_readWave 295 = .ok (.iconst 3, 1) := by decide +kernel
theorem dX12_readWave_296 : decode cX12_readWave 296 = .ok (.if_icmp .ne 7, 3) := by decide +kernel
theorem dX12_readWave_299 : decode cX12_readWave 299 = .ok (.iconst 1, 1) := by decide +kernel
theorem dX12_readWave_300 : decode cX12_readWave 300 = .ok (.goto 4, 3) := by decide +kernel
theorem dX12_readWave_303 : decode cX12_readWave 303 = .ok (.iconst 0, 1) := by decide +kernel
theorem dX12_readWave_304 : decode cX12_readWave 304 = .ok (.invokevirtual 256, 3) := by decide +kernel
theorem dX12_readWave_307 : decode cX12_readWave 307 = .ok (.aload_n 0, 1) := by decide +kernel
theorem dX12_readWave_308 : decode cX12_readWave 308 = .ok (.getfield 223, 3) := by decide +kernel
theorem dX12_readWave_311 : decode cX12_readWave 311 = .ok (.ifCond .ne 13, 3) := by decide +kernel
theorem dX12_readWave_314 : decode cX12_readWave 314 = .ok (.aload_n 0, 1) := by decide +kernel
theorem dX12_readWave_315 : decode cX12_readWave 315 = .ok (.getfield 35, 3) := by decide +kernel
theorem dX12_readWave_318 : decode cX12_readWave 318 = .ok (.iconst 2, 1) := by decide +kernel
theorem dX12_readWave_319 : decode cX12_readWave 319 = .ok (.dup2, 1) := by decide +kernel
theorem dX12_readWave_320 : decode cX12_readWave 320 = .ok (.iaload, 1) := by decide +kernel
theorem dX12_readWave_321 : decode cX12_readWave 321 = .ok (.iconst 1, 1) := by decide +kernel
theorem dX12_readWave_322 : decode cX12_readWave 322 = .ok (.iadd, 1) := by decide +kernel
theorem dX12_readWave_323 : decode cX12_readWave 323 = .ok (.iastore, 1) := by decide +kernel
theorem dX12_readWave_324 : decode cX12_readWave 324 = .ok (.return_, 1) := by decide +kernel
noncomputable def f_X12_readWave_120 (v1 : Int32) (v2 : Int32) (k1 : Int32) (k2 : Bool) (σ : am_H) : Option ((Int32 × am_H) ⊕ (am_H)) :=
  (am_ix 162 k1).bind fun j1 =>
  (some (am_wI σ 1324 0 j1 (am_b k2))).bind fun s2 =>
  some (.inl ((v2 + 1), s2))
set_option maxRecDepth 100000 in
set_option maxHeartbeats 4000000 in
theorem q_X12_readWave_120 {X : am_X} (hX : am_ks X = am_ksM) {Q : Option Value → am_H → Prop} (v1 : Int32) (v2 : Int32) (k1 : Int32) (k2 : Bool) (σ : am_H) {o : (Int32 × am_H) ⊕ (am_H)} (hf : f_X12_readWave_120 v1 v2 k1 k2 σ = some o) (hk0 : ∀ s, o = .inl s → am_G X gm_X12_readWave Q 93 [(0, .ref (am_ad X 12 0)), (1, .int v1), (2, .int s.1)] [] s.2) (hk1 : ∀ t, o = .inr t → am_G X gm_X12_readWave Q 127 [(0, .ref (am_ad X 12 0)), (1, .int v1)] [] t) : am_G X gm_X12_readWave Q 120 [(0, .ref (am_ad X 12 0)), (1, .int v1), (2, .int v2)] [.int (am_b k2), .int k1, .ref (am_ad X 1324 0)] σ := by
  unfold f_X12_readWave_120 at hf
  obtain ⟨j1, hj1, hf⟩ := am_bd hf
  have gj1 := am_ix_lt hj1
  obtain ⟨s2, hs2, hf⟩ := am_bd hf
  refine g_sI (pc := 120) (in_1324 hX (by omega)) ak_1324 hj1 dX12_readWave_120 (Option.some.inj hs2) ?_
  refine g_iinc (pc := 121) (v := (v2 + 1)) 2 [(2, .int (v2 + 1)), (0, .ref (am_ad X 12 0)), (1, .int v1)] dX12_readWave_121 rfl rfl (Nat.le_of_ble_eq_true rfl) rfl ?_
  refine g_goto (pc := 124) 93 dX12_readWave_124 rfl ?_
  have hz := hk0 _ (Option.some.inj hf).symm
  exact am_sub [1, 2, 0] rfl hz
noncomputable def f_X12_readWave_93 (v1 : Int32) (v2 : Int32) (σ : am_H) : Option ((Int32 × am_H) ⊕ (am_H)) :=
  if v2 < 9 then
   ((f_X12_cell 2 v1 v2 σ).bind fun p2 =>
   if 4 < v2 then
    (f_X12_readWave_120 v1 v2 p2 true σ)
   else
   f_X12_readWave_120 v1 v2 p2 false σ)
  else
  some (.inr σ)
set_option maxRecDepth 100000 in
set_option maxHeartbeats 4000000 in
theorem q_X12_readWave_93 {X : am_X} (hX : am_ks X = am_ksM) {Q : Option Value → am_H → Prop} (v1 : Int32) (v2 : Int32) (σ : am_H) {o : (Int32 × am_H) ⊕ (am_H)} (hf : f_X12_readWave_93 v1 v2 σ = some o) (hk0 : ∀ s, o = .inl s → am_G X gm_X12_readWave Q 93 [(0, .ref (am_ad X 12 0)), (1, .int v1), (2, .int s.1)] [] s.2) (hk1 : ∀ t, o = .inr t → am_G X gm_X12_readWave Q 127 [(0, .ref (am_ad X 12 0)), (1, .int v1)] [] t) : am_G X gm_X12_readWave Q 93 [(0, .ref (am_ad X 12 0)), (1, .int v1), (2, .int v2)] [] σ := by
  unfold f_X12_readWave_93 at hf
  refine g_iload_n (pc := 93) 2 rfl dX12_readWave_93 rfl ?_
  refine g_bipush (pc := 94) (v := 9) dX12_readWave_94 (by decide) ?_
  refine bi_ge (pc := 96) 127 dX12_readWave_96 rfl (fun c1 => ?_) (fun c1 => ?_)
  · replace hf := am_ifT c1 hf
    refine g_aload_n (pc := 99) 0 rfl dX12_readWave_99 rfl ?_
    refine g_getC (pc := 100) (e := 0) (in_12 hX (by omega)) fr_X12_47 dX12_readWave_100 rfl ?_
    refine g_aload_n (pc := 103) 0 rfl dX12_readWave_103 rfl ?_
    refine g_iconst (pc := 104) (v := 2) dX12_readWave_104 (by decide) ?_
    refine g_iload_n (pc := 105) 1 rfl dX12_readWave_105 rfl ?_
    refine g_iload_n (pc := 106) 2 rfl dX12_readWave_106 rfl ?_
    obtain ⟨p2, hp2, hf⟩ := am_bd hf
    refine g_cV (pc := 107) (As := [.int 2, .int v1, .int v2]) (st := [.ref (am_ad X 1324 0)]) (st1 := [.int p2, .ref (am_ad X 1324 0)]) (in_12 hX (by omega)) kk_12 mV_X12_cell ln_X12_252 rfl (Nat.le_of_ble_eq_true rfl) (Nat.le_of_ble_eq_true rfl) (k_X12_cell hX 2 v1 v2 σ hp2) dX12_readWave_107 rfl rfl ?_
    refine g_iload_n (pc := 110) 2 rfl dX12_readWave_110 rfl ?_
    refine g_iconst (pc := 111) (v := 4) dX12_readWave_111 (by decide) ?_
    refine bi_le (pc := 112) 119 dX12_readWave_112 rfl (fun c3 => ?_) (fun c3 => ?_)
    · replace hf := am_ifT c3 hf
      refine g_iconst (pc := 115) (v := 1) dX12_readWave_115 (by decide) ?_
      refine g_goto (pc := 116) 120 dX12_readWave_116 rfl ?_
      exact q_X12_readWave_120 hX v1 v2 p2 true σ hf hk0 hk1
    replace hf := am_ifF c3 hf
    refine g_iconst (pc := 119) (v := 0) dX12_readWave_119 (by decide) ?_
    exact q_X12_readWave_120 hX v1 v2 p2 false σ hf hk0 hk1
  replace hf := am_ifF c1 hf
  have hz := hk1 _ (Option.some.inj hf).symm
  exact am_sub [0, 1] rfl hz
set_option maxRecDepth 100000 in
set_option maxHeartbeats 4000000 in
theorem l_X12_readWave_93 {X : am_X} (hX : am_ks X = am_ksM) {Q : Option Value → am_H → Prop} (v1 : Int32) (σ : am_H) (s : Int32 × am_H) {o : am_H} (hf : am_loop (fun s => f_X12_readWave_93 v1 s.1 s.2) s = some o) (hk1 : ∀ t, o = t → am_G X gm_X12_readWave Q 127 [(0, .ref (am_ad X 12 0)), (1, .int v1)] [] t) : am_G X gm_X12_readWave Q 93 [(0, .ref (am_ad X 12 0)), (1, .int v1), (2, .int s.1)] [] s.2 := by
  refine am_loop_ind (P := fun s => am_G X gm_X12_readWave Q 93 [(0, .ref (am_ad X 12 0)), (1, .int v1), (2, .int s.1)] [] s.2) (K := fun r => r = o) ?_ hf rfl
  intro s o1 hb hi hr
  exact q_X12_readWave_93 hX v1 s.1  s.2 hb hi (fun t e => hk1 t (hr _ e).symm)
noncomputable def f_X12_readWave_283 (v1 : Int32) (v2 : Int32) (k1 : Int32) (k4 : Int32) (σ : am_H) : Option ((Int32 × am_H) ⊕ ((am_H) ⊕ (am_H))) :=
  (f_X12_count 0 k4 σ).bind fun p1 =>
  (am_ix 162 k1).bind fun j2 =>
  (some (am_wI p1.2 1324 0 j2 p1.1)).bind fun s3 =>
  some (.inl (v2, s3))
set_option maxRecDepth 100000 in
set_option maxHeartbeats 4000000 in
theorem q_X12_readWave_283 {X : am_X} (hX : am_ks X = am_ksM) {Q : Option Value → am_H → Prop} (v1 : Int32) (v2 : Int32) (k1 : Int32) (k4 : Int32) (σ : am_H) {o : (Int32 × am_H) ⊕ ((am_H) ⊕ (am_H))} (hf : f_X12_readWave_283 v1 v2 k1 k4 σ = some o) (hk0 : ∀ s, o = .inl s → am_G X gm_X12_readWave Q 189 [(0, .ref (am_ad X 12 0)), (1, .int v1), (2, .int s.1)] [] s.2) (hk1 : ∀ t, o = .inr (.inl t) → am_G X gm_X12_readWave Q 233 [] [] t) (hk2 : ∀ t, o = .inr (.inr t) → am_G X gm_X12_readWave Q 290 [(0, .ref (am_ad X 12 0))] [] t) : am_G X gm_X12_readWave Q 283 [(0, .ref (am_ad X 12 0)), (1, .int v1), (2, .int v2)] [.int k4, .int 0, .ref (am_ad X 12 0), .int k1, .ref (am_ad X 1324 0)] σ := by
  unfold f_X12_readWave_283 at hf
  obtain ⟨p1, hp1, hf⟩ := am_bd hf
  refine g_cV (pc := 283) (As := [.int 0, .int k4]) (st := [.int k1, .ref (am_ad X 1324 0)]) (st1 := [.int p1.1, .int k1, .ref (am_ad X 1324 0)]) (in_12 hX (by omega)) kk_12 mV_X12_count ln_X12_260 rfl (Nat.le_of_ble_eq_true rfl) (Nat.le_of_ble_eq_true rfl) (k_X12_count hX 0 k4 σ hp1) dX12_readWave_283 rfl rfl ?_
  obtain ⟨j2, hj2, hf⟩ := am_bd hf
  have gj2 := am_ix_lt hj2
  obtain ⟨s3, hs3, hf⟩ := am_bd hf
  refine g_sI (pc := 286) (in_1324 hX (by omega)) ak_1324 hj2 dX12_readWave_286 (Option.some.inj hs3) ?_
  refine g_goto (pc := 287) 189 dX12_readWave_287 rfl ?_
  have hz := hk0 _ (Option.some.inj hf).symm
  exact hz
noncomputable def f_X12_readWave_226 (v1 : Int32) (v2 : Int32) (v3 : Int32) (σ : am_H) : Option ((Int32 × am_H) ⊕ ((am_H) ⊕ (am_H))) :=
  if 0 < (σ.1 12 0 12) then
   (some (.inr (.inl σ)))
  else
  (f_X12_next σ).bind fun p2 =>
  if v3 = 2 then
   ((f_X12_readTrain v1 p2).bind fun p4 =>
   some (.inl ((v2 ||| (1 <<< (v3 &&& 31))), p4)))
  else
  (f_X12_cell 2 v1 (2 + v3) p2).bind fun p5 =>
  if v3 = 0 then
   (f_X12_readWave_283 v1 (v2 ||| (1 <<< (v3 &&& 31))) p5 99 p2)
  else
  f_X12_readWave_283 v1 (v2 ||| (1 <<< (v3 &&& 31))) p5 23 p2
set_option maxRecDepth 100000 in
set_option maxHeartbeats 4000000 in
theorem q_X12_readWave_226 {X : am_X} (hX : am_ks X = am_ksM) {Q : Option Value → am_H → Prop} (v1 : Int32) (v2 : Int32) (v3 : Int32) (σ : am_H) {o : (Int32 × am_H) ⊕ ((am_H) ⊕ (am_H))} (hf : f_X12_readWave_226 v1 v2 v3 σ = some o) (hk0 : ∀ s, o = .inl s → am_G X gm_X12_readWave Q 189 [(0, .ref (am_ad X 12 0)), (1, .int v1), (2, .int s.1)] [] s.2) (hk1 : ∀ t, o = .inr (.inl t) → am_G X gm_X12_readWave Q 233 [] [] t) (hk2 : ∀ t, o = .inr (.inr t) → am_G X gm_X12_readWave Q 290 [(0, .ref (am_ad X 12 0))] [] t) : am_G X gm_X12_readWave Q 226 [(0, .ref (am_ad X 12 0)), (1, .int v1), (2, .int v2), (3, .int v3)] [] σ := by
  unfold f_X12_readWave_226 at hf
  refine g_aload_n (pc := 226) 0 rfl dX12_readWave_226 rfl ?_
  refine g_getI (pc := 227) (in_12 hX (by omega)) fr_X12_223 dX12_readWave_227 ?_
  refine bz_le (pc := 230) 234 dX12_readWave_230 rfl (fun c1 => ?_) (fun c1 => ?_)
  · replace hf := am_ifT c1 hf
    have hz := hk1 _ (Option.some.inj hf).symm
    exact am_sub [] rfl hz
  replace hf := am_ifF c1 hf
  refine g_iload_n (pc := 234) 2 rfl dX12_readWave_234 rfl ?_
  refine g_iconst (pc := 235) (v := 1) dX12_readWave_235 (by decide) ?_
  refine g_iload_n (pc := 236) 3 rfl dX12_readWave_236 rfl ?_
  refine g_ishl (pc := 237) dX12_readWave_237 ?_
  refine g_ior (pc := 238) dX12_readWave_238 ?_
  refine g_istore_n (pc := 239) [(2, .int (v2 ||| (1 <<< (v3 &&& 31)))), (0, .ref (am_ad X 12 0)), (1, .int v1), (3, .int v3)] dX12_readWave_239 rfl (Nat.le_of_ble_eq_true rfl) rfl ?_
  refine g_aload_n (pc := 240) 1 rfl dX12_readWave_240 rfl ?_
  obtain ⟨p2, hp2, hf⟩ := am_bd hf
  refine g_cV (pc := 241) (As := []) (st := []) (st1 := []) (in_12 hX (by omega)) kk_12 mV_X12_next ln_X12_233 rfl (Nat.le_of_ble_eq_true rfl) (Nat.le_of_ble_eq_true rfl) (k_X12_next hX σ hp2) dX12_readWave_241 rfl rfl ?_
  refine g_iload_n (pc := 244) 3 rfl dX12_readWave_244 rfl ?_
  refine g_iconst (pc := 245) (v := 2) dX12_readWave_245 (by decide) ?_
  refine bi_ne (pc := 246) 257 dX12_readWave_246 rfl (fun c3 => ?_) (fun c3 => ?_)
  · replace hf := am_ifT c3 hf
    refine g_aload_n (pc := 249) 1 rfl dX12_readWave_249 rfl ?_
    refine g_iload_n (pc := 250) 2 rfl dX12_readWave_250 rfl ?_
    obtain ⟨p4, hp4, hf⟩ := am_bd hf
    refine g_cV (pc := 251) (As := [.int v1]) (st := []) (st1 := []) (in_12 hX (by omega)) kk_12 mV_X12_readTrain ln_X12_263 rfl (Nat.le_of_ble_eq_true rfl) (Nat.le_of_ble_eq_true rfl) (k_X12_readTrain hX v1 p2 hp4) dX12_readWave_251 rfl rfl ?_
    refine g_goto (pc := 254) 287 dX12_readWave_254 rfl ?_
    refine g_goto (pc := 287) 189 dX12_readWave_287 rfl ?_
    have hz := hk0 _ (Option.some.inj hf).symm
    exact am_sub [1, 2, 0] rfl hz
  replace hf := am_ifF c3 hf
  refine g_aload_n (pc := 257) 1 rfl dX12_readWave_257 rfl ?_
  refine g_getC (pc := 258) (e := 0) (in_12 hX (by omega)) fr_X12_47 dX12_readWave_258 rfl ?_
  refine g_aload_n (pc := 261) 1 rfl dX12_readWave_261 rfl ?_
  refine g_iconst (pc := 262) (v := 2) dX12_readWave_262 (by decide) ?_
  refine g_iload_n (pc := 263) 2 rfl dX12_readWave_263 rfl ?_
  refine g_iconst (pc := 264) (v := 2) dX12_readWave_264 (by decide) ?_
  refine g_iload_n (pc := 265) 3 rfl dX12_readWave_265 rfl ?_
  refine g_iadd (pc := 266) dX12_readWave_266 ?_
  obtain ⟨p5, hp5, hf⟩ := am_bd hf
  refine g_cV (pc := 267) (As := [.int 2, .int v1, .int (2 + v3)]) (st := [.ref (am_ad X 1324 0)]) (st1 := [.int p5, .ref (am_ad X 1324 0)]) (in_12 hX (by omega)) kk_12 mV_X12_cell ln_X12_252 rfl (Nat.le_of_ble_eq_true rfl) (Nat.le_of_ble_eq_true rfl) (k_X12_cell hX 2 v1 (2 + v3) p2 hp5) dX12_readWave_267 rfl rfl ?_
  refine g_aload_n (pc := 270) 1 rfl dX12_readWave_270 rfl ?_
  refine g_iconst (pc := 271) (v := 0) dX12_readWave_271 (by decide) ?_
  refine g_iload_n (pc := 272) 3 rfl dX12_readWave_272 rfl ?_
  refine bz_ne (pc := 273) 281 dX12_readWave_273 rfl (fun c6 => ?_) (fun c6 => ?_)
  · replace hf := am_ifT c6 hf
    refine g_bipush (pc := 276) (v := 99) dX12_readWave_276 (by decide) ?_
    refine g_goto (pc := 278) 283 dX12_readWave_278 rfl ?_
    exact am_sub [1, 2, 0] rfl (q_X12_readWave_283 hX v1 (v2 ||| (1 <<< (v3 &&& 31))) p5 99 p2 hf hk0 hk1 hk2)
  replace hf := am_ifF c6 hf
  refine g_bipush (pc := 281) (v := 23) dX12_readWave_281 (by decide) ?_
  exact am_sub [1, 2, 0] rfl (q_X12_readWave_283 hX v1 (v2 ||| (1 <<< (v3 &&& 31))) p5 23 p2 hf hk0 hk1 hk2)
noncomputable def f_X12_readWave_189 (v1 : Int32) (v2 : Int32) (σ : am_H) : Option ((Int32 × am_H) ⊕ ((am_H) ⊕ (am_H))) :=
  if (σ.1 12 0 12) = 0 then
   ((f_X12_setting σ).bind fun p2 =>
   if p2 < 0 then
    (some (.inr (.inr σ)))
   else
   (f_X12_setting σ).bind fun p4 =>
   if ((v2 >>> (p4 &&& 31)) &&& 1) = 1 then
    ((f_X12_fail 5 (σ.1 12 0 15) σ).bind fun p6 =>
    f_X12_readWave_226 v1 v2 p4 p6)
   else
   f_X12_readWave_226 v1 v2 p4 σ)
  else
  some (.inr (.inr σ))
set_option maxRecDepth 100000 in
set_option maxHeartbeats 4000000 in
theorem q_X12_readWave_189 {X : am_X} (hX : am_ks X = am_ksM) {Q : Option Value → am_H → Prop} (v1 : Int32) (v2 : Int32) (σ : am_H) {o : (Int32 × am_H) ⊕ ((am_H) ⊕ (am_H))} (hf : f_X12_readWave_189 v1 v2 σ = some o) (hk0 : ∀ s, o = .inl s → am_G X gm_X12_readWave Q 189 [(0, .ref (am_ad X 12 0)), (1, .int v1), (2, .int s.1)] [] s.2) (hk1 : ∀ t, o = .inr (.inl t) → am_G X gm_X12_readWave Q 233 [] [] t) (hk2 : ∀ t, o = .inr (.inr t) → am_G X gm_X12_readWave Q 290 [(0, .ref (am_ad X 12 0))] [] t) : am_G X gm_X12_readWave Q 189 [(0, .ref (am_ad X 12 0)), (1, .int v1), (2, .int v2)] [] σ := by
  unfold f_X12_readWave_189 at hf
  refine g_aload_n (pc := 189) 0 rfl dX12_readWave_189 rfl ?_
  refine g_getI (pc := 190) (in_12 hX (by omega)) fr_X12_223 dX12_readWave_190 ?_
  refine bz_ne (pc := 193) 290 dX12_readWave_193 rfl (fun c1 => ?_) (fun c1 => ?_)
  · replace hf := am_ifT c1 hf
    refine g_aload_n (pc := 196) 0 rfl dX12_readWave_196 rfl ?_
    obtain ⟨p2, hp2, hf⟩ := am_bd hf
    refine g_cV (pc := 197) (As := []) (st := []) (st1 := [.int p2]) (in_12 hX (by omega)) kk_12 mV_X12_setting ln_X12_197 rfl (Nat.le_of_ble_eq_true rfl) (Nat.le_of_ble_eq_true rfl) (k_X12_setting hX σ hp2) dX12_readWave_197 rfl rfl ?_
    refine bz_lt (pc := 200) 290 dX12_readWave_200 rfl (fun c3 => ?_) (fun c3 => ?_)
    · replace hf := am_ifT c3 hf
      have hz := hk2 _ (Option.some.inj hf).symm
      exact am_sub [0] rfl hz
    replace hf := am_ifF c3 hf
    refine g_aload_n (pc := 203) 0 rfl dX12_readWave_203 rfl ?_
    obtain ⟨p4, hp4, hf⟩ := am_bd hf
    refine g_cV (pc := 204) (As := []) (st := []) (st1 := [.int p4]) (in_12 hX (by omega)) kk_12 mV_X12_setting ln_X12_197 rfl (Nat.le_of_ble_eq_true rfl) (Nat.le_of_ble_eq_true rfl) (k_X12_setting hX σ hp4) dX12_readWave_204 rfl rfl ?_
    refine g_istore_n (pc := 207) [(3, .int p4), (0, .ref (am_ad X 12 0)), (1, .int v1), (2, .int v2)] dX12_readWave_207 rfl (Nat.le_of_ble_eq_true rfl) rfl ?_
    refine g_iload_n (pc := 208) 3 rfl dX12_readWave_208 rfl ?_
    refine g_iload_n (pc := 209) 0 rfl dX12_readWave_209 rfl ?_
    refine g_ishr (pc := 210) dX12_readWave_210 ?_
    refine g_iconst (pc := 211) (v := 1) dX12_readWave_211 (by decide) ?_
    refine g_iand (pc := 212) dX12_readWave_212 ?_
    refine g_iconst (pc := 213) (v := 1) dX12_readWave_213 (by decide) ?_
    refine bi_ne (pc := 214) 226 dX12_readWave_214 rfl (fun c5 => ?_) (fun c5 => ?_)
    · replace hf := am_ifT c5 hf
      refine g_aload_n (pc := 217) 1 rfl dX12_readWave_217 rfl ?_
      refine g_iconst (pc := 218) (v := 5) dX12_readWave_218 (by decide) ?_
      refine g_aload_n (pc := 219) 1 rfl dX12_readWave_219 rfl ?_
      refine g_getI (pc := 220) (in_12 hX (by omega)) fr_X12_161 dX12_readWave_220 ?_
      obtain ⟨p6, hp6, hf⟩ := am_bd hf
      refine g_cV (pc := 223) (As := [.int 5, .int (σ.1 12 0 15)]) (st := []) (st1 := []) (in_12 hX (by omega)) kk_12 mV_X12_fail ln_X12_229 rfl (Nat.le_of_ble_eq_true rfl) (Nat.le_of_ble_eq_true rfl) (k_X12_fail hX 5 (σ.1 12 0 15) σ hp6) dX12_readWave_223 rfl rfl ?_
      exact am_sub [1, 2, 3, 0] rfl (q_X12_readWave_226 hX v1 v2 p4 p6 hf hk0 hk1 hk2)
    replace hf := am_ifF c5 hf
    exact am_sub [1, 2, 3, 0] rfl (q_X12_readWave_226 hX v1 v2 p4 σ hf hk0 hk1 hk2)
  replace hf := am_ifF c1 hf
  have hz := hk2 _ (Option.some.inj hf).symm
  exact am_sub [0] rfl hz
set_option maxRecDepth 100000 in
set_option maxHeartbeats 4000000 in
theorem l_X12_readWave_189 {X : am_X} (hX : am_ks X = am_ksM) {Q : Option Value → am_H → Prop} (v1 : Int32) (σ : am_H) (s : Int32 × am_H) {o : (am_H) ⊕ (am_H)} (hf : am_loop (fun s => f_X12_readWave_189 v1 s.1 s.2) s = some o) (hk1 : ∀ t, o = (.inl t) → am_G X gm_X12_readWave Q 233 [] [] t) (hk2 : ∀ t, o = (.inr t) → am_G X gm_X12_readWave Q 290 [(0, .ref (am_ad X 12 0))] [] t) : am_G X gm_X12_readWave Q 189 [(0, .ref (am_ad X 12 0)), (1, .int v1), (2, .int s.1)] [] s.2 := by
  refine am_loop_ind (P := fun s => am_G X gm_X12_readWave Q 189 [(0, .ref (am_ad X 12 0)), (1, .int v1), (2, .int s.1)] [] s.2) (K := fun r => r = o) ?_ hf rfl
  intro s o1 hb hi hr
  exact q_X12_readWave_189 hX v1 s.1  s.2 hb hi (fun t e => hk1 t (hr _ e).symm) (fun t e => hk2 t (hr _ e).symm)
noncomputable def f_X12_readWave_304 (k1 : Bool) (σ : am_H) : Option (am_H) :=
  (f_X12_must k1 σ).bind fun p1 =>
  if (p1.1 12 0 12) = 0 then
   ((am_ix 3 2).bind fun j3 =>
   (am_ix 3 2).bind fun j4 =>
   (some (am_wI p1 1320 0 j4 ((p1.1 1320 0 j3) + 1))).bind fun s5 =>
   some s5)
  else
  some p1
set_option maxRecDepth 100000 in
set_option maxHeartbeats 4000000 in
theorem q_X12_readWave_304 {X : am_X} (hX : am_ks X = am_ksM) {Q : Option Value → am_H → Prop} (k1 : Bool) (σ : am_H) {o : am_H} (hf : f_X12_readWave_304 k1 σ = some o) (hk : Q none o) : am_G X gm_X12_readWave Q 304 [(0, .ref (am_ad X 12 0))] [.int (am_b k1), .ref (am_ad X 12 0)] σ := by
  unfold f_X12_readWave_304 at hf
  obtain ⟨p1, hp1, hf⟩ := am_bd hf
  refine g_cV (pc := 304) (As := [.int (am_b k1)]) (st := []) (st1 := []) (in_12 hX (by omega)) kk_12 mV_X12_must ln_X12_256 rfl (Nat.le_of_ble_eq_true rfl) (Nat.le_of_ble_eq_true rfl) (k_X12_must hX k1 σ hp1) dX12_readWave_304 rfl rfl ?_
  refine g_aload_n (pc := 307) 0 rfl dX12_readWave_307 rfl ?_
  refine g_getI (pc := 308) (in_12 hX (by omega)) fr_X12_223 dX12_readWave_308 ?_
  refine bz_ne (pc := 311) 324 dX12_readWave_311 rfl (fun c2 => ?_) (fun c2 => ?_)
  · replace hf := am_ifT c2 hf
    refine g_aload_n (pc := 314) 0 rfl dX12_readWave_314 rfl ?_
    refine g_getC (pc := 315) (e := 0) (in_12 hX (by omega)) fr_X12_35 dX12_readWave_315 rfl ?_
    refine g_iconst (pc := 318) (v := 2) dX12_readWave_318 (by decide) ?_
    refine g_dup2_11 (pc := 319) dX12_readWave_319 rfl rfl ?_
    obtain ⟨j3, hj3, hf⟩ := am_bd hf
    have gj3 := am_ix_lt hj3
    refine g_aI (pc := 320) (in_1320 hX (by omega)) ak_1320 hj3 dX12_readWave_320 ?_
    refine g_iconst (pc := 321) (v := 1) dX12_readWave_321 (by decide) ?_
    refine g_iadd (pc := 322) dX12_readWave_322 ?_
    obtain ⟨j4, hj4, hf⟩ := am_bd hf
    have gj4 := am_ix_lt hj4
    obtain ⟨s5, hs5, hf⟩ := am_bd hf
    refine g_sI (pc := 323) (in_1320 hX (by omega)) ak_1320 hj4 dX12_readWave_323 (Option.some.inj hs5) ?_
    have ho := Option.some.inj hf
    subst ho
    exact g_vreturn (pc := 324) (st := []) rfl dX12_readWave_324 hk
  replace hf := am_ifF c2 hf
  have ho := Option.some.inj hf
  subst ho
  exact g_vreturn (pc := 324) (st := []) rfl dX12_readWave_324 hk
noncomputable def f_X12_readWave_66 (σ : am_H) : Option (am_H) :=
  if 0 < (σ.1 12 0 12) then
   (some σ)
  else
  (am_ix 3 2).bind fun j2 =>
  (am_ix 6 (σ.1 1320 0 j2)).bind fun j3 =>
  (some (am_wL σ 1326 0 j3 (σ.2.1 12 0 19))).bind fun s4 =>
  (am_loop (fun s => f_X12_readWave_93 (σ.1 1320 0 j2) s.1 s.2) (0, s4)).bind fun w5 =>
  (f_X12_next w5).bind fun p6 =>
  (f_X12_isTurns p6).bind fun p7 =>
  (f_X12_must p7 p6).bind fun p8 =>
  (f_X12_cell 2 (σ.1 1320 0 j2) 0 p8).bind fun p9 =>
  (f_X12_count 1 9999 p8).bind fun p10 =>
  (am_ix 162 p9).bind fun j11 =>
  (some (am_wI p10.2 1324 0 j11 p10.1)).bind fun s12 =>
  (f_X12_isInWord s12).bind fun p13 =>
  (f_X12_must p13 s12).bind fun p14 =>
  (f_X12_cell 2 (σ.1 1320 0 j2) 1 p14).bind fun p15 =>
  (f_X12_count 1 9999 p14).bind fun p16 =>
  (am_ix 162 p15).bind fun j17 =>
  (some (am_wI p16.2 1324 0 j17 p16.1)).bind fun s18 =>
  (am_loop (fun s => f_X12_readWave_189 (σ.1 1320 0 j2) s.1 s.2) (0, s18)).bind fun w19 =>
  Sum.elim (fun t19_0 =>
   some t19_0) (fun u19_0 =>
   if (u19_0.1 12 0 14) = 3 then
    (f_X12_readWave_304 true u19_0)
   else
   f_X12_readWave_304 false u19_0) w19
set_option maxRecDepth 100000 in
set_option maxHeartbeats 4000000 in
theorem q_X12_readWave_66 {X : am_X} (hX : am_ks X = am_ksM) {Q : Option Value → am_H → Prop} (σ : am_H) {o : am_H} (hf : f_X12_readWave_66 σ = some o) (hk : Q none o) : am_G X gm_X12_readWave Q 66 [(0, .ref (am_ad X 12 0))] [] σ := by
  unfold f_X12_readWave_66 at hf
  refine g_aload_n (pc := 66) 0 rfl dX12_readWave_66 rfl ?_
  refine g_getI (pc := 67) (in_12 hX (by omega)) fr_X12_223 dX12_readWave_67 ?_
  refine bz_le (pc := 70) 74 dX12_readWave_70 rfl (fun c1 => ?_) (fun c1 => ?_)
  · replace hf := am_ifT c1 hf
    have ho := Option.some.inj hf
    subst ho
    exact g_vreturn (pc := 73) (st := []) rfl dX12_readWave_73 hk
  replace hf := am_ifF c1 hf
  refine g_aload_n (pc := 74) 0 rfl dX12_readWave_74 rfl ?_
  refine g_getC (pc := 75) (e := 0) (in_12 hX (by omega)) fr_X12_35 dX12_readWave_75 rfl ?_
  refine g_iconst (pc := 78) (v := 2) dX12_readWave_78 (by decide) ?_
  obtain ⟨j2, hj2, hf⟩ := am_bd hf
  have gj2 := am_ix_lt hj2
  refine g_aI (pc := 79) (in_1320 hX (by omega)) ak_1320 hj2 dX12_readWave_79 ?_
  refine g_istore_n (pc := 80) [(1, .int (σ.1 1320 0 j2)), (0, .ref (am_ad X 12 0))] dX12_readWave_80 rfl (Nat.le_of_ble_eq_true rfl) rfl ?_
  refine g_aload_n (pc := 81) 1 rfl dX12_readWave_81 rfl ?_
  refine g_getC (pc := 82) (e := 0) (in_12 hX (by omega)) fr_X12_53 dX12_readWave_82 rfl ?_
  refine g_iload_n (pc := 85) 0 rfl dX12_readWave_85 rfl ?_
  refine g_aload_n (pc := 86) 1 rfl dX12_readWave_86 rfl ?_
  refine g_getJ (pc := 87) (in_12 hX (by omega)) fr_X12_173 dX12_readWave_87 ?_
  obtain ⟨j3, hj3, hf⟩ := am_bd hf
  have gj3 := am_ix_lt hj3
  obtain ⟨s4, hs4, hf⟩ := am_bd hf
  refine g_sJ (pc := 90) (in_1326 hX (by omega)) ak_1326 hj3 dX12_readWave_90 (Option.some.inj hs4) ?_
  refine g_iconst (pc := 91) (v := 0) dX12_readWave_91 (by decide) ?_
  refine g_istore_n (pc := 92) [(2, .int 0), (1, .int (σ.1 1320 0 j2)), (0, .ref (am_ad X 12 0))] dX12_readWave_92 rfl (Nat.le_of_ble_eq_true rfl) rfl ?_
  obtain ⟨w5, hw5, hf⟩ := am_bd hf
  refine am_sub [2, 1, 0] rfl (l_X12_readWave_93 hX (σ.1 1320 0 j2)  s4 (0, s4) hw5 ?_)
  intro t e
  subst e
  refine g_aload_n (pc := 127) 0 rfl dX12_readWave_127 rfl ?_
  obtain ⟨p6, hp6, hf⟩ := am_bd hf
  refine g_cV (pc := 128) (As := []) (st := []) (st1 := []) (in_12 hX (by omega)) kk_12 mV_X12_next ln_X12_233 rfl (Nat.le_of_ble_eq_true rfl) (Nat.le_of_ble_eq_true rfl) (k_X12_next hX w5 hp6) dX12_readWave_128 rfl rfl ?_
  refine g_aload_n (pc := 131) 0 rfl dX12_readWave_131 rfl ?_
  refine g_aload_n (pc := 132) 0 rfl dX12_readWave_132 rfl ?_
  obtain ⟨p7, hp7, hf⟩ := am_bd hf
  refine g_cV (pc := 133) (As := []) (st := [.ref (am_ad X 12 0)]) (st1 := [.int (am_b p7), .ref (am_ad X 12 0)]) (in_12 hX (by omega)) kk_12 mV_X12_isTurns ln_X12_205 rfl (Nat.le_of_ble_eq_true rfl) (Nat.le_of_ble_eq_true rfl) (k_X12_isTurns hX p6 hp7) dX12_readWave_133 rfl rfl ?_
  obtain ⟨p8, hp8, hf⟩ := am_bd hf
  refine g_cV (pc := 136) (As := [.int (am_b p7)]) (st := []) (st1 := []) (in_12 hX (by omega)) kk_12 mV_X12_must ln_X12_256 rfl (Nat.le_of_ble_eq_true rfl) (Nat.le_of_ble_eq_true rfl) (k_X12_must hX p7 p6 hp8) dX12_readWave_136 rfl rfl ?_
  refine g_aload_n (pc := 139) 0 rfl dX12_readWave_139 rfl ?_
  refine g_getC (pc := 140) (e := 0) (in_12 hX (by omega)) fr_X12_47 dX12_readWave_140 rfl ?_
  refine g_aload_n (pc := 143) 0 rfl dX12_readWave_143 rfl ?_
  refine g_iconst (pc := 144) (v := 2) dX12_readWave_144 (by decide) ?_
  refine g_iload_n (pc := 145) 1 rfl dX12_readWave_145 rfl ?_
  refine g_iconst (pc := 146) (v := 0) dX12_readWave_146 (by decide) ?_
  obtain ⟨p9, hp9, hf⟩ := am_bd hf
  refine g_cV (pc := 147) (As := [.int 2, .int (σ.1 1320 0 j2), .int 0]) (st := [.ref (am_ad X 1324 0)]) (st1 := [.int p9, .ref (am_ad X 1324 0)]) (in_12 hX (by omega)) kk_12 mV_X12_cell ln_X12_252 rfl (Nat.le_of_ble_eq_true rfl) (Nat.le_of_ble_eq_true rfl) (k_X12_cell hX 2 (σ.1 1320 0 j2) 0 p8 hp9) dX12_readWave_147 rfl rfl ?_
  refine g_aload_n (pc := 150) 0 rfl dX12_readWave_150 rfl ?_
  refine g_iconst (pc := 151) (v := 1) dX12_readWave_151 (by decide) ?_
  refine g_sipush (pc := 152) (v := 9999) dX12_readWave_152 (by decide) ?_
  obtain ⟨p10, hp10, hf⟩ := am_bd hf
  refine g_cV (pc := 155) (As := [.int 1, .int 9999]) (st := [.int p9, .ref (am_ad X 1324 0)]) (st1 := [.int p10.1, .int p9, .ref (am_ad X 1324 0)]) (in_12 hX (by omega)) kk_12 mV_X12_count ln_X12_260 rfl (Nat.le_of_ble_eq_true rfl) (Nat.le_of_ble_eq_true rfl) (k_X12_count hX 1 9999 p8 hp10) dX12_readWave_155 rfl rfl ?_
  obtain ⟨j11, hj11, hf⟩ := am_bd hf
  have gj11 := am_ix_lt hj11
  obtain ⟨s12, hs12, hf⟩ := am_bd hf
  refine g_sI (pc := 158) (in_1324 hX (by omega)) ak_1324 hj11 dX12_readWave_158 (Option.some.inj hs12) ?_
  refine g_aload_n (pc := 159) 0 rfl dX12_readWave_159 rfl ?_
  refine g_aload_n (pc := 160) 0 rfl dX12_readWave_160 rfl ?_
  obtain ⟨p13, hp13, hf⟩ := am_bd hf
  refine g_cV (pc := 161) (As := []) (st := [.ref (am_ad X 12 0)]) (st1 := [.int (am_b p13), .ref (am_ad X 12 0)]) (in_12 hX (by omega)) kk_12 mV_X12_isInWord ln_X12_208 rfl (Nat.le_of_ble_eq_true rfl) (Nat.le_of_ble_eq_true rfl) (k_X12_isInWord hX s12 hp13) dX12_readWave_161 rfl rfl ?_
  obtain ⟨p14, hp14, hf⟩ := am_bd hf
  refine g_cV (pc := 164) (As := [.int (am_b p13)]) (st := []) (st1 := []) (in_12 hX (by omega)) kk_12 mV_X12_must ln_X12_256 rfl (Nat.le_of_ble_eq_true rfl) (Nat.le_of_ble_eq_true rfl) (k_X12_must hX p13 s12 hp14) dX12_readWave_164 rfl rfl ?_
  refine g_aload_n (pc := 167) 0 rfl dX12_readWave_167 rfl ?_
  refine g_getC (pc := 168) (e := 0) (in_12 hX (by omega)) fr_X12_47 dX12_readWave_168 rfl ?_
  refine g_aload_n (pc := 171) 0 rfl dX12_readWave_171 rfl ?_
  refine g_iconst (pc := 172) (v := 2) dX12_readWave_172 (by decide) ?_
  refine g_iload_n (pc := 173) 1 rfl dX12_readWave_173 rfl ?_
  refine g_iconst (pc := 174) (v := 1) dX12_readWave_174 (by decide) ?_
  obtain ⟨p15, hp15, hf⟩ := am_bd hf
  refine g_cV (pc := 175) (As := [.int 2, .int (σ.1 1320 0 j2), .int 1]) (st := [.ref (am_ad X 1324 0)]) (st1 := [.int p15, .ref (am_ad X 1324 0)]) (in_12 hX (by omega)) kk_12 mV_X12_cell ln_X12_252 rfl (Nat.le_of_ble_eq_true rfl) (Nat.le_of_ble_eq_true rfl) (k_X12_cell hX 2 (σ.1 1320 0 j2) 1 p14 hp15) dX12_readWave_175 rfl rfl ?_
  refine g_aload_n (pc := 178) 0 rfl dX12_readWave_178 rfl ?_
  refine g_iconst (pc := 179) (v := 1) dX12_readWave_179 (by decide) ?_
  refine g_sipush (pc := 180) (v := 9999) dX12_readWave_180 (by decide) ?_
  obtain ⟨p16, hp16, hf⟩ := am_bd hf
  refine g_cV (pc := 183) (As := [.int 1, .int 9999]) (st := [.int p15, .ref (am_ad X 1324 0)]) (st1 := [.int p16.1, .int p15, .ref (am_ad X 1324 0)]) (in_12 hX (by omega)) kk_12 mV_X12_count ln_X12_260 rfl (Nat.le_of_ble_eq_true rfl) (Nat.le_of_ble_eq_true rfl) (k_X12_count hX 1 9999 p14 hp16) dX12_readWave_183 rfl rfl ?_
  obtain ⟨j17, hj17, hf⟩ := am_bd hf
  have gj17 := am_ix_lt hj17
  obtain ⟨s18, hs18, hf⟩ := am_bd hf
  refine g_sI (pc := 186) (in_1324 hX (by omega)) ak_1324 hj17 dX12_readWave_186 (Option.some.inj hs18) ?_
  refine g_iconst (pc := 187) (v := 0) dX12_readWave_187 (by decide) ?_
  refine g_istore_n (pc := 188) [(2, .int 0), (0, .ref (am_ad X 12 0)), (1, .int (σ.1 1320 0 j2))] dX12_readWave_188 rfl (Nat.le_of_ble_eq_true rfl) rfl ?_
  obtain ⟨w19, hw19, hf⟩ := am_bd hf
  refine am_sub [1, 2, 0] rfl (l_X12_readWave_189 hX (σ.1 1320 0 j2)  s18 (0, s18) hw19 ?_ ?_)
  · intro t19_0 e
    subst e
    replace hf := am_elL hf
    have ho := Option.some.inj hf
    subst ho
    exact g_vreturn (pc := 233) (st := []) rfl dX12_readWave_233 hk
  · intro u19_0 e
    subst e
    replace hf := am_elR hf
    refine g_aload_n (pc := 290) 0 rfl dX12_readWave_290 rfl ?_
    refine g_aload_n (pc := 291) 0 rfl dX12_readWave_291 rfl ?_
    refine g_getI (pc := 292) (in_12 hX (by omega)) fr_X12_167 dX12_readWave_292 ?_
    refine g_iconst (pc := 295) (v := 3) dX12_readWave_295 (by decide) ?_
    refine bi_ne (pc := 296) 303 dX12_readWave_296 rfl (fun c20 => ?_) (fun c20 => ?_)
    · replace hf := am_ifT c20 hf
      refine g_iconst (pc := 299) (v := 1) dX12_readWave_299 (by decide) ?_
      refine g_goto (pc := 300) 304 dX12_readWave_300 rfl ?_
      exact q_X12_readWave_304 hX true u19_0 hf hk
    replace hf := am_ifF c20 hf
    refine g_iconst (pc := 303) (v := 0) dX12_readWave_303 (by decide) ?_
    exact q_X12_readWave_304 hX false u19_0 hf hk
noncomputable def f_X12_readWave_38 (σ : am_H) : Option (am_H) :=
  if (σ.1 12 0 12) = 0 then
   ((am_ix 3 2).bind fun j2 =>
   if (σ.1 1320 0 j2) = 6 then
    ((f_X12_fail 6 (σ.1 12 0 15) σ).bind fun p4 =>
    f_X12_readWave_66 p4)
   else
   f_X12_readWave_66 σ)
  else
  f_X12_readWave_66 σ
set_option maxRecDepth 100000 in
set_option maxHeartbeats 4000000 in
theorem q_X12_readWave_38 {X : am_X} (hX : am_ks X = am_ksM) {Q : Option Value → am_H → Prop} (σ : am_H) {o : am_H} (hf : f_X12_readWave_38 σ = some o) (hk : Q none o) : am_G X gm_X12_readWave Q 38 [(0, .ref (am_ad X 12 0))] [] σ := by
  unfold f_X12_readWave_38 at hf
  refine g_aload_n (pc := 38) 0 rfl dX12_readWave_38 rfl ?_
  refine g_getI (pc := 39) (in_12 hX (by omega)) fr_X12_223 dX12_readWave_39 ?_
  refine bz_ne (pc := 42) 66 dX12_readWave_42 rfl (fun c1 => ?_) (fun c1 => ?_)
  · replace hf := am_ifT c1 hf
    refine g_aload_n (pc := 45) 0 rfl dX12_readWave_45 rfl ?_
    refine g_getC (pc := 46) (e := 0) (in_12 hX (by omega)) fr_X12_35 dX12_readWave_46 rfl ?_
    refine g_iconst (pc := 49) (v := 2) dX12_readWave_49 (by decide) ?_
    obtain ⟨j2, hj2, hf⟩ := am_bd hf
    have gj2 := am_ix_lt hj2
    refine g_aI (pc := 50) (in_1320 hX (by omega)) ak_1320 hj2 dX12_readWave_50 ?_
    refine g_bipush (pc := 51) (v := 6) dX12_readWave_51 (by decide) ?_
    refine bi_ne (pc := 53) 66 dX12_readWave_53 rfl (fun c3 => ?_) (fun c3 => ?_)
    · replace hf := am_ifT c3 hf
      refine g_aload_n (pc := 56) 0 rfl dX12_readWave_56 rfl ?_
      refine g_bipush (pc := 57) (v := 6) dX12_readWave_57 (by decide) ?_
      refine g_aload_n (pc := 59) 0 rfl dX12_readWave_59 rfl ?_
      refine g_getI (pc := 60) (in_12 hX (by omega)) fr_X12_161 dX12_readWave_60 ?_
      obtain ⟨p4, hp4, hf⟩ := am_bd hf
      refine g_cV (pc := 63) (As := [.int 6, .int (σ.1 12 0 15)]) (st := []) (st1 := []) (in_12 hX (by omega)) kk_12 mV_X12_fail ln_X12_229 rfl (Nat.le_of_ble_eq_true rfl) (Nat.le_of_ble_eq_true rfl) (k_X12_fail hX 6 (σ.1 12 0 15) σ hp4) dX12_readWave_63 rfl rfl ?_
      exact q_X12_readWave_66 hX p4 hf hk
    replace hf := am_ifF c3 hf
    exact q_X12_readWave_66 hX σ hf hk
  replace hf := am_ifF c1 hf
  exact q_X12_readWave_66 hX σ hf hk
noncomputable def f_X12_readWave_15 (σ : am_H) : Option (am_H) :=
  if (σ.1 12 0 12) = 0 then
   ((f_X12_isNamed σ).bind fun p2 =>
   if p2 = true then
    ((f_X12_fail 3 (σ.1 12 0 15) σ).bind fun p4 =>
    f_X12_readWave_38 p4)
   else
   f_X12_readWave_38 σ)
  else
  f_X12_readWave_38 σ
set_option maxRecDepth 100000 in
set_option maxHeartbeats 4000000 in
theorem q_X12_readWave_15 {X : am_X} (hX : am_ks X = am_ksM) {Q : Option Value → am_H → Prop} (σ : am_H) {o : am_H} (hf : f_X12_readWave_15 σ = some o) (hk : Q none o) : am_G X gm_X12_readWave Q 15 [(0, .ref (am_ad X 12 0))] [] σ := by
  unfold f_X12_readWave_15 at hf
  refine g_aload_n (pc := 15) 0 rfl dX12_readWave_15 rfl ?_
  refine g_getI (pc := 16) (in_12 hX (by omega)) fr_X12_223 dX12_readWave_16 ?_
  refine bz_ne (pc := 19) 38 dX12_readWave_19 rfl (fun c1 => ?_) (fun c1 => ?_)
  · replace hf := am_ifT c1 hf
    refine g_aload_n (pc := 22) 0 rfl dX12_readWave_22 rfl ?_
    obtain ⟨p2, hp2, hf⟩ := am_bd hf
    refine g_cV (pc := 23) (As := []) (st := []) (st1 := [.int (am_b p2)]) (in_12 hX (by omega)) kk_12 mV_X12_isNamed ln_X12_249 rfl (Nat.le_of_ble_eq_true rfl) (Nat.le_of_ble_eq_true rfl) (k_X12_isNamed hX σ hp2) dX12_readWave_23 rfl rfl ?_
    refine bt_eq (pc := 26) 38 dX12_readWave_26 rfl (fun c3 => ?_) (fun c3 => ?_)
    · replace hf := am_ifT c3 hf
      refine g_aload_n (pc := 29) 0 rfl dX12_readWave_29 rfl ?_
      refine g_iconst (pc := 30) (v := 3) dX12_readWave_30 (by decide) ?_
      refine g_aload_n (pc := 31) 0 rfl dX12_readWave_31 rfl ?_
      refine g_getI (pc := 32) (in_12 hX (by omega)) fr_X12_161 dX12_readWave_32 ?_
      obtain ⟨p4, hp4, hf⟩ := am_bd hf
      refine g_cV (pc := 35) (As := [.int 3, .int (σ.1 12 0 15)]) (st := []) (st1 := []) (in_12 hX (by omega)) kk_12 mV_X12_fail ln_X12_229 rfl (Nat.le_of_ble_eq_true rfl) (Nat.le_of_ble_eq_true rfl) (k_X12_fail hX 3 (σ.1 12 0 15) σ hp4) dX12_readWave_35 rfl rfl ?_
      exact q_X12_readWave_38 hX p4 hf hk
    replace hf := am_ifF c3 hf
    exact q_X12_readWave_38 hX σ hf hk
  replace hf := am_ifF c1 hf
  exact q_X12_readWave_38 hX σ hf hk
noncomputable def f_X12_readWave (σ : am_H) : Option (am_H) :=
  (f_X12_next σ).bind fun p1 =>
  (f_X12_isName p1).bind fun p2 =>
  if p2 = true then
   (f_X12_readWave_15 p1)
  else
  (f_X12_wrong p1).bind fun p4 =>
  f_X12_readWave_15 p4
set_option maxRecDepth 100000 in
set_option maxHeartbeats 4000000 in
theorem q_X12_readWave {X : am_X} (hX : am_ks X = am_ksM) {Q : Option Value → am_H → Prop} (σ : am_H) {o : am_H} (hf : f_X12_readWave σ = some o) (hk : Q none o) : am_G X gm_X12_readWave Q 0 [(0, .ref (am_ad X 12 0))] [] σ := by
  unfold f_X12_readWave at hf
  refine g_aload_n (pc := 0) 0 rfl dX12_readWave_0 rfl ?_
  obtain ⟨p1, hp1, hf⟩ := am_bd hf
  refine g_cV (pc := 1) (As := []) (st := []) (st1 := []) (in_12 hX (by omega)) kk_12 mV_X12_next ln_X12_233 rfl (Nat.le_of_ble_eq_true rfl) (Nat.le_of_ble_eq_true rfl) (k_X12_next hX σ hp1) dX12_readWave_1 rfl rfl ?_
  refine g_aload_n (pc := 4) 0 rfl dX12_readWave_4 rfl ?_
  obtain ⟨p2, hp2, hf⟩ := am_bd hf
  refine g_cV (pc := 5) (As := []) (st := []) (st1 := [.int (am_b p2)]) (in_12 hX (by omega)) kk_12 mV_X12_isName ln_X12_246 rfl (Nat.le_of_ble_eq_true rfl) (Nat.le_of_ble_eq_true rfl) (k_X12_isName hX p1 hp2) dX12_readWave_5 rfl rfl ?_
  refine bt_ne (pc := 8) 15 dX12_readWave_8 rfl (fun c3 => ?_) (fun c3 => ?_)
  · replace hf := am_ifT c3 hf
    exact q_X12_readWave_15 hX p1 hf hk
  replace hf := am_ifF c3 hf
  refine g_aload_n (pc := 11) 0 rfl dX12_readWave_11 rfl ?_
  obtain ⟨p4, hp4, hf⟩ := am_bd hf
  refine g_cV (pc := 12) (As := []) (st := []) (st1 := []) (in_12 hX (by omega)) kk_12 mV_X12_wrong ln_X12_236 rfl (Nat.le_of_ble_eq_true rfl) (Nat.le_of_ble_eq_true rfl) (k_X12_wrong hX p1 hp4) dX12_readWave_12 rfl rfl ?_
  exact q_X12_readWave_15 hX p4 hf hk
theorem k_X12_readWave {X : am_X} (hX : am_ks X = am_ksM) (σ : am_H) {o : am_H} (hf : f_X12_readWave σ = some o) : am_C X gm_X12_readWave [.ref (am_ad X 12 0)] σ (am_is none o) :=
  am_ofG rfl (Nat.le_of_ble_eq_true rfl) rfl (q_X12_readWave hX σ hf ⟨rfl, rfl⟩)
theorem dX12_readBox_0 : decode cX12_readBox 0 = .ok (.aload_n 0, 1) := by decide +kernel
theorem dX12_readBox_1 : decode cX12_readBox 1 = .ok (.getfield 38, 3) := by decide +kernel
theorem dX12_readBox_4 : decode cX12_readBox 4 = .ok (.iconst 2, 1) := by decide +kernel
theorem dX12_readBox_5 : decode cX12_readBox 5 = .ok (.iaload, 1) := by decide +kernel
theorem dX12_readBox_6 : decode cX12_readBox 6 = .ok (.bipush 10, 2) := by decide +kernel
theorem dX12_readBox_8 : decode cX12_readBox 8 = .ok (.if_icmp .ne 13, 3) := by decide +kernel
theorem dX12_readBox_11 : decode cX12_readBox 11 = .ok (.aload_n 0, 1) := by decide +kernel
theorem dX12_readBox_12 : decode cX12_readBox 12 = .ok (.bipush 6, 2) := by decide +kernel
theorem dX12_readBox_14 : decode cX12_readBox 14 = .ok (.aload_n 0, 1) := by decide +kernel
theorem dX12_readBox_15 : decode cX12_readBox 15 = .ok (.getfield 161, 3) := by decide +kernel
theorem dX12_readBox_18 : decode cX12_readBox 18 = .ok (.invokevirtual 229, 3) := by decide +kernel
theorem dX12_readBox_21 : decode cX12_readBox 21 = .ok (.aload_n 0, 1) := by decide +kernel
theorem dX12_readBox_22 : decode cX12_readBox 22 = .ok (.getfield 223, 3) := by decide +kernel
theorem dX12_readBox_25 : decode cX12_readBox 25 = .ok (.ifCond .le 4, 3) := by decide +kernel
theorem dX12_readBox_28 : decode cX12_readBox 28 = .ok (.return_, 1) := by decide +kernel
theorem dX12_readBox_29 : decode cX12_readBox 29 = .ok (.aload_n 0, 1) := by decide +kernel
theorem dX12_readBox_30 : decode cX12_readBox 30 = .ok (.invokevirtual 233, 3) := by decide +kernel
theorem dX12_readBox_33 : decode cX12_readBox 33 = .ok (.aload_n 0, 1) := by decide +kernel
theorem dX12_readBox_34 : decode cX12_readBox 34 = .ok (.iconst 0, 1) := by decide +kernel
theorem dX12_readBox_35 : decode cX12_readBox 35 = .ok (.bipush 9, 2) := by decide +kernel
theorem dX12_readBox_37 : decode cX12_readBox 37 = .ok (.invokevirtual 260, 3) := by decide +kernel
theorem dX12_readBox_40 : decode cX12_readBox 40 = .ok (.istore_n 1, 1) := by decide +kernel
theorem dX12_readBox_41 : decode cX12_readBox 41 = .ok (.aload_n 0, 1) := by decide +kernel
theorem dX12_readBox_42 : decode cX12_readBox 42 = .ok (.aload_n 0, 1) := by decide +kernel
theorem dX12_readBox_43 : decode cX12_readBox 43 = .ok (.invokevirtual 214, 3) := by decide +kernel
theorem dX12_readBox_46 : decode cX12_readBox 46 = .ok (.invokevirtual 256, 3) := by decide +kernel
theorem dX12_readBox_49 : decode cX12_readBox 49 = .ok (.aload_n 0, 1) := by decide +kernel
theorem dX12_readBox_50 : decode cX12_readBox 50 = .ok (.iconst 5, 1) := by decide +kernel
theorem dX12_readBox_51 : decode cX12_readBox 51 = .ok (.sipush 200, 3) := by decide +kernel
theorem dX12_readBox_54 : decode cX12_readBox 54 = .ok (.invokevirtual 243, 3) := by decide +kernel
theorem dX12_readBox_57 : decode cX12_readBox 57 = .ok (.istore_n 2, 1) := by decide +kernel
theorem dX12_readBox_58 : decode cX12_readBox 58 = .ok (.iconst 0, 1) := by decide +kernel
theorem dX12_readBox_59 : decode cX12_readBox 59 = .ok (.istore_n 3, 1) := by decide +kernel
theorem dX12_readBox_60 : decode cX12_readBox 60 = .ok (.iload_n 3, 1) := by decide +kernel
theorem dX12_readBox_61 : decode cX12_readBox 61 = .ok (.aload_n 0, 1) := by decide +kernel
theorem dX12_readBox_62 : decode cX12_readBox 62 = .ok (.getfield 38, 3) := by decide +kernel
theorem dX12_readBox_65 : decode cX12_readBox 65 = .ok (.iconst 2, 1) := by decide +kernel
theorem dX12_readBox_66 : decode cX12_readBox 66 = .ok (.iaload, 1) := by decide +kernel
theorem dX12_readBox_67 : decode cX12_readBox 67 = .ok (.if_icmp .ge 43, 3) := by decide +kernel
theorem dX12_readBox_70 : decode cX12_readBox 70 = .ok (.aload_n 0, 1) := by decide +kernel
theorem dX12_readBox_71 : decode cX12_readBox 71 = .ok (.getfield 223, 3) := by decide +kernel
theorem dX12_readBox_74 : decode cX12_readBox 74 = .ok (.ifCond .ne 36, 3) := by decide +kernel
theorem dX12_readBox_77 : decode cX12_readBox 77 = .ok (.aload_n 0, 1) := by decide +kernel
theorem dX12_readBox_78 : decode cX12_readBox 78 = .ok (.getfield 50, 3) := by decide +kernel
theorem dX12_readBox_81 : decode cX12_readBox 81 = .ok (.bipush 40, 2) := by decide +kernel
theorem dX12_readBox_83 : decode cX12_readBox 83 = .ok (.iconst 2, 1) := by decide +kernel
theorem dX12_readBox_84 : decode cX12_readBox 84 = .ok (.iload_n 3, 1) := by decide +kernel
theorem dX12_readBox_85 : decode cX12_readBox 85 = .ok (.imul, 1) := by decide +kernel
theorem dX12_readBox_86 : decode cX12_readBox 86 = .ok (.iadd, 1) := by decide +kernel
theorem dX12_readBox_87 : decode cX12_readBox 87 = .ok (.iconst 1, 1) := by decide +kernel
theorem dX12_readBox_88 : decode cX12_readBox 88 = .ok (.iadd, 1) := by decide +kernel
theorem dX12_readBox_89 : decode cX12_readBox 89 = .ok (.iaload, 1) := by decide +kernel
theorem dX12_readBox_90 : decode cX12_readBox 90 = .ok (.iload_n 2, 1) := by decide +kernel
theorem dX12_readBox_91 : decode cX12_readBox 91 = .ok (.if_icmp .ne 13, 3) := by decide +kernel
theorem dX12_readBox_94 : decode cX12_readBox 94 = .ok (.aload_n 0, 1) := by decide +kernel
theorem dX12_readBox_95 : decode cX12_readBox 95 = .ok (.bipush 6, 2) := by decide +kernel
theorem dX12_readBox_97 : decode cX12_readBox 97 = .ok (.aload_n 0, 1) := by decide +kernel
theorem dX12_readBox_98 : decode cX12_readBox 98 = .ok (.getfield 161, 3) := by decide +kernel
theorem dX12_readBox_101 : decode cX12_readBox 101 = .ok (.invokevirtual 229, 3) := by decide +kernel
theorem dX12_readBox_104 : decode cX12_readBox 104 = .ok (.iinc 3 1, 3) := by decide +kernel
theorem dX12_readBox_107 : decode cX12_readBox 107 = .ok (.goto (-47), 3) := by decide +kernel
theorem dX12_readBox_110 : decode cX12_readBox 110 = .ok (.aload_n 0, 1) := by decide +kernel
theorem dX12_readBox_111 : decode cX12_readBox 111 = .ok (.getfield 223, 3) := by decide +kernel
theorem dX12_readBox_114 : decode cX12_readBox 114 = .ok (.ifCond .ne 7, 3) := by decide +kernel
theorem dX12_readBox_117 : decode cX12_readBox 117 = .ok (.aload_n 0, 1) := by decide +kernel
theorem dX12_readBox_118 : decode cX12_readBox 118 = .ok (.invokevirtual 233, 3) := by decide +kernel
theorem dX12_readBox_121 : decode cX12_readBox 121 = .ok (.aload_n 0, 1) := by decide +kernel
theorem dX12_readBox_122 : decode cX12_readBox 122 = .ok (.aload_n 0, 1) := by decide +kernel
theorem dX12_readBox_123 : decode cX12_readBox 123 = .ok (.getfield 167, 3) := by decide +kernel
theorem dX12_readBox_126 : decode cX12_readBox 126 = .ok (.iconst 3, 1) := by decide +kernel
theorem dX12_readBox_127 : decode cX12_readBox 127 = .ok (.if_icmp .ne 7, 3) := by decide +kernel
theorem dX12_readBox_130 : decode cX12_readBox 130 = .ok (.iconst 1, 1) := by decide +kernel
theorem dX12_readBox_131 : decode cX12_readBox 131 = .ok (.goto 4, 3) := by decide +kernel
theorem dX12_readBox_134 : decode cX12_readBox 134 = .ok (.iconst 0, 1) := by decide +kernel
theorem dX12_readBox_135 : decode cX12_readBox 135 = .ok (.invokevirtual 256, 3) := by decide +kernel
theorem dX12_readBox_138 : decode cX12_readBox 138 = .ok (.aload_n 0, 1) := by decide +kernel
theorem dX12_readBox_139 : decode cX12_readBox 139 = .ok (.getfield 223, 3) := by decide +kernel
theorem dX12_readBox_142 : decode cX12_readBox 142 = .ok (.ifCond .le 4, 3) := by decide +kernel
theorem dX12_readBox_145 : decode cX12_readBox 145 = .ok (.return_, 1) := by decide +kernel
theorem dX12_readBox_146 : decode cX12_readBox 146 = .ok (.aload_n 0, 1) := by decide +kernel
theorem dX12_readBox_147 : decode cX12_readBox 147 = .ok (.getfield 50, 3) := by decide +kernel
theorem dX12_readBox_150 : decode cX12_readBox 150 = .ok (.bipush 40, 2) := by decide +kernel
theorem dX12_readBox_152 : decode cX12_readBox 152 = .ok (.iconst 2, 1) := by decide +kernel
theorem dX12_readBox_153 : decode cX12_readBox 153 = .ok (.aload_n 0, 1) := by decide +kernel
theorem dX12_readBox_154 : decode cX12_readBox 154 = .ok (.getfield 38, 3) := by decide +kernel
theorem dX12_readBox_157 : decode cX12_readBox 157 = .ok (.iconst 2, 1) := by decide +kernel
theorem dX12_readBox_158 : decode cX12_readBox 158 = .ok (.iaload, 1) := by decide +kernel
theorem dX12_readBox_159 : decode cX12_readBox 159 = .ok (.imul, 1) := by decide +kernel
theorem dX12_readBox_160 : decode cX12_readBox 160 = .ok (.iadd, 1) := by decide +kernel
theorem dX12_readBox_161 : decode cX12_readBox 161 = .ok (.iload_n 1, 1) := by decide +kernel
theorem dX12_readBox_162 : decode cX12_readBox 162 = .ok (.iastore, 1) := by decide +kernel
theorem dX12_readBox_163 : decode cX12_readBox 163 = .ok (.aload_n 0, 1) := by decide +kernel
theorem dX12_readBox_164 : decode cX12_readBox 164 = .ok (.getfield 50, 3) := by decide +kernel
theorem dX12_readBox_167 : decode cX12_readBox 167 = .ok (.bipush 40, 2) := by decide +kernel
theorem dX12_readBox_169 : decode cX12_readBox 169 = .ok (.iconst 2, 1) := by decide +kernel
theorem dX12_readBox_170 : decode cX12_readBox 170 = .ok (.aload_n 0, 1) := by decide +kernel
theorem dX12_readBox_171 : decode cX12_readBox 171 = .ok (.getfield 38, 3) := by decide +kernel
theorem dX12_readBox_174 : decode cX12_readBox 174 = .ok (.iconst 2, 1) := by decide +kernel
theorem dX12_readBox_175 : decode cX12_readBox 175 = .ok (.iaload, 1) := by decide +kernel
theorem dX12_readBox_176 : decode cX12_readBox 176 = .ok (.imul, 1) := by decide +kernel
theorem dX12_readBox_177 : decode cX12_readBox 177 = .ok (.iadd, 1) := by decide +kernel
theorem dX12_readBox_178 : decode cX12_readBox 178 = .ok (.iconst 1, 1) := by decide +kernel
theorem dX12_readBox_179 : decode cX12_readBox 179 = .ok (.iadd, 1) := by decide +kernel
theorem dX12_readBox_180 : decode cX12_readBox 180 = .ok (.iload_n 2, 1) := by decide +kernel
theorem dX12_readBox_181 : decode cX12_readBox 181 = .ok (.iastore, 1) := by decide +kernel
theorem dX12_readBox_182 : decode cX12_readBox 182 = .ok (.aload_n 0, 1) := by decide +kernel
theorem dX12_readBox_183 : decode cX12_readBox 183 = .ok (.getfield 38, 3) := by decide +kernel
theorem dX12_readBox_186 : decode cX12_readBox 186 = .ok (.iconst 2, 1) := by decide +kernel
theorem dX12_readBox_187 : decode cX12_readBox 187 = .ok (.dup2, 1) := by decide +kernel
theorem dX12_readBox_188 : decode cX12_readBox 188 = .ok (.iaload, 1) := by decide +kernel
theorem dX12_readBox_189 : decode cX12_readBox 189 = .ok (.iconst 1, 1) := by decide +kernel
theorem dX12_readBox_190 : decode cX12_readBox 190 = .ok (.iadd, 1) := by decide +kernel
theorem dX12_readBox_191 : decode cX12_readBox 191 = .ok (.iastore, 1) := by decide +kernel
theorem dX12_readBox_192 : decode cX12_readBox 192 = .ok (.return_, 1) := by decide +kernel
noncomputable def f_X12_readBox_60 (v1 : Int32) (v2 : Int32) (v3 : Int32) (σ : am_H) : Option ((Int32 × am_H) ⊕ (am_H)) :=
  (am_ix 3 2).bind fun j1 =>
  if v3 < (σ.1 1321 0 j1) then
   (if (σ.1 12 0 12) = 0 then
    ((am_ix 60 ((40 + (2 * v3)) + 1)).bind fun j4 =>
    if (σ.1 1325 0 j4) = v2 then
     ((f_X12_fail 6 (σ.1 12 0 15) σ).bind fun p6 =>
     some (.inl ((v3 + 1), p6)))
    else
    some (.inl ((v3 + 1), σ)))
   else
   some (.inr σ))
  else
  some (.inr σ)
set_option maxRecDepth 100000 in
set_option maxHeartbeats 4000000 in
theorem q_X12_readBox_60 {X : am_X} (hX : am_ks X = am_ksM) {Q : Option Value → am_H → Prop} (v1 : Int32) (v2 : Int32) (v3 : Int32) (σ : am_H) {o : (Int32 × am_H) ⊕ (am_H)} (hf : f_X12_readBox_60 v1 v2 v3 σ = some o) (hk0 : ∀ s, o = .inl s → am_G X gm_X12_readBox Q 60 [(0, .ref (am_ad X 12 0)), (1, .int v1), (2, .int v2), (3, .int s.1)] [] s.2) (hk1 : ∀ t, o = .inr t → am_G X gm_X12_readBox Q 110 [(0, .ref (am_ad X 12 0)), (1, .int v1), (2, .int v2)] [] t) : am_G X gm_X12_readBox Q 60 [(0, .ref (am_ad X 12 0)), (1, .int v1), (2, .int v2), (3, .int v3)] [] σ := by
  unfold f_X12_readBox_60 at hf
  refine g_iload_n (pc := 60) 3 rfl dX12_readBox_60 rfl ?_
  refine g_aload_n (pc := 61) 0 rfl dX12_readBox_61 rfl ?_
  refine g_getC (pc := 62) (e := 0) (in_12 hX (by omega)) fr_X12_38 dX12_readBox_62 rfl ?_
  refine g_iconst (pc := 65) (v := 2) dX12_readBox_65 (by decide) ?_
  obtain ⟨j1, hj1, hf⟩ := am_bd hf
  have gj1 := am_ix_lt hj1
  refine g_aI (pc := 66) (in_1321 hX (by omega)) ak_1321 hj1 dX12_readBox_66 ?_
  refine bi_ge (pc := 67) 110 dX12_readBox_67 rfl (fun c2 => ?_) (fun c2 => ?_)
  · replace hf := am_ifT c2 hf
    refine g_aload_n (pc := 70) 0 rfl dX12_readBox_70 rfl ?_
    refine g_getI (pc := 71) (in_12 hX (by omega)) fr_X12_223 dX12_readBox_71 ?_
    refine bz_ne (pc := 74) 110 dX12_readBox_74 rfl (fun c3 => ?_) (fun c3 => ?_)
    · replace hf := am_ifT c3 hf
      refine g_aload_n (pc := 77) 0 rfl dX12_readBox_77 rfl ?_
      refine g_getC (pc := 78) (e := 0) (in_12 hX (by omega)) fr_X12_50 dX12_readBox_78 rfl ?_
      refine g_bipush (pc := 81) (v := 40) dX12_readBox_81 (by decide) ?_
      refine g_iconst (pc := 83) (v := 2) dX12_readBox_83 (by decide) ?_
      refine g_iload_n (pc := 84) 3 rfl dX12_readBox_84 rfl ?_
      refine g_imul (pc := 85) dX12_readBox_85 ?_
      refine g_iadd (pc := 86) dX12_readBox_86 ?_
      refine g_iconst (pc := 87) (v := 1) dX12_readBox_87 (by decide) ?_
      refine g_iadd (pc := 88) dX12_readBox_88 ?_
      obtain ⟨j4, hj4, hf⟩ := am_bd hf
      have gj4 := am_ix_lt hj4
      refine g_aI (pc := 89) (in_1325 hX (by omega)) ak_1325 hj4 dX12_readBox_89 ?_
      refine g_iload_n (pc := 90) 2 rfl dX12_readBox_90 rfl ?_
      refine bi_ne (pc := 91) 104 dX12_readBox_91 rfl (fun c5 => ?_) (fun c5 => ?_)
      · replace hf := am_ifT c5 hf
        refine g_aload_n (pc := 94) 0 rfl dX12_readBox_94 rfl ?_
        refine g_bipush (pc := 95) (v := 6) dX12_readBox_95 (by decide) ?_
        refine g_aload_n (pc := 97) 0 rfl dX12_readBox_97 rfl ?_
        refine g_getI (pc := 98) (in_12 hX (by omega)) fr_X12_161 dX12_readBox_98 ?_
        obtain ⟨p6, hp6, hf⟩ := am_bd hf
        refine g_cV (pc := 101) (As := [.int 6, .int (σ.1 12 0 15)]) (st := []) (st1 := []) (in_12 hX (by omega)) kk_12 mV_X12_fail ln_X12_229 rfl (Nat.le_of_ble_eq_true rfl) (Nat.le_of_ble_eq_true rfl) (k_X12_fail hX 6 (σ.1 12 0 15) σ hp6) dX12_readBox_101 rfl rfl ?_
        refine g_iinc (pc := 104) (v := (v3 + 1)) 3 [(3, .int (v3 + 1)), (0, .ref (am_ad X 12 0)), (1, .int v1), (2, .int v2)] dX12_readBox_104 rfl rfl (Nat.le_of_ble_eq_true rfl) rfl ?_
        refine g_goto (pc := 107) 60 dX12_readBox_107 rfl ?_
        have hz := hk0 _ (Option.some.inj hf).symm
        exact am_sub [1, 2, 3, 0] rfl hz
      replace hf := am_ifF c5 hf
      refine g_iinc (pc := 104) (v := (v3 + 1)) 3 [(3, .int (v3 + 1)), (0, .ref (am_ad X 12 0)), (1, .int v1), (2, .int v2)] dX12_readBox_104 rfl rfl (Nat.le_of_ble_eq_true rfl) rfl ?_
      refine g_goto (pc := 107) 60 dX12_readBox_107 rfl ?_
      have hz := hk0 _ (Option.some.inj hf).symm
      exact am_sub [1, 2, 3, 0] rfl hz
    replace hf := am_ifF c3 hf
    have hz := hk1 _ (Option.some.inj hf).symm
    exact am_sub [0, 1, 2] rfl hz
  replace hf := am_ifF c2 hf
  have hz := hk1 _ (Option.some.inj hf).symm
  exact am_sub [0, 1, 2] rfl hz
set_option maxRecDepth 100000 in
set_option maxHeartbeats 4000000 in
theorem l_X12_readBox_60 {X : am_X} (hX : am_ks X = am_ksM) {Q : Option Value → am_H → Prop} (v1 : Int32) (v2 : Int32) (σ : am_H) (s : Int32 × am_H) {o : am_H} (hf : am_loop (fun s => f_X12_readBox_60 v1 v2 s.1 s.2) s = some o) (hk1 : ∀ t, o = t → am_G X gm_X12_readBox Q 110 [(0, .ref (am_ad X 12 0)), (1, .int v1), (2, .int v2)] [] t) : am_G X gm_X12_readBox Q 60 [(0, .ref (am_ad X 12 0)), (1, .int v1), (2, .int v2), (3, .int s.1)] [] s.2 := by
  refine am_loop_ind (P := fun s => am_G X gm_X12_readBox Q 60 [(0, .ref (am_ad X 12 0)), (1, .int v1), (2, .int v2), (3, .int s.1)] [] s.2) (K := fun r => r = o) ?_ hf rfl
  intro s o1 hb hi hr
  exact q_X12_readBox_60 hX v1 v2 s.1  s.2 hb hi (fun t e => hk1 t (hr _ e).symm)
noncomputable def f_X12_readBox_135 (v1 : Int32) (v2 : Int32) (k1 : Bool) (σ : am_H) : Option (am_H) :=
  (f_X12_must k1 σ).bind fun p1 =>
  if 0 < (p1.1 12 0 12) then
   (some p1)
  else
  (am_ix 3 2).bind fun j3 =>
  (am_ix 60 (40 + (2 * (p1.1 1321 0 j3)))).bind fun j4 =>
  (some (am_wI p1 1325 0 j4 v1)).bind fun s5 =>
  (am_ix 3 2).bind fun j6 =>
  (am_ix 60 ((40 + (2 * (s5.1 1321 0 j6))) + 1)).bind fun j7 =>
  (some (am_wI s5 1325 0 j7 v2)).bind fun s8 =>
  (am_ix 3 2).bind fun j9 =>
  (am_ix 3 2).bind fun j10 =>
  (some (am_wI s8 1321 0 j10 ((s8.1 1321 0 j9) + 1))).bind fun s11 =>
  some s11
set_option maxRecDepth 100000 in
set_option maxHeartbeats 4000000 in
theorem q_X12_readBox_135 {X : am_X} (hX : am_ks X = am_ksM) {Q : Option Value → am_H → Prop} (v1 : Int32) (v2 : Int32) (k1 : Bool) (σ : am_H) {o : am_H} (hf : f_X12_readBox_135 v1 v2 k1 σ = some o) (hk : Q none o) : am_G X gm_X12_readBox Q 135 [(0, .ref (am_ad X 12 0)), (1, .int v1), (2, .int v2)] [.int (am_b k1), .ref (am_ad X 12 0)] σ := by
  unfold f_X12_readBox_135 at hf
  obtain ⟨p1, hp1, hf⟩ := am_bd hf
  refine g_cV (pc := 135) (As := [.int (am_b k1)]) (st := []) (st1 := []) (in_12 hX (by omega)) kk_12 mV_X12_must ln_X12_256 rfl (Nat.le_of_ble_eq_true rfl) (Nat.le_of_ble_eq_true rfl) (k_X12_must hX k1 σ hp1) dX12_readBox_135 rfl rfl ?_
  refine g_aload_n (pc := 138) 0 rfl dX12_readBox_138 rfl ?_
  refine g_getI (pc := 139) (in_12 hX (by omega)) fr_X12_223 dX12_readBox_139 ?_
  refine bz_le (pc := 142) 146 dX12_readBox_142 rfl (fun c2 => ?_) (fun c2 => ?_)
  · replace hf := am_ifT c2 hf
    have ho := Option.some.inj hf
    subst ho
    exact g_vreturn (pc := 145) (st := []) rfl dX12_readBox_145 hk
  replace hf := am_ifF c2 hf
  refine g_aload_n (pc := 146) 0 rfl dX12_readBox_146 rfl ?_
  refine g_getC (pc := 147) (e := 0) (in_12 hX (by omega)) fr_X12_50 dX12_readBox_147 rfl ?_
  refine g_bipush (pc := 150) (v := 40) dX12_readBox_150 (by decide) ?_
  refine g_iconst (pc := 152) (v := 2) dX12_readBox_152 (by decide) ?_
  refine g_aload_n (pc := 153) 0 rfl dX12_readBox_153 rfl ?_
  refine g_getC (pc := 154) (e := 0) (in_12 hX (by omega)) fr_X12_38 dX12_readBox_154 rfl ?_
  refine g_iconst (pc := 157) (v := 2) dX12_readBox_157 (by decide) ?_
  obtain ⟨j3, hj3, hf⟩ := am_bd hf
  have gj3 := am_ix_lt hj3
  refine g_aI (pc := 158) (in_1321 hX (by omega)) ak_1321 hj3 dX12_readBox_158 ?_
  refine g_imul (pc := 159) dX12_readBox_159 ?_
  refine g_iadd (pc := 160) dX12_readBox_160 ?_
  refine g_iload_n (pc := 161) 1 rfl dX12_readBox_161 rfl ?_
  obtain ⟨j4, hj4, hf⟩ := am_bd hf
  have gj4 := am_ix_lt hj4
  obtain ⟨s5, hs5, hf⟩ := am_bd hf
  refine g_sI (pc := 162) (in_1325 hX (by omega)) ak_1325 hj4 dX12_readBox_162 (Option.some.inj hs5) ?_
  refine g_aload_n (pc := 163) 0 rfl dX12_readBox_163 rfl ?_
  refine g_getC (pc := 164) (e := 0) (in_12 hX (by omega)) fr_X12_50 dX12_readBox_164 rfl ?_
  refine g_bipush (pc := 167) (v := 40) dX12_readBox_167 (by decide) ?_
  refine g_iconst (pc := 169) (v := 2) dX12_readBox_169 (by decide) ?_
  refine g_aload_n (pc := 170) 0 rfl dX12_readBox_170 rfl ?_
  refine g_getC (pc := 171) (e := 0) (in_12 hX (by omega)) fr_X12_38 dX12_readBox_171 rfl ?_
  refine g_iconst (pc := 174) (v := 2) dX12_readBox_174 (by decide) ?_
  obtain ⟨j6, hj6, hf⟩ := am_bd hf
  have gj6 := am_ix_lt hj6
  refine g_aI (pc := 175) (in_1321 hX (by omega)) ak_1321 hj6 dX12_readBox_175 ?_
  refine g_imul (pc := 176) dX12_readBox_176 ?_
  refine g_iadd (pc := 177) dX12_readBox_177 ?_
  refine g_iconst (pc := 178) (v := 1) dX12_readBox_178 (by decide) ?_
  refine g_iadd (pc := 179) dX12_readBox_179 ?_
  refine g_iload_n (pc := 180) 2 rfl dX12_readBox_180 rfl ?_
  obtain ⟨j7, hj7, hf⟩ := am_bd hf
  have gj7 := am_ix_lt hj7
  obtain ⟨s8, hs8, hf⟩ := am_bd hf
  refine g_sI (pc := 181) (in_1325 hX (by omega)) ak_1325 hj7 dX12_readBox_181 (Option.some.inj hs8) ?_
  refine g_aload_n (pc := 182) 0 rfl dX12_readBox_182 rfl ?_
  refine g_getC (pc := 183) (e := 0) (in_12 hX (by omega)) fr_X12_38 dX12_readBox_183 rfl ?_
  refine g_iconst (pc := 186) (v := 2) dX12_readBox_186 (by decide) ?_
  refine g_dup2_11 (pc := 187) dX12_readBox_187 rfl rfl ?_
  obtain ⟨j9, hj9, hf⟩ := am_bd hf
  have gj9 := am_ix_lt hj9
  refine g_aI (pc := 188) (in_1321 hX (by omega)) ak_1321 hj9 dX12_readBox_188 ?_
  refine g_iconst (pc := 189) (v := 1) dX12_readBox_189 (by decide) ?_
  refine g_iadd (pc := 190) dX12_readBox_190 ?_
  obtain ⟨j10, hj10, hf⟩ := am_bd hf
  have gj10 := am_ix_lt hj10
  obtain ⟨s11, hs11, hf⟩ := am_bd hf
  refine g_sI (pc := 191) (in_1321 hX (by omega)) ak_1321 hj10 dX12_readBox_191 (Option.some.inj hs11) ?_
  have ho := Option.some.inj hf
  subst ho
  exact g_vreturn (pc := 192) (st := []) rfl dX12_readBox_192 hk
noncomputable def f_X12_readBox_121 (v1 : Int32) (v2 : Int32) (σ : am_H) : Option (am_H) :=
  if (σ.1 12 0 14) = 3 then
   (f_X12_readBox_135 v1 v2 true σ)
  else
  f_X12_readBox_135 v1 v2 false σ
set_option maxRecDepth 100000 in
set_option maxHeartbeats 4000000 in
theorem q_X12_readBox_121 {X : am_X} (hX : am_ks X = am_ksM) {Q : Option Value → am_H → Prop} (v1 : Int32) (v2 : Int32) (σ : am_H) {o : am_H} (hf : f_X12_readBox_121 v1 v2 σ = some o) (hk : Q none o) : am_G X gm_X12_readBox Q 121 [(0, .ref (am_ad X 12 0)), (1, .int v1), (2, .int v2)] [] σ := by
  unfold f_X12_readBox_121 at hf
  refine g_aload_n (pc := 121) 0 rfl dX12_readBox_121 rfl ?_
  refine g_aload_n (pc := 122) 0 rfl dX12_readBox_122 rfl ?_
  refine g_getI (pc := 123) (in_12 hX (by omega)) fr_X12_167 dX12_readBox_123 ?_
  refine g_iconst (pc := 126) (v := 3) dX12_readBox_126 (by decide) ?_
  refine bi_ne (pc := 127) 134 dX12_readBox_127 rfl (fun c1 => ?_) (fun c1 => ?_)
  · replace hf := am_ifT c1 hf
    refine g_iconst (pc := 130) (v := 1) dX12_readBox_130 (by decide) ?_
    refine g_goto (pc := 131) 135 dX12_readBox_131 rfl ?_
    exact q_X12_readBox_135 hX v1 v2 true σ hf hk
  replace hf := am_ifF c1 hf
  refine g_iconst (pc := 134) (v := 0) dX12_readBox_134 (by decide) ?_
  exact q_X12_readBox_135 hX v1 v2 false σ hf hk
noncomputable def f_X12_readBox_21 (σ : am_H) : Option (am_H) :=
  if 0 < (σ.1 12 0 12) then
   (some σ)
  else
  (f_X12_next σ).bind fun p2 =>
  (f_X12_count 0 9 p2).bind fun p3 =>
  (f_X12_isOf p3.2).bind fun p4 =>
  (f_X12_must p4 p3.2).bind fun p5 =>
  (f_X12_seen 5 200 p5).bind fun p6 =>
  (am_loop (fun s => f_X12_readBox_60 p3.1 p6.1 s.1 s.2) (0, p6.2)).bind fun w7 =>
  if (w7.1 12 0 12) = 0 then
   ((f_X12_next w7).bind fun p9 =>
   f_X12_readBox_121 p3.1 p6.1 p9)
  else
  f_X12_readBox_121 p3.1 p6.1 w7
set_option maxRecDepth 100000 in
set_option maxHeartbeats 4000000 in
theorem q_X12_readBox_21 {X : am_X} (hX : am_ks X = am_ksM) {Q : Option Value → am_H → Prop} (σ : am_H) {o : am_H} (hf : f_X12_readBox_21 σ = some o) (hk : Q none o) : am_G X gm_X12_readBox Q 21 [(0, .ref (am_ad X 12 0))] [] σ := by
  unfold f_X12_readBox_21 at hf
  refine g_aload_n (pc := 21) 0 rfl dX12_readBox_21 rfl ?_
  refine g_getI (pc := 22) (in_12 hX (by omega)) fr_X12_223 dX12_readBox_22 ?_
  refine bz_le (pc := 25) 29 dX12_readBox_25 rfl (fun c1 => ?_) (fun c1 => ?_)
  · replace hf := am_ifT c1 hf
    have ho := Option.some.inj hf
    subst ho
    exact g_vreturn (pc := 28) (st := []) rfl dX12_readBox_28 hk
  replace hf := am_ifF c1 hf
  refine g_aload_n (pc := 29) 0 rfl dX12_readBox_29 rfl ?_
  obtain ⟨p2, hp2, hf⟩ := am_bd hf
  refine g_cV (pc := 30) (As := []) (st := []) (st1 := []) (in_12 hX (by omega)) kk_12 mV_X12_next ln_X12_233 rfl (Nat.le_of_ble_eq_true rfl) (Nat.le_of_ble_eq_true rfl) (k_X12_next hX σ hp2) dX12_readBox_30 rfl rfl ?_
  refine g_aload_n (pc := 33) 0 rfl dX12_readBox_33 rfl ?_
  refine g_iconst (pc := 34) (v := 0) dX12_readBox_34 (by decide) ?_
  refine g_bipush (pc := 35) (v := 9) dX12_readBox_35 (by decide) ?_
  obtain ⟨p3, hp3, hf⟩ := am_bd hf
  refine g_cV (pc := 37) (As := [.int 0, .int 9]) (st := []) (st1 := [.int p3.1]) (in_12 hX (by omega)) kk_12 mV_X12_count ln_X12_260 rfl (Nat.le_of_ble_eq_true rfl) (Nat.le_of_ble_eq_true rfl) (k_X12_count hX 0 9 p2 hp3) dX12_readBox_37 rfl rfl ?_
  refine g_istore_n (pc := 40) [(1, .int p3.1), (0, .ref (am_ad X 12 0))] dX12_readBox_40 rfl (Nat.le_of_ble_eq_true rfl) rfl ?_
  refine g_aload_n (pc := 41) 1 rfl dX12_readBox_41 rfl ?_
  refine g_aload_n (pc := 42) 1 rfl dX12_readBox_42 rfl ?_
  obtain ⟨p4, hp4, hf⟩ := am_bd hf
  refine g_cV (pc := 43) (As := []) (st := [.ref (am_ad X 12 0)]) (st1 := [.int (am_b p4), .ref (am_ad X 12 0)]) (in_12 hX (by omega)) kk_12 mV_X12_isOf ln_X12_214 rfl (Nat.le_of_ble_eq_true rfl) (Nat.le_of_ble_eq_true rfl) (k_X12_isOf hX p3.2 hp4) dX12_readBox_43 rfl rfl ?_
  obtain ⟨p5, hp5, hf⟩ := am_bd hf
  refine g_cV (pc := 46) (As := [.int (am_b p4)]) (st := []) (st1 := []) (in_12 hX (by omega)) kk_12 mV_X12_must ln_X12_256 rfl (Nat.le_of_ble_eq_true rfl) (Nat.le_of_ble_eq_true rfl) (k_X12_must hX p4 p3.2 hp5) dX12_readBox_46 rfl rfl ?_
  refine g_aload_n (pc := 49) 1 rfl dX12_readBox_49 rfl ?_
  refine g_iconst (pc := 50) (v := 5) dX12_readBox_50 (by decide) ?_
  refine g_sipush (pc := 51) (v := 200) dX12_readBox_51 (by decide) ?_
  obtain ⟨p6, hp6, hf⟩ := am_bd hf
  refine g_cV (pc := 54) (As := [.int 5, .int 200]) (st := []) (st1 := [.int p6.1]) (in_12 hX (by omega)) kk_12 mV_X12_seen ln_X12_243 rfl (Nat.le_of_ble_eq_true rfl) (Nat.le_of_ble_eq_true rfl) (k_X12_seen hX 5 200 p5 hp6) dX12_readBox_54 rfl rfl ?_
  refine g_istore_n (pc := 57) [(2, .int p6.1), (1, .int p3.1), (0, .ref (am_ad X 12 0))] dX12_readBox_57 rfl (Nat.le_of_ble_eq_true rfl) rfl ?_
  refine g_iconst (pc := 58) (v := 0) dX12_readBox_58 (by decide) ?_
  refine g_istore_n (pc := 59) [(3, .int 0), (2, .int p6.1), (1, .int p3.1), (0, .ref (am_ad X 12 0))] dX12_readBox_59 rfl (Nat.le_of_ble_eq_true rfl) rfl ?_
  obtain ⟨w7, hw7, hf⟩ := am_bd hf
  refine am_sub [3, 2, 1, 0] rfl (l_X12_readBox_60 hX p3.1 p6.1  p6.2 (0, p6.2) hw7 ?_)
  intro t e
  subst e
  refine g_aload_n (pc := 110) 0 rfl dX12_readBox_110 rfl ?_
  refine g_getI (pc := 111) (in_12 hX (by omega)) fr_X12_223 dX12_readBox_111 ?_
  refine bz_ne (pc := 114) 121 dX12_readBox_114 rfl (fun c8 => ?_) (fun c8 => ?_)
  · replace hf := am_ifT c8 hf
    refine g_aload_n (pc := 117) 0 rfl dX12_readBox_117 rfl ?_
    obtain ⟨p9, hp9, hf⟩ := am_bd hf
    refine g_cV (pc := 118) (As := []) (st := []) (st1 := []) (in_12 hX (by omega)) kk_12 mV_X12_next ln_X12_233 rfl (Nat.le_of_ble_eq_true rfl) (Nat.le_of_ble_eq_true rfl) (k_X12_next hX w7 hp9) dX12_readBox_118 rfl rfl ?_
    exact q_X12_readBox_121 hX p3.1 p6.1 p9 hf hk
  replace hf := am_ifF c8 hf
  exact q_X12_readBox_121 hX p3.1 p6.1 w7 hf hk
noncomputable def f_X12_readBox (σ : am_H) : Option (am_H) :=
  (am_ix 3 2).bind fun j1 =>
  if (σ.1 1321 0 j1) = 10 then
   ((f_X12_fail 6 (σ.1 12 0 15) σ).bind fun p3 =>
   f_X12_readBox_21 p3)
  else
  f_X12_readBox_21 σ
set_option maxRecDepth 100000 in
set_option maxHeartbeats 4000000 in
theorem q_X12_readBox {X : am_X} (hX : am_ks X = am_ksM) {Q : Option Value → am_H → Prop} (σ : am_H) {o : am_H} (hf : f_X12_readBox σ = some o) (hk : Q none o) : am_G X gm_X12_readBox Q 0 [(0, .ref (am_ad X 12 0))] [] σ := by
  unfold f_X12_readBox at hf
  refine g_aload_n (pc := 0) 0 rfl dX12_readBox_0 rfl ?_
  refine g_getC (pc := 1) (e := 0) (in_12 hX (by omega)) fr_X12_38 dX12_readBox_1 rfl ?_
  refine g_iconst (pc := 4) (v := 2) dX12_readBox_4 (by decide) ?_
  obtain ⟨j1, hj1, hf⟩ := am_bd hf
  have gj1 := am_ix_lt hj1
  refine g_aI (pc := 5) (in_1321 hX (by omega)) ak_1321 hj1 dX12_readBox_5 ?_
  refine g_bipush (pc := 6) (v := 10) dX12_readBox_6 (by decide) ?_
  refine bi_ne (pc := 8) 21 dX12_readBox_8 rfl (fun c2 => ?_) (fun c2 => ?_)
  · replace hf := am_ifT c2 hf
    refine g_aload_n (pc := 11) 0 rfl dX12_readBox_11 rfl ?_
    refine g_bipush (pc := 12) (v := 6) dX12_readBox_12 (by decide) ?_
    refine g_aload_n (pc := 14) 0 rfl dX12_readBox_14 rfl ?_
    refine g_getI (pc := 15) (in_12 hX (by omega)) fr_X12_161 dX12_readBox_15 ?_
    obtain ⟨p3, hp3, hf⟩ := am_bd hf
    refine g_cV (pc := 18) (As := [.int 6, .int (σ.1 12 0 15)]) (st := []) (st1 := []) (in_12 hX (by omega)) kk_12 mV_X12_fail ln_X12_229 rfl (Nat.le_of_ble_eq_true rfl) (Nat.le_of_ble_eq_true rfl) (k_X12_fail hX 6 (σ.1 12 0 15) σ hp3) dX12_readBox_18 rfl rfl ?_
    exact q_X12_readBox_21 hX p3 hf hk
  replace hf := am_ifF c2 hf
  exact q_X12_readBox_21 hX σ hf hk
theorem k_X12_readBox {X : am_X} (hX : am_ks X = am_ksM) (σ : am_H) {o : am_H} (hf : f_X12_readBox σ = some o) : am_C X gm_X12_readBox [.ref (am_ad X 12 0)] σ (am_is none o) :=
  am_ofG rfl (Nat.le_of_ble_eq_true rfl) rfl (q_X12_readBox hX σ hf ⟨rfl, rfl⟩)
theorem dX12_readRest_0 : decode cX12_readRest 0 = .ok (.aload_n 0, 1) := by decide +kernel
theorem dX12_readRest_1 : decode cX12_readRest 1 = .ok (.invokevirtual 217, 3) := by decide +kernel
theorem dX12_readRest_4 : decode cX12_readRest 4 = .ok (.istore_n 1, 1) := by decide +kernel
theorem dX12_readRest_5 : decode cX12_readRest 5 = .ok (.iload_n 1, 1) := by decide +kernel
theorem dX12_readRest_6 : decode cX12_readRest 6 = .ok (.ifCond .ne 14, 3) := by decide +kernel
theorem dX12_readRest_9 : decode cX12_readRest 9 = .ok (.aload_n 0, 1) := by decide +kernel
theorem dX12_readRest_10 : decode cX12_readRest 10 = .ok (.invokevirtual 220, 3) := by decide +kernel
theorem dX12_readRest_13 : decode cX12_readRest 13 = .ok (.ifCond .ne 7, 3) := by decide +kernel
theorem dX12_readRest_16 : decode cX12_readRest 16 = .ok (.aload_n 0, 1) := by decide +kernel
theorem dX12_readRest_17 : decode cX12_readRest 17 = .ok (.invokevirtual 236, 3) := by decide +kernel
theorem dX12_readRest_20 : decode cX12_readRest 20 = .ok (.aload_n 0, 1) := by decide +kernel
theorem dX12_readRest_21 : decode cX12_readRest 21 = .ok (.getfield 223, 3) := by decide +kernel
theorem dX12_readRest_24 : decode cX12_readRest 24 = .ok (.ifCond .ne 33, 3) := by decide +kernel
theorem dX12_readRest_27 : decode cX12_readRest 27 = .ok (.iload_n 1, 1) := by decide +kernel
theorem dX12_readRest_28 : decode cX12_readRest 28 = .ok (.ifCond .eq 13, 3) := by decide +kernel
theorem dX12_readRest_31 : decode cX12_readRest 31 = .ok (.aload_n 0, 1) := by decide +kernel
theorem dX12_readRest_32 : decode cX12_readRest 32 = .ok (.getfield 267, 3) := by decide +kernel
theorem dX12_readRest_35 : decode cX12_readRest 35 = .ok (.ifCond .eq 22, 3) := by decide +kernel
theorem dX12_readRest_38 : decode cX12_readRest 38 = .ok (.goto 10, 3) := by decide +kernel
theorem dX12_readRest_41 : decode cX12_readRest 41 = .ok (.aload_n 0, 1) := by decide +kernel
theorem dX12_readRest_42 : decode cX12_readRest 42 = .ok (.getfield 271, 3) := by decide +kernel
theorem dX12_readRest_45 : decode cX12_readRest 45 = .ok (.ifCond .eq 12, 3) := by decide +kernel
theorem dX12_readRest_48 : decode cX12_readRest 48 = .ok (.aload_n 0, 1) := by decide +kernel
theorem dX12_readRest_49 : decode cX12_readRest 49 = .ok (.iconst 5, 1) := by decide +kernel
theorem dX12_readRest_50 : decode cX12_readRest 50 = .ok (.aload_n 0, 1) := by decide +kernel
theorem dX12_readRest_51 : decode cX12_readRest 51 = .ok (.getfield 161, 3) := by decide +kernel
theorem dX12_readRest_54 : decode cX12_readRest 54 = .ok (.invokevirtual 229, 3) := by decide +kernel
theorem dX12_readRest_57 : decode cX12_readRest 57 = .ok (.aload_n 0, 1) := by decide +kernel
theorem dX12_readRest_58 : decode cX12_readRest 58 = .ok (.getfield 223, 3) := by decide +kernel
theorem dX12_readRest_61 : decode cX12_readRest 61 = .ok (.ifCond .le 4, 3) := by decide +kernel
theorem dX12_readRest_64 : decode cX12_readRest 64 = .ok (.return_, 1) := by decide +kernel
theorem dX12_readRest_65 : decode cX12_readRest 65 = .ok (.aload_n 0, 1) := by decide +kernel
theorem dX12_readRest_66 : decode cX12_readRest 66 = .ok (.invokevirtual 233, 3) := by decide +kernel
theorem dX12_readRest_69 : decode cX12_readRest 69 = .ok (.aload_n 0, 1) := by decide +kernel
theorem dX12_readRest_70 : decode cX12_readRest 70 = .ok (.iconst 0, 1) := by decide +kernel
theorem dX12_readRest_71 : decode cX12_readRest 71 = .ok (.bipush 99, 2) := by decide +kernel
theorem dX12_readRest_73 : decode cX12_readRest 73 = .ok (.invokevirtual 260, 3) := by decide +kernel
theorem dX12_readRest_76 : decode cX12_readRest 76 = .ok (.istore_n 2, 1) := by decide +kernel
theorem dX12_readRest_77 : decode cX12_readRest 77 = .ok (.aload_n 0, 1) := by decide +kernel
theorem dX12_readRest_78 : decode cX12_readRest 78 = .ok (.aload_n 0, 1) := by decide +kernel
theorem dX12_readRest_79 : decode cX12_readRest 79 = .ok (.getfield 167, 3) := by decide +kernel
theorem dX12_readRest_82 : decode cX12_readRest 82 = .ok (.iconst 3, 1) := by decide +kernel
theorem dX12_readRest_83 : decode cX12_readRest 83 = .ok (.if_icmp .ne 7, 3) := by decide +kernel
theorem dX12_readRest_86 : decode cX12_readRest 86 = .ok (.iconst 1, 1) := by decide +kernel
theorem dX12_readRest_87 : decode cX12_readRest 87 = .ok (.goto 4, 3) := by decide +kernel
theorem dX12_readRest_90 : decode cX12_readRest 90 = .ok (.iconst 0, 1) := by decide +kernel
theorem dX12_readRest_91 : decode cX12_readRest 91 = .ok (.invokevirtual 256, 3) := by decide +kernel
theorem dX12_readRest_94 : decode cX12_readRest 94 = .ok (.iload_n 1, 1) := by decide +kernel
theorem dX12_readRest_95 : decode cX12_readRest 95 = .ok (.ifCond .eq 18, 3) := by decide +kernel
theorem dX12_readRest_98 : decode cX12_readRest 98 = .ok (.aload_n 0, 1) := by decide +kernel
theorem dX12_readRest_99 : decode cX12_readRest 99 = .ok (.iconst 1, 1) := by decide +kernel
theorem dX12_readRest_100 : decode cX12_readRest 100 = .ok (.putfield 267, 3) := by decide +kernel
theorem dX12_readRest_103 : decode cX12_readRest 103 = .ok (.aload_n 0, 1) := by decide +kernel
theorem dX12_readRest_104 : decode cX12_readRest 104 = .ok (.getfield 41, 3) := by decide +kernel
theorem dX12_readRest_107 : decode cX12_readRest 107 = .ok (.iconst 2, 1) := by decide +kernel
theorem dX12_readRest_108 : decode cX12_readRest 108 = .ok (.iload_n 2, 1) := by decide +kernel
theorem dX12_readRest_109 : decode cX12_readRest 109 = .ok (.iastore, 1) := by decide +kernel
theorem dX12_readRest_110 : decode cX12_readRest 110 = .ok (.goto 15, 3) := by decide +kernel
theorem dX12_readRest_113 : decode cX12_readRest 113 = .ok (.aload_n 0, 1) := by decide +kernel
theorem dX12_readRest_114 : decode cX12_readRest 114 = .ok (.iconst 1, 1) := by decide +kernel
theorem dX12_readRest_115 : decode cX12_readRest 115 = .ok (.putfield 271, 3) := by decide +kernel
theorem dX12_readRest_118 : decode cX12_readRest 118 = .ok (.aload_n 0, 1) := by decide +kernel
theorem dX12_readRest_119 : decode cX12_readRest 119 = .ok (.getfield 44, 3) := by decide +kernel
theorem dX12_readRest_122 : decode cX12_readRest 122 = .ok (.iconst 2, 1) := by decide +kernel
theorem dX12_readRest_123 : decode cX12_readRest 123 = .ok (.iload_n 2, 1) := by decide +kernel
theorem dX12_readRest_124 : decode cX12_readRest 124 = .ok (.iastore, 1) := by decide +kernel
theorem dX12_readRest_125 : decode cX12_readRest 125 = .ok (.return_, 1) := by decide +kernel
noncomputable def f_X12_readRest_91 (v1 : Bool) (v2 : Int32) (k1 : Bool) (σ : am_H) : Option (am_H) :=
  (f_X12_must k1 σ).bind fun p1 =>
  if v1 = true then
   ((some (am_wI p1 12 0 27 (am_b true))).bind fun s3 =>
   (am_ix 3 2).bind fun j4 =>
   (some (am_wI s3 1322 0 j4 v2)).bind fun s5 =>
   some s5)
  else
  (some (am_wI p1 12 0 28 (am_b true))).bind fun s6 =>
  (am_ix 3 2).bind fun j7 =>
  (some (am_wI s6 1323 0 j7 v2)).bind fun s8 =>
  some s8
set_option maxRecDepth 100000 in
set_option maxHeartbeats 4000000 in
theorem q_X12_readRest_91 {X : am_X} (hX : am_ks X = am_ksM) {Q : Option Value → am_H → Prop} (v1 : Bool) (v2 : Int32) (k1 : Bool) (σ : am_H) {o : am_H} (hf : f_X12_readRest_91 v1 v2 k1 σ = some o) (hk : Q none o) : am_G X gm_X12_readRest Q 91 [(0, .ref (am_ad X 12 0)), (1, .int (am_b v1)), (2, .int v2)] [.int (am_b k1), .ref (am_ad X 12 0)] σ := by
  unfold f_X12_readRest_91 at hf
  obtain ⟨p1, hp1, hf⟩ := am_bd hf
  refine g_cV (pc := 91) (As := [.int (am_b k1)]) (st := []) (st1 := []) (in_12 hX (by omega)) kk_12 mV_X12_must ln_X12_256 rfl (Nat.le_of_ble_eq_true rfl) (Nat.le_of_ble_eq_true rfl) (k_X12_must hX k1 σ hp1) dX12_readRest_91 rfl rfl ?_
  refine g_iload_n (pc := 94) 1 rfl dX12_readRest_94 rfl ?_
  refine bt_eq (pc := 95) 113 dX12_readRest_95 rfl (fun c2 => ?_) (fun c2 => ?_)
  · replace hf := am_ifT c2 hf
    refine g_aload_n (pc := 98) 0 rfl dX12_readRest_98 rfl ?_
    refine g_iconst (pc := 99) (v := 1) dX12_readRest_99 (by decide) ?_
    obtain ⟨s3, hs3, hf⟩ := am_bd hf
    refine g_setZ (x := true) (pc := 100) (in_12 hX (by omega)) fr_X12_267 dX12_readRest_100 (Option.some.inj hs3) ?_
    refine g_aload_n (pc := 103) 0 rfl dX12_readRest_103 rfl ?_
    refine g_getC (pc := 104) (e := 0) (in_12 hX (by omega)) fr_X12_41 dX12_readRest_104 rfl ?_
    refine g_iconst (pc := 107) (v := 2) dX12_readRest_107 (by decide) ?_
    refine g_iload_n (pc := 108) 2 rfl dX12_readRest_108 rfl ?_
    obtain ⟨j4, hj4, hf⟩ := am_bd hf
    have gj4 := am_ix_lt hj4
    obtain ⟨s5, hs5, hf⟩ := am_bd hf
    refine g_sI (pc := 109) (in_1322 hX (by omega)) ak_1322 hj4 dX12_readRest_109 (Option.some.inj hs5) ?_
    refine g_goto (pc := 110) 125 dX12_readRest_110 rfl ?_
    have ho := Option.some.inj hf
    subst ho
    exact g_vreturn (pc := 125) (st := []) rfl dX12_readRest_125 hk
  replace hf := am_ifF c2 hf
  refine g_aload_n (pc := 113) 0 rfl dX12_readRest_113 rfl ?_
  refine g_iconst (pc := 114) (v := 1) dX12_readRest_114 (by decide) ?_
  obtain ⟨s6, hs6, hf⟩ := am_bd hf
  refine g_setZ (x := true) (pc := 115) (in_12 hX (by omega)) fr_X12_271 dX12_readRest_115 (Option.some.inj hs6) ?_
  refine g_aload_n (pc := 118) 0 rfl dX12_readRest_118 rfl ?_
  refine g_getC (pc := 119) (e := 0) (in_12 hX (by omega)) fr_X12_44 dX12_readRest_119 rfl ?_
  refine g_iconst (pc := 122) (v := 2) dX12_readRest_122 (by decide) ?_
  refine g_iload_n (pc := 123) 2 rfl dX12_readRest_123 rfl ?_
  obtain ⟨j7, hj7, hf⟩ := am_bd hf
  have gj7 := am_ix_lt hj7
  obtain ⟨s8, hs8, hf⟩ := am_bd hf
  refine g_sI (pc := 124) (in_1323 hX (by omega)) ak_1323 hj7 dX12_readRest_124 (Option.some.inj hs8) ?_
  have ho := Option.some.inj hf
  subst ho
  exact g_vreturn (pc := 125) (st := []) rfl dX12_readRest_125 hk
noncomputable def f_X12_readRest_57 (v1 : Bool) (σ : am_H) : Option (am_H) :=
  if 0 < (σ.1 12 0 12) then
   (some σ)
  else
  (f_X12_next σ).bind fun p2 =>
  (f_X12_count 0 99 p2).bind fun p3 =>
  if (p3.2.1 12 0 14) = 3 then
   (f_X12_readRest_91 v1 p3.1 true p3.2)
  else
  f_X12_readRest_91 v1 p3.1 false p3.2
set_option maxRecDepth 100000 in
set_option maxHeartbeats 4000000 in
theorem q_X12_readRest_57 {X : am_X} (hX : am_ks X = am_ksM) {Q : Option Value → am_H → Prop} (v1 : Bool) (σ : am_H) {o : am_H} (hf : f_X12_readRest_57 v1 σ = some o) (hk : Q none o) : am_G X gm_X12_readRest Q 57 [(0, .ref (am_ad X 12 0)), (1, .int (am_b v1))] [] σ := by
  unfold f_X12_readRest_57 at hf
  refine g_aload_n (pc := 57) 0 rfl dX12_readRest_57 rfl ?_
  refine g_getI (pc := 58) (in_12 hX (by omega)) fr_X12_223 dX12_readRest_58 ?_
  refine bz_le (pc := 61) 65 dX12_readRest_61 rfl (fun c1 => ?_) (fun c1 => ?_)
  · replace hf := am_ifT c1 hf
    have ho := Option.some.inj hf
    subst ho
    exact g_vreturn (pc := 64) (st := []) rfl dX12_readRest_64 hk
  replace hf := am_ifF c1 hf
  refine g_aload_n (pc := 65) 0 rfl dX12_readRest_65 rfl ?_
  obtain ⟨p2, hp2, hf⟩ := am_bd hf
  refine g_cV (pc := 66) (As := []) (st := []) (st1 := []) (in_12 hX (by omega)) kk_12 mV_X12_next ln_X12_233 rfl (Nat.le_of_ble_eq_true rfl) (Nat.le_of_ble_eq_true rfl) (k_X12_next hX σ hp2) dX12_readRest_66 rfl rfl ?_
  refine g_aload_n (pc := 69) 0 rfl dX12_readRest_69 rfl ?_
  refine g_iconst (pc := 70) (v := 0) dX12_readRest_70 (by decide) ?_
  refine g_bipush (pc := 71) (v := 99) dX12_readRest_71 (by decide) ?_
  obtain ⟨p3, hp3, hf⟩ := am_bd hf
  refine g_cV (pc := 73) (As := [.int 0, .int 99]) (st := []) (st1 := [.int p3.1]) (in_12 hX (by omega)) kk_12 mV_X12_count ln_X12_260 rfl (Nat.le_of_ble_eq_true rfl) (Nat.le_of_ble_eq_true rfl) (k_X12_count hX 0 99 p2 hp3) dX12_readRest_73 rfl rfl ?_
  refine g_istore_n (pc := 76) [(2, .int p3.1), (0, .ref (am_ad X 12 0)), (1, .int (am_b v1))] dX12_readRest_76 rfl (Nat.le_of_ble_eq_true rfl) rfl ?_
  refine g_aload_n (pc := 77) 1 rfl dX12_readRest_77 rfl ?_
  refine g_aload_n (pc := 78) 1 rfl dX12_readRest_78 rfl ?_
  refine g_getI (pc := 79) (in_12 hX (by omega)) fr_X12_167 dX12_readRest_79 ?_
  refine g_iconst (pc := 82) (v := 3) dX12_readRest_82 (by decide) ?_
  refine bi_ne (pc := 83) 90 dX12_readRest_83 rfl (fun c4 => ?_) (fun c4 => ?_)
  · replace hf := am_ifT c4 hf
    refine g_iconst (pc := 86) (v := 1) dX12_readRest_86 (by decide) ?_
    refine g_goto (pc := 87) 91 dX12_readRest_87 rfl ?_
    exact am_sub [1, 2, 0] rfl (q_X12_readRest_91 hX v1 p3.1 true p3.2 hf hk)
  replace hf := am_ifF c4 hf
  refine g_iconst (pc := 90) (v := 0) dX12_readRest_90 (by decide) ?_
  exact am_sub [1, 2, 0] rfl (q_X12_readRest_91 hX v1 p3.1 false p3.2 hf hk)
noncomputable def f_X12_readRest_48 (v1 : Bool) (σ : am_H) : Option (am_H) :=
  (f_X12_fail 5 (σ.1 12 0 15) σ).bind fun p1 =>
  f_X12_readRest_57 v1 p1
set_option maxRecDepth 100000 in
set_option maxHeartbeats 4000000 in
theorem q_X12_readRest_48 {X : am_X} (hX : am_ks X = am_ksM) {Q : Option Value → am_H → Prop} (v1 : Bool) (σ : am_H) {o : am_H} (hf : f_X12_readRest_48 v1 σ = some o) (hk : Q none o) : am_G X gm_X12_readRest Q 48 [(0, .ref (am_ad X 12 0)), (1, .int (am_b v1))] [] σ := by
  unfold f_X12_readRest_48 at hf
  refine g_aload_n (pc := 48) 0 rfl dX12_readRest_48 rfl ?_
  refine g_iconst (pc := 49) (v := 5) dX12_readRest_49 (by decide) ?_
  refine g_aload_n (pc := 50) 0 rfl dX12_readRest_50 rfl ?_
  refine g_getI (pc := 51) (in_12 hX (by omega)) fr_X12_161 dX12_readRest_51 ?_
  obtain ⟨p1, hp1, hf⟩ := am_bd hf
  refine g_cV (pc := 54) (As := [.int 5, .int (σ.1 12 0 15)]) (st := []) (st1 := []) (in_12 hX (by omega)) kk_12 mV_X12_fail ln_X12_229 rfl (Nat.le_of_ble_eq_true rfl) (Nat.le_of_ble_eq_true rfl) (k_X12_fail hX 5 (σ.1 12 0 15) σ hp1) dX12_readRest_54 rfl rfl ?_
  exact q_X12_readRest_57 hX v1 p1 hf hk
noncomputable def f_X12_readRest_20 (v1 : Bool) (σ : am_H) : Option (am_H) :=
  if (σ.1 12 0 12) = 0 then
   (if v1 = true then
    (if (σ.1 12 0 27) = 0 then
     (f_X12_readRest_57 v1 σ)
    else
    f_X12_readRest_48 v1 σ)
   else
   if (σ.1 12 0 28) = 0 then
    (f_X12_readRest_57 v1 σ)
   else
   f_X12_readRest_48 v1 σ)
  else
  f_X12_readRest_57 v1 σ
set_option maxRecDepth 100000 in
set_option maxHeartbeats 4000000 in
theorem q_X12_readRest_20 {X : am_X} (hX : am_ks X = am_ksM) {Q : Option Value → am_H → Prop} (v1 : Bool) (σ : am_H) {o : am_H} (hf : f_X12_readRest_20 v1 σ = some o) (hk : Q none o) : am_G X gm_X12_readRest Q 20 [(0, .ref (am_ad X 12 0)), (1, .int (am_b v1))] [] σ := by
  unfold f_X12_readRest_20 at hf
  refine g_aload_n (pc := 20) 0 rfl dX12_readRest_20 rfl ?_
  refine g_getI (pc := 21) (in_12 hX (by omega)) fr_X12_223 dX12_readRest_21 ?_
  refine bz_ne (pc := 24) 57 dX12_readRest_24 rfl (fun c1 => ?_) (fun c1 => ?_)
  · replace hf := am_ifT c1 hf
    refine g_iload_n (pc := 27) 1 rfl dX12_readRest_27 rfl ?_
    refine bt_eq (pc := 28) 41 dX12_readRest_28 rfl (fun c2 => ?_) (fun c2 => ?_)
    · replace hf := am_ifT c2 hf
      refine g_aload_n (pc := 31) 0 rfl dX12_readRest_31 rfl ?_
      refine g_getZ (pc := 32) (in_12 hX (by omega)) fr_X12_267 dX12_readRest_32 ?_
      refine bz_eq (pc := 35) 57 dX12_readRest_35 rfl (fun c3 => ?_) (fun c3 => ?_)
      · replace hf := am_ifT c3 hf
        exact q_X12_readRest_57 hX v1 σ hf hk
      replace hf := am_ifF c3 hf
      refine g_goto (pc := 38) 48 dX12_readRest_38 rfl ?_
      exact q_X12_readRest_48 hX v1 σ hf hk
    replace hf := am_ifF c2 hf
    refine g_aload_n (pc := 41) 0 rfl dX12_readRest_41 rfl ?_
    refine g_getZ (pc := 42) (in_12 hX (by omega)) fr_X12_271 dX12_readRest_42 ?_
    refine bz_eq (pc := 45) 57 dX12_readRest_45 rfl (fun c4 => ?_) (fun c4 => ?_)
    · replace hf := am_ifT c4 hf
      exact q_X12_readRest_57 hX v1 σ hf hk
    replace hf := am_ifF c4 hf
    exact q_X12_readRest_48 hX v1 σ hf hk
  replace hf := am_ifF c1 hf
  exact q_X12_readRest_57 hX v1 σ hf hk
noncomputable def f_X12_readRest (σ : am_H) : Option (am_H) :=
  (f_X12_isSlack σ).bind fun p1 =>
  if p1 = true then
   (f_X12_readRest_20 p1 σ)
  else
  (f_X12_isZero σ).bind fun p3 =>
  if p3 = true then
   (f_X12_readRest_20 p1 σ)
  else
  (f_X12_wrong σ).bind fun p5 =>
  f_X12_readRest_20 p1 p5
set_option maxRecDepth 100000 in
set_option maxHeartbeats 4000000 in
theorem q_X12_readRest {X : am_X} (hX : am_ks X = am_ksM) {Q : Option Value → am_H → Prop} (σ : am_H) {o : am_H} (hf : f_X12_readRest σ = some o) (hk : Q none o) : am_G X gm_X12_readRest Q 0 [(0, .ref (am_ad X 12 0))] [] σ := by
  unfold f_X12_readRest at hf
  refine g_aload_n (pc := 0) 0 rfl dX12_readRest_0 rfl ?_
  obtain ⟨p1, hp1, hf⟩ := am_bd hf
  refine g_cV (pc := 1) (As := []) (st := []) (st1 := [.int (am_b p1)]) (in_12 hX (by omega)) kk_12 mV_X12_isSlack ln_X12_217 rfl (Nat.le_of_ble_eq_true rfl) (Nat.le_of_ble_eq_true rfl) (k_X12_isSlack hX σ hp1) dX12_readRest_1 rfl rfl ?_
  refine g_istore_n (pc := 4) [(1, .int (am_b p1)), (0, .ref (am_ad X 12 0))] dX12_readRest_4 rfl (Nat.le_of_ble_eq_true rfl) rfl ?_
  refine g_iload_n (pc := 5) 0 rfl dX12_readRest_5 rfl ?_
  refine bt_ne (pc := 6) 20 dX12_readRest_6 rfl (fun c2 => ?_) (fun c2 => ?_)
  · replace hf := am_ifT c2 hf
    exact am_sub [1, 0] rfl (q_X12_readRest_20 hX p1 σ hf hk)
  replace hf := am_ifF c2 hf
  refine g_aload_n (pc := 9) 1 rfl dX12_readRest_9 rfl ?_
  obtain ⟨p3, hp3, hf⟩ := am_bd hf
  refine g_cV (pc := 10) (As := []) (st := []) (st1 := [.int (am_b p3)]) (in_12 hX (by omega)) kk_12 mV_X12_isZero ln_X12_220 rfl (Nat.le_of_ble_eq_true rfl) (Nat.le_of_ble_eq_true rfl) (k_X12_isZero hX σ hp3) dX12_readRest_10 rfl rfl ?_
  refine bt_ne (pc := 13) 20 dX12_readRest_13 rfl (fun c4 => ?_) (fun c4 => ?_)
  · replace hf := am_ifT c4 hf
    exact am_sub [1, 0] rfl (q_X12_readRest_20 hX p1 σ hf hk)
  replace hf := am_ifF c4 hf
  refine g_aload_n (pc := 16) 1 rfl dX12_readRest_16 rfl ?_
  obtain ⟨p5, hp5, hf⟩ := am_bd hf
  refine g_cV (pc := 17) (As := []) (st := []) (st1 := []) (in_12 hX (by omega)) kk_12 mV_X12_wrong ln_X12_236 rfl (Nat.le_of_ble_eq_true rfl) (Nat.le_of_ble_eq_true rfl) (k_X12_wrong hX σ hp5) dX12_readRest_17 rfl rfl ?_
  exact am_sub [1, 0] rfl (q_X12_readRest_20 hX p1 p5 hf hk)
theorem k_X12_readRest {X : am_X} (hX : am_ks X = am_ksM) (σ : am_H) {o : am_H} (hf : f_X12_readRest σ = some o) : am_C X gm_X12_readRest [.ref (am_ad X 12 0)] σ (am_is none o) :=
  am_ofG rfl (Nat.le_of_ble_eq_true rfl) rfl (q_X12_readRest hX σ hf ⟨rfl, rfl⟩)
theorem dX12_lay_0 : decode cX12_lay 0 = .ok (.iconst 3, 1) := by decide +kernel
theorem dX12_lay_1 : decode cX12_lay 1 = .ok (.istore_n 2, 1) := by decide +kernel
theorem dX12_lay_2 : decode cX12_lay 2 = .ok (.iload_n 2, 1) := by decide +kernel
theorem dX12_lay_3 : decode cX12_lay 3 = .ok (.ifCond .lt 35, 3) := by decide +kernel
theorem dX12_lay_6 : decode cX12_lay 6 = .ok (.aload_n 0, 1) := by decide +kernel
theorem dX12_lay_7 : decode cX12_lay 7 = .ok (.getfield 24, 3) := by decide +kernel
theorem dX12_lay_10 : decode cX12_lay 10 = .ok (.aload_n 0, 1) := by decide +kernel
theorem dX12_lay_11 : decode cX12_lay 11 = .ok (.getfield 274, 3) := by decide +kernel
theorem dX12_lay_14 : decode cX12_lay 14 = .ok (.iload_n 1, 1) := by decide +kernel
theorem dX12_lay_15 : decode cX12_lay 15 = .ok (.bipush 8, 2) := by decide +kernel
theorem dX12_lay_17 : decode cX12_lay 17 = .ok (.iload_n 2, 1) := by decide +kernel
theorem dX12_lay_18 : decode cX12_lay 18 = .ok (.imul, 1) := by decide +kernel
theorem dX12_lay_19 : decode cX12_lay 19 = .ok (.ishr, 1) := by decide +kernel
theorem dX12_lay_20 : decode cX12_lay 20 = .ok (.i2b, 1) := by decide +kernel
theorem dX12_lay_21 : decode cX12_lay 21 = .ok (.bastore, 1) := by decide +kernel
theorem dX12_lay_22 : decode cX12_lay 22 = .ok (.aload_n 0, 1) := by decide +kernel
theorem dX12_lay_23 : decode cX12_lay 23 = .ok (.dup, 1) := by decide +kernel
theorem dX12_lay_24 : decode cX12_lay 24 = .ok (.getfield 274, 3) := by decide +kernel
theorem dX12_lay_27 : decode cX12_lay 27 = .ok (.iconst 1, 1) := by decide +kernel
theorem dX12_lay_28 : decode cX12_lay 28 = .ok (.iadd, 1) := by decide +kernel
theorem dX12_lay_29 : decode cX12_lay 29 = .ok (.putfield 274, 3) := by decide +kernel
theorem dX12_lay_32 : decode cX12_lay 32 = .ok (.iinc 2 (-1), 3) := by decide +kernel
theorem dX12_lay_35 : decode cX12_lay 35 = .ok (.goto (-33), 3) := by decide +kernel
theorem dX12_lay_38 : decode cX12_lay 38 = .ok (.return_, 1) := by decide +kernel
noncomputable def f_X12_lay_2 (v1 : Int32) (v2 : Int32) (σ : am_H) : Option ((Int32 × am_H) ⊕ (am_H)) :=
  if v2 < 0 then
   (some (.inr σ))
  else
  (am_ix 600 (σ.1 12 0 8)).bind fun j2 =>
  (some (am_wI σ 1307 0 j2 (Int8.toInt32 (Int32.toInt8 (Int8.toInt32 (Int32.toInt8 (v1 >>> ((8 * v2) &&& 31)))))))).bind fun s3 =>
  (some (am_wI s3 12 0 8 ((s3.1 12 0 8) + 1))).bind fun s4 =>
  some (.inl ((v2 + (-1)), s4))
set_option maxRecDepth 100000 in
set_option maxHeartbeats 4000000 in
theorem q_X12_lay_2 {X : am_X} (hX : am_ks X = am_ksM) {Q : Option Value → am_H → Prop} (v1 : Int32) (v2 : Int32) (σ : am_H) {o : (Int32 × am_H) ⊕ (am_H)} (hf : f_X12_lay_2 v1 v2 σ = some o) (hk0 : ∀ s, o = .inl s → am_G X gm_X12_lay Q 2 [(0, .ref (am_ad X 12 0)), (1, .int v1), (2, .int s.1)] [] s.2) (hk1 : ∀ t, o = .inr t → am_G X gm_X12_lay Q 38 [] [] t) : am_G X gm_X12_lay Q 2 [(0, .ref (am_ad X 12 0)), (1, .int v1), (2, .int v2)] [] σ := by
  unfold f_X12_lay_2 at hf
  refine g_iload_n (pc := 2) 2 rfl dX12_lay_2 rfl ?_
  refine bz_lt (pc := 3) 38 dX12_lay_3 rfl (fun c1 => ?_) (fun c1 => ?_)
  · replace hf := am_ifT c1 hf
    have hz := hk1 _ (Option.some.inj hf).symm
    exact am_sub [] rfl hz
  replace hf := am_ifF c1 hf
  refine g_aload_n (pc := 6) 0 rfl dX12_lay_6 rfl ?_
  refine g_getC (pc := 7) (e := 0) (in_12 hX (by omega)) fr_X12_24 dX12_lay_7 rfl ?_
  refine g_aload_n (pc := 10) 0 rfl dX12_lay_10 rfl ?_
  refine g_getI (pc := 11) (in_12 hX (by omega)) fr_X12_274 dX12_lay_11 ?_
  refine g_iload_n (pc := 14) 1 rfl dX12_lay_14 rfl ?_
  refine g_bipush (pc := 15) (v := 8) dX12_lay_15 (by decide) ?_
  refine g_iload_n (pc := 17) 2 rfl dX12_lay_17 rfl ?_
  refine g_imul (pc := 18) dX12_lay_18 ?_
  refine g_ishr (pc := 19) dX12_lay_19 ?_
  refine g_i2b (pc := 20) dX12_lay_20 ?_
  obtain ⟨j2, hj2, hf⟩ := am_bd hf
  have gj2 := am_ix_lt hj2
  obtain ⟨s3, hs3, hf⟩ := am_bd hf
  refine g_sB (pc := 21) (in_1307 hX (by omega)) ak_1307 hj2 dX12_lay_21 (Option.some.inj hs3) ?_
  refine g_aload_n (pc := 22) 0 rfl dX12_lay_22 rfl ?_
  refine g_dup (pc := 23) dX12_lay_23 rfl ?_
  refine g_getI (pc := 24) (in_12 hX (by omega)) fr_X12_274 dX12_lay_24 ?_
  refine g_iconst (pc := 27) (v := 1) dX12_lay_27 (by decide) ?_
  refine g_iadd (pc := 28) dX12_lay_28 ?_
  obtain ⟨s4, hs4, hf⟩ := am_bd hf
  refine g_setI (pc := 29) (in_12 hX (by omega)) fr_X12_274 dX12_lay_29 (Option.some.inj hs4) ?_
  refine g_iinc (pc := 32) (v := (v2 + (-1))) 2 [(2, .int (v2 + (-1))), (0, .ref (am_ad X 12 0)), (1, .int v1)] dX12_lay_32 rfl rfl (Nat.le_of_ble_eq_true rfl) rfl ?_
  refine g_goto (pc := 35) 2 dX12_lay_35 rfl ?_
  have hz := hk0 _ (Option.some.inj hf).symm
  exact am_sub [1, 2, 0] rfl hz
set_option maxRecDepth 100000 in
set_option maxHeartbeats 4000000 in
theorem l_X12_lay_2 {X : am_X} (hX : am_ks X = am_ksM) {Q : Option Value → am_H → Prop} (v1 : Int32) (σ : am_H) (s : Int32 × am_H) {o : am_H} (hf : am_loop (fun s => f_X12_lay_2 v1 s.1 s.2) s = some o) (hk1 : ∀ t, o = t → am_G X gm_X12_lay Q 38 [] [] t) : am_G X gm_X12_lay Q 2 [(0, .ref (am_ad X 12 0)), (1, .int v1), (2, .int s.1)] [] s.2 := by
  refine am_loop_ind (P := fun s => am_G X gm_X12_lay Q 2 [(0, .ref (am_ad X 12 0)), (1, .int v1), (2, .int s.1)] [] s.2) (K := fun r => r = o) ?_ hf rfl
  intro s o1 hb hi hr
  exact q_X12_lay_2 hX v1 s.1  s.2 hb hi (fun t e => hk1 t (hr _ e).symm)
noncomputable def f_X12_lay (v1 : Int32) (σ : am_H) : Option (am_H) :=
  (am_loop (fun s => f_X12_lay_2 v1 s.1 s.2) (3, σ)).bind fun w1 =>
  some w1
set_option maxRecDepth 100000 in
set_option maxHeartbeats 4000000 in
theorem q_X12_lay {X : am_X} (hX : am_ks X = am_ksM) {Q : Option Value → am_H → Prop} (v1 : Int32) (σ : am_H) {o : am_H} (hf : f_X12_lay v1 σ = some o) (hk : Q none o) : am_G X gm_X12_lay Q 0 [(0, .ref (am_ad X 12 0)), (1, .int v1)] [] σ := by
  unfold f_X12_lay at hf
  refine g_iconst (pc := 0) (v := 3) dX12_lay_0 (by decide) ?_
  refine g_istore_n (pc := 1) [(2, .int 3), (0, .ref (am_ad X 12 0)), (1, .int v1)] dX12_lay_1 rfl (Nat.le_of_ble_eq_true rfl) rfl ?_
  obtain ⟨w1, hw1, hf⟩ := am_bd hf
  refine am_sub [1, 2, 0] rfl (l_X12_lay_2 hX v1  σ (3, σ) hw1 ?_)
  intro t e
  subst e
  have ho := Option.some.inj hf
  subst ho
  exact g_vreturn (pc := 38) (st := []) rfl dX12_lay_38 hk
theorem k_X12_lay {X : am_X} (hX : am_ks X = am_ksM) (v1 : Int32) (σ : am_H) {o : am_H} (hf : f_X12_lay v1 σ = some o) : am_C X gm_X12_lay [.ref (am_ad X 12 0), .int v1] σ (am_is none o) :=
  am_ofG rfl (Nat.le_of_ble_eq_true rfl) rfl (q_X12_lay hX v1 σ hf ⟨rfl, rfl⟩)
theorem dX12_feed_0 : decode cX12_feed 0 = .ok (.aload_n 0, 1) := by decide +kernel
theorem dX12_feed_1 : decode cX12_feed 1 = .ok (.iconst 0, 1) := by decide +kernel
theorem dX12_feed_2 : decode cX12_feed 2 = .ok (.putfield 122, 3) := by decide +kernel
theorem dX12_feed_5 : decode cX12_feed 5 = .ok (.aload_n 0, 1) := by decide +kernel
theorem dX12_feed_6 : decode cX12_feed 6 = .ok (.getfield 274, 3) := by decide +kernel
theorem dX12_feed_9 : decode cX12_feed 9 = .ok (.bipush 20, 2) := by decide +kernel
theorem dX12_feed_11 : decode cX12_feed 11 = .ok (.iadd, 1) := by decide +kernel
theorem dX12_feed_12 : decode cX12_feed 12 = .ok (.sipush 600, 3) := by decide +kernel
theorem dX12_feed_15 : decode cX12_feed 15 = .ok (.if_icmp .le 5, 3) := by decide +kernel
theorem dX12_feed_18 : decode cX12_feed 18 = .ok (.iconst (-1), 1) := by decide +kernel
theorem dX12_feed_19 : decode cX12_feed 19 = .ok (.ireturn, 1) := by decide +kernel
theorem dX12_feed_20 : decode cX12_feed 20 = .ok (.aload_n 0, 1) := by decide +kernel
theorem dX12_feed_21 : decode cX12_feed 21 = .ok (.iload_n 1, 1) := by decide +kernel
theorem dX12_feed_22 : decode cX12_feed 22 = .ok (.invokevirtual 277, 3) := by decide +kernel
theorem dX12_feed_25 : decode cX12_feed 25 = .ok (.aload_n 0, 1) := by decide +kernel
theorem dX12_feed_26 : decode cX12_feed 26 = .ok (.iload_n 2, 1) := by decide +kernel
theorem dX12_feed_27 : decode cX12_feed 27 = .ok (.invokevirtual 277, 3) := by decide +kernel
theorem dX12_feed_30 : decode cX12_feed 30 = .ok (.aload_n 0, 1) := by decide +kernel
theorem dX12_feed_31 : decode cX12_feed 31 = .ok (.iload_n 3, 1) := by decide +kernel
theorem dX12_feed_32 : decode cX12_feed 32 = .ok (.invokevirtual 277, 3) := by decide +kernel
theorem dX12_feed_35 : decode cX12_feed 35 = .ok (.aload_n 0, 1) := by decide +kernel
theorem dX12_feed_36 : decode cX12_feed 36 = .ok (.iload 4, 2) := by decide +kernel
theorem dX12_feed_38 : decode cX12_feed 38 = .ok (.invokevirtual 277, 3) := by decide +kernel
theorem dX12_feed_41 : decode cX12_feed 41 = .ok (.aload_n 0, 1) := by decide +kernel
theorem dX12_feed_42 : decode cX12_feed 42 = .ok (.iload 5, 2) := by decide +kernel
theorem dX12_feed_44 : decode cX12_feed 44 = .ok (.invokevirtual 277, 3) := by decide +kernel
theorem dX12_feed_47 : decode cX12_feed 47 = .ok (.aload_n 0, 1) := by decide +kernel
theorem dX12_feed_48 : decode cX12_feed 48 = .ok (.getfield 274, 3) := by decide +kernel
theorem dX12_feed_51 : decode cX12_feed 51 = .ok (.ireturn, 1) := by decide +kernel
noncomputable def f_X12_feed (v1 : Int32) (v2 : Int32) (v3 : Int32) (v4 : Int32) (v5 : Int32) (σ : am_H) : Option (Int32 × am_H) :=
  (some (am_wI σ 12 0 1 0)).bind fun s1 =>
  if 600 < ((s1.1 12 0 8) + 20) then
   (some ((-1), s1))
  else
  (f_X12_lay v1 s1).bind fun p3 =>
  (f_X12_lay v2 p3).bind fun p4 =>
  (f_X12_lay v3 p4).bind fun p5 =>
  (f_X12_lay v4 p5).bind fun p6 =>
  (f_X12_lay v5 p6).bind fun p7 =>
  some ((p7.1 12 0 8), p7)
set_option maxRecDepth 100000 in
set_option maxHeartbeats 4000000 in
theorem q_X12_feed {X : am_X} (hX : am_ks X = am_ksM) {Q : Option Value → am_H → Prop} (v1 : Int32) (v2 : Int32) (v3 : Int32) (v4 : Int32) (v5 : Int32) (σ : am_H) {o : Int32 × am_H} (hf : f_X12_feed v1 v2 v3 v4 v5 σ = some o) (hk : Q (some (.int o.1)) o.2) : am_G X gm_X12_feed Q 0 [(0, .ref (am_ad X 12 0)), (1, .int v1), (2, .int v2), (3, .int v3), (4, .int v4), (5, .int v5)] [] σ := by
  unfold f_X12_feed at hf
  refine g_aload_n (pc := 0) 0 rfl dX12_feed_0 rfl ?_
  refine g_iconst (pc := 1) (v := 0) dX12_feed_1 (by decide) ?_
  obtain ⟨s1, hs1, hf⟩ := am_bd hf
  refine g_setI (pc := 2) (in_12 hX (by omega)) fr_X12_122 dX12_feed_2 (Option.some.inj hs1) ?_
  refine g_aload_n (pc := 5) 0 rfl dX12_feed_5 rfl ?_
  refine g_getI (pc := 6) (in_12 hX (by omega)) fr_X12_274 dX12_feed_6 ?_
  refine g_bipush (pc := 9) (v := 20) dX12_feed_9 (by decide) ?_
  refine g_iadd (pc := 11) dX12_feed_11 ?_
  refine g_sipush (pc := 12) (v := 600) dX12_feed_12 (by decide) ?_
  refine bi_le (pc := 15) 20 dX12_feed_15 rfl (fun c2 => ?_) (fun c2 => ?_)
  · replace hf := am_ifT c2 hf
    refine g_iconst (pc := 18) (v := (-1)) dX12_feed_18 (by decide) ?_
    have ho := Option.some.inj hf
    subst ho
    exact g_ireturn (pc := 19) (st := []) rfl dX12_feed_19 hk
  replace hf := am_ifF c2 hf
  refine g_aload_n (pc := 20) 0 rfl dX12_feed_20 rfl ?_
  refine g_iload_n (pc := 21) 1 rfl dX12_feed_21 rfl ?_
  obtain ⟨p3, hp3, hf⟩ := am_bd hf
  refine g_cV (pc := 22) (As := [.int v1]) (st := []) (st1 := []) (in_12 hX (by omega)) kk_12 mV_X12_lay ln_X12_277 rfl (Nat.le_of_ble_eq_true rfl) (Nat.le_of_ble_eq_true rfl) (k_X12_lay hX v1 s1 hp3) dX12_feed_22 rfl rfl ?_
  refine g_aload_n (pc := 25) 0 rfl dX12_feed_25 rfl ?_
  refine g_iload_n (pc := 26) 2 rfl dX12_feed_26 rfl ?_
  obtain ⟨p4, hp4, hf⟩ := am_bd hf
  refine g_cV (pc := 27) (As := [.int v2]) (st := []) (st1 := []) (in_12 hX (by omega)) kk_12 mV_X12_lay ln_X12_277 rfl (Nat.le_of_ble_eq_true rfl) (Nat.le_of_ble_eq_true rfl) (k_X12_lay hX v2 p3 hp4) dX12_feed_27 rfl rfl ?_
  refine g_aload_n (pc := 30) 0 rfl dX12_feed_30 rfl ?_
  refine g_iload_n (pc := 31) 3 rfl dX12_feed_31 rfl ?_
  obtain ⟨p5, hp5, hf⟩ := am_bd hf
  refine g_cV (pc := 32) (As := [.int v3]) (st := []) (st1 := []) (in_12 hX (by omega)) kk_12 mV_X12_lay ln_X12_277 rfl (Nat.le_of_ble_eq_true rfl) (Nat.le_of_ble_eq_true rfl) (k_X12_lay hX v3 p4 hp5) dX12_feed_32 rfl rfl ?_
  refine g_aload_n (pc := 35) 0 rfl dX12_feed_35 rfl ?_
  refine g_iload (pc := 36) 4 rfl dX12_feed_36 ?_
  obtain ⟨p6, hp6, hf⟩ := am_bd hf
  refine g_cV (pc := 38) (As := [.int v4]) (st := []) (st1 := []) (in_12 hX (by omega)) kk_12 mV_X12_lay ln_X12_277 rfl (Nat.le_of_ble_eq_true rfl) (Nat.le_of_ble_eq_true rfl) (k_X12_lay hX v4 p5 hp6) dX12_feed_38 rfl rfl ?_
  refine g_aload_n (pc := 41) 0 rfl dX12_feed_41 rfl ?_
  refine g_iload (pc := 42) 5 rfl dX12_feed_42 ?_
  obtain ⟨p7, hp7, hf⟩ := am_bd hf
  refine g_cV (pc := 44) (As := [.int v5]) (st := []) (st1 := []) (in_12 hX (by omega)) kk_12 mV_X12_lay ln_X12_277 rfl (Nat.le_of_ble_eq_true rfl) (Nat.le_of_ble_eq_true rfl) (k_X12_lay hX v5 p6 hp7) dX12_feed_44 rfl rfl ?_
  refine g_aload_n (pc := 47) 0 rfl dX12_feed_47 rfl ?_
  refine g_getI (pc := 48) (in_12 hX (by omega)) fr_X12_274 dX12_feed_48 ?_
  have ho := Option.some.inj hf
  subst ho
  exact g_ireturn (pc := 51) (st := []) rfl dX12_feed_51 hk
theorem k_X12_feed {X : am_X} (hX : am_ks X = am_ksM) (v1 : Int32) (v2 : Int32) (v3 : Int32) (v4 : Int32) (v5 : Int32) (σ : am_H) {o : Int32 × am_H} (hf : f_X12_feed v1 v2 v3 v4 v5 σ = some o) : am_C X gm_X12_feed [.ref (am_ad X 12 0), .int v1, .int v2, .int v3, .int v4, .int v5] σ (am_is (some (.int o.1)) o.2) :=
  am_ofG rfl (Nat.le_of_ble_eq_true rfl) rfl (q_X12_feed hX v1 v2 v3 v4 v5 σ hf ⟨rfl, rfl⟩)
