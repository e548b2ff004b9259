theorem dX11_isOneMissing_0 : decode cX11_isOneMissing 0 = .ok (.aload_n 0, 1) := by decide +kernel
theorem dX11_isOneMissing_1 : decode cX11_isOneMissing 1 = .ok (.getfield 29, 3) := by decide +kernel
theorem dX11_isOneMissing_4 : decode cX11_isOneMissing 4 = .ok (.iload_n 1, 1) := by decide +kernel
theorem dX11_isOneMissing_5 : decode cX11_isOneMissing 5 = .ok (.aaload, 1) := by decide +kernel
theorem dX11_isOneMissing_6 : decode cX11_isOneMissing 6 = .ok (.invokevirtual 132, 3) := by decide +kernel
theorem dX11_isOneMissing_9 : decode cX11_isOneMissing 9 = .ok (.ifCond .ne 15, 3) := by decide +kernel
theorem dX11_isOneMissing_12 : decode cX11_isOneMissing 12 = .ok (.aload_n 0, 1) := by decide +kernel
theorem dX11_isOneMissing_13 : decode cX11_isOneMissing 13 = .ok (.getfield 29, 3) := by decide +kernel
theorem dX11_isOneMissing_16 : decode cX11_isOneMissing 16 = .ok (.iload_n 2, 1) := by decide +kernel
theorem dX11_isOneMissing_17 : decode cX11_isOneMissing 17 = .ok (.aaload, 1) := by decide +kernel
theorem dX11_isOneMissing_18 : decode cX11_isOneMissing 18 = .ok (.invokevirtual 132, 3) := by decide +kernel
theorem dX11_isOneMissing_21 : decode cX11_isOneMissing 21 = .ok (.ifCond .eq 7, 3) := by decide +kernel
theorem dX11_isOneMissing_24 : decode cX11_isOneMissing 24 = .ok (.iconst 1, 1) := by decide +kernel
theorem dX11_isOneMissing_25 : decode cX11_isOneMissing 25 = .ok (.goto 4, 3) := by decide +kernel
theorem dX11_isOneMissing_28 : decode cX11_isOneMissing 28 = .ok (.iconst 0, 1) := by decide +kernel
theorem dX11_isOneMissing_29 : decode cX11_isOneMissing 29 = .ok (.ireturn, 1) := by decide +kernel
noncomputable def f_X11_isOneMissing (v1 : Int32) (v2 : Int32) (σ : am_H) : Option (Bool) :=
  (am_ix 5 v1).bind fun j1 =>
  (f_X8_isMissing j1 σ).bind fun p2 =>
  if p2 = true then
   (some true)
  else
  (am_ix 5 v2).bind fun j4 =>
  (f_X8_isMissing j4 σ).bind fun p5 =>
  if p5 = true then
   (some true)
  else
  some false
set_option maxRecDepth 100000 in
set_option maxHeartbeats 4000000 in
theorem q_X11_isOneMissing {X : am_X} (hX : am_wC X) {Q : Option Value → am_H → Prop} (v1 : Int32) (v2 : Int32) (σ : am_H) {o : Bool} (hf : f_X11_isOneMissing v1 v2 σ = some o) (hk : Q (some (.int (am_b o))) σ) : am_G X gm_X11_isOneMissing Q 0 [(0, .ref (am_ad X 11 0)), (1, .int v1), (2, .int v2)] [] σ := by
  unfold f_X11_isOneMissing at hf
  refine g_aload_n (pc := 0) 0 rfl dX11_isOneMissing_0 rfl ?_
  refine g_getC (pc := 1) (e := 0) (in_11 hX.1 (by omega)) fr_X11_29 dX11_isOneMissing_1 rfl ?_
  refine g_iload_n (pc := 4) 1 rfl dX11_isOneMissing_4 rfl ?_
  obtain ⟨j1, hj1, hf⟩ := am_bd hf
  have gj1 := am_ix_lt hj1
  refine g_aC (pc := 5) (e := j1) (in_1204 hX.1 (by omega)) ak_1204 hj1 rfl dX11_isOneMissing_5 ?_
  obtain ⟨p2, hp2, hf⟩ := am_bd hf
  refine g_cV (pc := 6) (As := []) (st := []) (st1 := [.int (am_b p2)]) (in_8 hX.1 (by omega)) kk_8 mV_X8_isMissing ln_X11_132 rfl (Nat.le_of_ble_eq_true rfl) (Nat.le_of_ble_eq_true rfl) (k_X8_isMissing hX j1 (by omega) σ hp2) dX11_isOneMissing_6 rfl rfl ?_
  refine bt_ne (pc := 9) 24 dX11_isOneMissing_9 rfl (fun c3 => ?_) (fun c3 => ?_)
  · replace hf := am_ifT c3 hf
    refine g_iconst (pc := 24) (v := 1) dX11_isOneMissing_24 (by decide) ?_
    refine g_goto (pc := 25) 29 dX11_isOneMissing_25 rfl ?_
    have ho := Option.some.inj hf
    subst ho
    exact g_zreturn (pc := 29) (st := []) (x := true) rfl dX11_isOneMissing_29 hk
  replace hf := am_ifF c3 hf
  refine g_aload_n (pc := 12) 0 rfl dX11_isOneMissing_12 rfl ?_
  refine g_getC (pc := 13) (e := 0) (in_11 hX.1 (by omega)) fr_X11_29 dX11_isOneMissing_13 rfl ?_
  refine g_iload_n (pc := 16) 2 rfl dX11_isOneMissing_16 rfl ?_
  obtain ⟨j4, hj4, hf⟩ := am_bd hf
  have gj4 := am_ix_lt hj4
  refine g_aC (pc := 17) (e := j4) (in_1204 hX.1 (by omega)) ak_1204 hj4 rfl dX11_isOneMissing_17 ?_
  obtain ⟨p5, hp5, hf⟩ := am_bd hf
  refine g_cV (pc := 18) (As := []) (st := []) (st1 := [.int (am_b p5)]) (in_8 hX.1 (by omega)) kk_8 mV_X8_isMissing ln_X11_132 rfl (Nat.le_of_ble_eq_true rfl) (Nat.le_of_ble_eq_true rfl) (k_X8_isMissing hX j4 (by omega) σ hp5) dX11_isOneMissing_18 rfl rfl ?_
  refine bt_eq (pc := 21) 28 dX11_isOneMissing_21 rfl (fun c6 => ?_) (fun c6 => ?_)
  · replace hf := am_ifT c6 hf
    refine g_iconst (pc := 24) (v := 1) dX11_isOneMissing_24 (by decide) ?_
    refine g_goto (pc := 25) 29 dX11_isOneMissing_25 rfl ?_
    have ho := Option.some.inj hf
    subst ho
    exact g_zreturn (pc := 29) (st := []) (x := true) rfl dX11_isOneMissing_29 hk
  replace hf := am_ifF c6 hf
  refine g_iconst (pc := 28) (v := 0) dX11_isOneMissing_28 (by decide) ?_
  have ho := Option.some.inj hf
  subst ho
  exact g_zreturn (pc := 29) (st := []) (x := false) rfl dX11_isOneMissing_29 hk
theorem k_X11_isOneMissing {X : am_X} (hX : am_wC X) (v1 : Int32) (v2 : Int32) (σ : am_H) {o : Bool} (hf : f_X11_isOneMissing v1 v2 σ = some o) : am_C X gm_X11_isOneMissing [.ref (am_ad X 11 0), .int v1, .int v2] σ (am_is (some (.int (am_b o))) σ) :=
  am_ofG rfl (Nat.le_of_ble_eq_true rfl) rfl (q_X11_isOneMissing hX v1 v2 σ hf ⟨rfl, rfl⟩)
theorem dX11_haveBoth_0 : decode cX11_haveBoth 0 = .ok (.aload_n 0, 1) := by decide +kernel
theorem dX11_haveBoth_1 : decode cX11_haveBoth 1 = .ok (.getfield 29, 3) := by decide +kernel
theorem dX11_haveBoth_4 : decode cX11_haveBoth 4 = .ok (.iload_n 1, 1) := by decide +kernel
theorem dX11_haveBoth_5 : decode cX11_haveBoth 5 = .ok (.aaload, 1) := by decide +kernel
theorem dX11_haveBoth_6 : decode cX11_haveBoth 6 = .ok (.iconst 0, 1) := by decide +kernel
theorem dX11_haveBoth_7 : decode cX11_haveBoth 7 = .ok (.iload_n 3, 1) := by decide +kernel
theorem dX11_haveBoth_8 : decode cX11_haveBoth 8 = .ok (.invokevirtual 138, 3) := by decide +kernel
theorem dX11_haveBoth_11 : decode cX11_haveBoth 11 = .ok (.ifCond .eq 21, 3) := by decide +kernel
theorem dX11_haveBoth_14 : decode cX11_haveBoth 14 = .ok (.aload_n 0, 1) := by decide +kernel
theorem dX11_haveBoth_15 : decode cX11_haveBoth 15 = .ok (.getfield 29, 3) := by decide +kernel
theorem dX11_haveBoth_18 : decode cX11_haveBoth 18 = .ok (.iload_n 2, 1) := by decide +kernel
theorem dX11_haveBoth_19 : decode cX11_haveBoth 19 = .ok (.aaload, 1) := by decide +kernel
theorem dX11_haveBoth_20 : decode cX11_haveBoth 20 = .ok (.iconst 0, 1) := by decide +kernel
theorem dX11_haveBoth_21 : decode cX11_haveBoth 21 = .ok (.iload_n 3, 1) := by decide +kernel
theorem dX11_haveBoth_22 : decode cX11_haveBoth 22 = .ok (.invokevirtual 138, 3) := by decide +kernel
theorem dX11_haveBoth_25 : decode cX11_haveBoth 25 = .ok (.ifCond .eq 7, 3) := by decide +kernel
theorem dX11_haveBoth_28 : decode cX11_haveBoth 28 = .ok (.iconst 1, 1) := by decide +kernel
theorem dX11_haveBoth_29 : decode cX11_haveBoth 29 = .ok (.goto 4, 3) := by decide +kernel
theorem dX11_haveBoth_32 : decode cX11_haveBoth 32 = .ok (.iconst 0, 1) := by decide +kernel
theorem dX11_haveBoth_33 : decode cX11_haveBoth 33 = .ok (.ireturn, 1) := by decide +kernel
noncomputable def f_X11_haveBoth (v1 : Int32) (v2 : Int32) (v3 : Int32) (σ : am_H) : Option (Bool) :=
  (am_ix 5 v1).bind fun j1 =>
  (f_X8_hasRun j1 0 v3 σ).bind fun p2 =>
  if p2 = true then
   ((am_ix 5 v2).bind fun j4 =>
   (f_X8_hasRun j4 0 v3 σ).bind fun p5 =>
   if p5 = true then
    (some true)
   else
   some false)
  else
  some false
set_option maxRecDepth 100000 in
set_option maxHeartbeats 4000000 in
theorem q_X11_haveBoth {X : am_X} (hX : am_wC X) {Q : Option Value → am_H → Prop} (v1 : Int32) (v2 : Int32) (v3 : Int32) (σ : am_H) {o : Bool} (hf : f_X11_haveBoth v1 v2 v3 σ = some o) (hk : Q (some (.int (am_b o))) σ) : am_G X gm_X11_haveBoth Q 0 [(0, .ref (am_ad X 11 0)), (1, .int v1), (2, .int v2), (3, .int v3)] [] σ := by
  unfold f_X11_haveBoth at hf
  refine g_aload_n (pc := 0) 0 rfl dX11_haveBoth_0 rfl ?_
  refine g_getC (pc := 1) (e := 0) (in_11 hX.1 (by omega)) fr_X11_29 dX11_haveBoth_1 rfl ?_
  refine g_iload_n (pc := 4) 1 rfl dX11_haveBoth_4 rfl ?_
  obtain ⟨j1, hj1, hf⟩ := am_bd hf
  have gj1 := am_ix_lt hj1
  refine g_aC (pc := 5) (e := j1) (in_1204 hX.1 (by omega)) ak_1204 hj1 rfl dX11_haveBoth_5 ?_
  refine g_iconst (pc := 6) (v := 0) dX11_haveBoth_6 (by decide) ?_
  refine g_iload_n (pc := 7) 3 rfl dX11_haveBoth_7 rfl ?_
  obtain ⟨p2, hp2, hf⟩ := am_bd hf
  refine g_cV (pc := 8) (As := [.int 0, .int v3]) (st := []) (st1 := [.int (am_b p2)]) (in_8 hX.1 (by omega)) kk_8 mV_X8_hasRun ln_X11_138 rfl (Nat.le_of_ble_eq_true rfl) (Nat.le_of_ble_eq_true rfl) (k_X8_hasRun hX j1 0 v3 (by omega) σ hp2) dX11_haveBoth_8 rfl rfl ?_
  refine bt_eq (pc := 11) 32 dX11_haveBoth_11 rfl (fun c3 => ?_) (fun c3 => ?_)
  · replace hf := am_ifT c3 hf
    refine g_aload_n (pc := 14) 0 rfl dX11_haveBoth_14 rfl ?_
    refine g_getC (pc := 15) (e := 0) (in_11 hX.1 (by omega)) fr_X11_29 dX11_haveBoth_15 rfl ?_
    refine g_iload_n (pc := 18) 2 rfl dX11_haveBoth_18 rfl ?_
    obtain ⟨j4, hj4, hf⟩ := am_bd hf
    have gj4 := am_ix_lt hj4
    refine g_aC (pc := 19) (e := j4) (in_1204 hX.1 (by omega)) ak_1204 hj4 rfl dX11_haveBoth_19 ?_
    refine g_iconst (pc := 20) (v := 0) dX11_haveBoth_20 (by decide) ?_
    refine g_iload_n (pc := 21) 3 rfl dX11_haveBoth_21 rfl ?_
    obtain ⟨p5, hp5, hf⟩ := am_bd hf
    refine g_cV (pc := 22) (As := [.int 0, .int v3]) (st := []) (st1 := [.int (am_b p5)]) (in_8 hX.1 (by omega)) kk_8 mV_X8_hasRun ln_X11_138 rfl (Nat.le_of_ble_eq_true rfl) (Nat.le_of_ble_eq_true rfl) (k_X8_hasRun hX j4 0 v3 (by omega) σ hp5) dX11_haveBoth_22 rfl rfl ?_
    refine bt_eq (pc := 25) 32 dX11_haveBoth_25 rfl (fun c6 => ?_) (fun c6 => ?_)
    · replace hf := am_ifT c6 hf
      refine g_iconst (pc := 28) (v := 1) dX11_haveBoth_28 (by decide) ?_
      refine g_goto (pc := 29) 33 dX11_haveBoth_29 rfl ?_
      have ho := Option.some.inj hf
      subst ho
      exact g_zreturn (pc := 33) (st := []) (x := true) rfl dX11_haveBoth_33 hk
    replace hf := am_ifF c6 hf
    refine g_iconst (pc := 32) (v := 0) dX11_haveBoth_32 (by decide) ?_
    have ho := Option.some.inj hf
    subst ho
    exact g_zreturn (pc := 33) (st := []) (x := false) rfl dX11_haveBoth_33 hk
  replace hf := am_ifF c3 hf
  refine g_iconst (pc := 32) (v := 0) dX11_haveBoth_32 (by decide) ?_
  have ho := Option.some.inj hf
  subst ho
  exact g_zreturn (pc := 33) (st := []) (x := false) rfl dX11_haveBoth_33 hk
theorem k_X11_haveBoth {X : am_X} (hX : am_wC X) (v1 : Int32) (v2 : Int32) (v3 : Int32) (σ : am_H) {o : Bool} (hf : f_X11_haveBoth v1 v2 v3 σ = some o) : am_C X gm_X11_haveBoth [.ref (am_ad X 11 0), .int v1, .int v2, .int v3] σ (am_is (some (.int (am_b o))) σ) :=
  am_ofG rfl (Nat.le_of_ble_eq_true rfl) rfl (q_X11_haveBoth hX v1 v2 v3 σ hf ⟨rfl, rfl⟩)
theorem dX11_settings_0 : decode cX11_settings 0 = .ok (.aload_n 0, 1) := by decide +kernel
theorem dX11_settings_1 : decode cX11_settings 1 = .ok (.iload 4, 2) := by decide +kernel
theorem dX11_settings_3 : decode cX11_settings 3 = .ok (.iload 5, 2) := by decide +kernel
theorem dX11_settings_5 : decode cX11_settings 5 = .ok (.invokevirtual 297, 3) := by decide +kernel
theorem dX11_settings_8 : decode cX11_settings 8 = .ok (.ifCond .ne 9, 3) := by decide +kernel
theorem dX11_settings_11 : decode cX11_settings 11 = .ok (.aload_n 0, 1) := by decide +kernel
theorem dX11_settings_12 : decode cX11_settings 12 = .ok (.iconst 1, 1) := by decide +kernel
theorem dX11_settings_13 : decode cX11_settings 13 = .ok (.invokevirtual 104, 3) := by decide +kernel
theorem dX11_settings_16 : decode cX11_settings 16 = .ok (.ireturn, 1) := by decide +kernel
theorem dX11_settings_17 : decode cX11_settings 17 = .ok (.aload_n 0, 1) := by decide +kernel
theorem dX11_settings_18 : decode cX11_settings 18 = .ok (.iload_n 1, 1) := by decide +kernel
theorem dX11_settings_19 : decode cX11_settings 19 = .ok (.iload_n 2, 1) := by decide +kernel
theorem dX11_settings_20 : decode cX11_settings 20 = .ok (.invokevirtual 199, 3) := by decide +kernel
theorem dX11_settings_23 : decode cX11_settings 23 = .ok (.astore 8, 2) := by decide +kernel
theorem dX11_settings_25 : decode cX11_settings 25 = .ok (.aload_n 0, 1) := by decide +kernel
theorem dX11_settings_26 : decode cX11_settings 26 = .ok (.iload_n 1, 1) := by decide +kernel
theorem dX11_settings_27 : decode cX11_settings 27 = .ok (.iload_n 3, 1) := by decide +kernel
theorem dX11_settings_28 : decode cX11_settings 28 = .ok (.invokevirtual 199, 3) := by decide +kernel
theorem dX11_settings_31 : decode cX11_settings 31 = .ok (.astore 9, 2) := by decide +kernel
theorem dX11_settings_33 : decode cX11_settings 33 = .ok (.aload 8, 2) := by decide +kernel
theorem dX11_settings_35 : decode cX11_settings 35 = .ok (.ifnull 8, 3) := by decide +kernel
theorem dX11_settings_38 : decode cX11_settings 38 = .ok (.aload 9, 2) := by decide +kernel
theorem dX11_settings_40 : decode cX11_settings 40 = .ok (.ifnonnull 9, 3) := by decide +kernel
theorem dX11_settings_43 : decode cX11_settings 43 = .ok (.aload_n 0, 1) := by decide +kernel
theorem dX11_settings_44 : decode cX11_settings 44 = .ok (.iconst 2, 1) := by decide +kernel
theorem dX11_settings_45 : decode cX11_settings 45 = .ok (.invokevirtual 104, 3) := by decide +kernel
theorem dX11_settings_48 : decode cX11_settings 48 = .ok (.ireturn, 1) := by decide +kernel
theorem dX11_settings_49 : decode cX11_settings 49 = .ok (.aload_n 0, 1) := by decide +kernel
theorem dX11_settings_50 : decode cX11_settings 50 = .ok (.iload 4, 2) := by decide +kernel
theorem dX11_settings_52 : decode cX11_settings 52 = .ok (.iload 5, 2) := by decide +kernel
theorem dX11_settings_54 : decode cX11_settings 54 = .ok (.invokevirtual 300, 3) := by decide +kernel
theorem dX11_settings_57 : decode cX11_settings 57 = .ok (.ifCond .eq 9, 3) := by decide +kernel
theorem dX11_settings_60 : decode cX11_settings 60 = .ok (.aload_n 0, 1) := by decide +kernel
theorem dX11_settings_61 : decode cX11_settings 61 = .ok (.iconst 3, 1) := by decide +kernel
theorem dX11_settings_62 : decode cX11_settings 62 = .ok (.invokevirtual 104, 3) := by decide +kernel
theorem dX11_settings_65 : decode cX11_settings 65 = .ok (.ireturn, 1) := by decide +kernel
theorem dX11_settings_66 : decode cX11_settings 66 = .ok (.iload 6, 2) := by decide +kernel
theorem dX11_settings_68 : decode cX11_settings 68 = .ok (.iconst 1, 1) := by decide +kernel
theorem dX11_settings_69 : decode cX11_settings 69 = .ok (.bipush 24, 2) := by decide +kernel
theorem dX11_settings_71 : decode cX11_settings 71 = .ok (.invokestatic 222, 3) := by decide +kernel
theorem dX11_settings_74 : decode cX11_settings 74 = .ok (.ifCond .eq 22, 3) := by decide +kernel
theorem dX11_settings_77 : decode cX11_settings 77 = .ok (.iload 7, 2) := by decide +kernel
theorem dX11_settings_79 : decode cX11_settings 79 = .ok (.iconst 0, 1) := by decide +kernel
theorem dX11_settings_80 : decode cX11_settings 80 = .ok (.iload_n 2, 1) := by decide +kernel
theorem dX11_settings_81 : decode cX11_settings 81 = .ok (.iload_n 3, 1) := by decide +kernel
theorem dX11_settings_82 : decode cX11_settings 82 = .ok (.if_icmp .ne 7, 3) := by decide +kernel
theorem dX11_settings_85 : decode cX11_settings 85 = .ok (.iconst 2, 1) := by decide +kernel
theorem dX11_settings_86 : decode cX11_settings 86 = .ok (.goto 4, 3) := by decide +kernel
theorem dX11_settings_89 : decode cX11_settings 89 = .ok (.iconst 4, 1) := by decide +kernel
theorem dX11_settings_90 : decode cX11_settings 90 = .ok (.invokestatic 222, 3) := by decide +kernel
theorem dX11_settings_93 : decode cX11_settings 93 = .ok (.ifCond .ne 9, 3) := by decide +kernel
theorem dX11_settings_96 : decode cX11_settings 96 = .ok (.aload_n 0, 1) := by decide +kernel
theorem dX11_settings_97 : decode cX11_settings 97 = .ok (.iconst 5, 1) := by decide +kernel
theorem dX11_settings_98 : decode cX11_settings 98 = .ok (.invokevirtual 104, 3) := by decide +kernel
theorem dX11_settings_101 : decode cX11_settings 101 = .ok (.ireturn, 1) := by decide +kernel
theorem dX11_settings_102 : decode cX11_settings 102 = .ok (.aload_n 0, 1) := by decide +kernel
theorem dX11_settings_103 : decode cX11_settings 103 = .ok (.iload 4, 2) := by decide +kernel
theorem dX11_settings_105 : decode cX11_settings 105 = .ok (.iload 5, 2) := by decide +kernel
theorem dX11_settings_107 : decode cX11_settings 107 = .ok (.iload 6, 2) := by decide +kernel
theorem dX11_settings_109 : decode cX11_settings 109 = .ok (.invokevirtual 303, 3) := by decide +kernel
theorem dX11_settings_112 : decode cX11_settings 112 = .ok (.ifCond .ne 9, 3) := by decide +kernel
theorem dX11_settings_115 : decode cX11_settings 115 = .ok (.aload_n 0, 1) := by decide +kernel
theorem dX11_settings_116 : decode cX11_settings 116 = .ok (.iconst 4, 1) := by decide +kernel
theorem dX11_settings_117 : decode cX11_settings 117 = .ok (.invokevirtual 104, 3) := by decide +kernel
theorem dX11_settings_120 : decode cX11_settings 120 = .ok (.ireturn, 1) := by decide +kernel
theorem dX11_settings_121 : decode cX11_settings 121 = .ok (.aload_n 0, 1) := by decide +kernel
theorem dX11_settings_122 : decode cX11_settings 122 = .ok (.getfield 79, 3) := by decide +kernel
theorem dX11_settings_125 : decode cX11_settings 125 = .ok (.aload_n 0, 1) := by decide +kernel
theorem dX11_settings_126 : decode cX11_settings 126 = .ok (.getfield 29, 3) := by decide +kernel
theorem dX11_settings_129 : decode cX11_settings 129 = .ok (.iload 4, 2) := by decide +kernel
theorem dX11_settings_131 : decode cX11_settings 131 = .ok (.aaload, 1) := by decide +kernel
theorem dX11_settings_132 : decode cX11_settings 132 = .ok (.aload_n 0, 1) := by decide +kernel
theorem dX11_settings_133 : decode cX11_settings 133 = .ok (.getfield 29, 3) := by decide +kernel
theorem dX11_settings_136 : decode cX11_settings 136 = .ok (.iload 5, 2) := by decide +kernel
theorem dX11_settings_138 : decode cX11_settings 138 = .ok (.aaload, 1) := by decide +kernel
theorem dX11_settings_139 : decode cX11_settings 139 = .ok (.iload 6, 2) := by decide +kernel
theorem dX11_settings_141 : decode cX11_settings 141 = .ok (.invokevirtual 306, 3) := by decide +kernel
theorem dX11_settings_144 : decode cX11_settings 144 = .ok (.ifCond .ne 9, 3) := by decide +kernel
theorem dX11_settings_147 : decode cX11_settings 147 = .ok (.aload_n 0, 1) := by decide +kernel
theorem dX11_settings_148 : decode cX11_settings 148 = .ok (.iconst 5, 1) := by decide +kernel
theorem dX11_settings_149 : decode cX11_settings 149 = .ok (.invokevirtual 104, 3) := by decide +kernel
theorem dX11_settings_152 : decode cX11_settings 152 = .ok (.ireturn, 1) := by decide +kernel
theorem dX11_settings_153 : decode cX11_settings 153 = .ok (.aload_n 0, 1) := by decide +kernel
theorem dX11_settings_154 : decode cX11_settings 154 = .ok (.getfield 79, 3) := by decide +kernel
theorem dX11_settings_157 : decode cX11_settings 157 = .ok (.aload 8, 2) := by decide +kernel
theorem dX11_settings_159 : decode cX11_settings 159 = .ok (.aload 9, 2) := by decide +kernel
theorem dX11_settings_161 : decode cX11_settings 161 = .ok (.iload_n 2, 1) := by decide +kernel
theorem dX11_settings_162 : decode cX11_settings 162 = .ok (.iload_n 3, 1) := by decide +kernel
theorem dX11_settings_163 : decode cX11_settings 163 = .ok (.if_icmp .ne 7, 3) := by decide +kernel
theorem dX11_settings_166 : decode cX11_settings 166 = .ok (.iconst 1, 1) := by decide +kernel
theorem dX11_settings_167 : decode cX11_settings 167 = .ok (.goto 4, 3) := by decide +kernel
theorem dX11_settings_170 : decode cX11_settings 170 = .ok (.iconst 0, 1) := by decide +kernel
theorem dX11_settings_171 : decode cX11_settings 171 = .ok (.invokevirtual 310, 3) := by decide +kernel
theorem dX11_settings_174 : decode cX11_settings 174 = .ok (.ifCond .ne 10, 3) := by decide +kernel
theorem dX11_settings_177 : decode cX11_settings 177 = .ok (.aload_n 0, 1) := by decide +kernel
theorem dX11_settings_178 : decode cX11_settings 178 = .ok (.bipush 9, 2) := by decide +kernel
theorem dX11_settings_180 : decode cX11_settings 180 = .ok (.invokevirtual 104, 3) := by decide +kernel
theorem dX11_settings_183 : decode cX11_settings 183 = .ok (.ireturn, 1) := by decide +kernel
theorem dX11_settings_184 : decode cX11_settings 184 = .ok (.aload_n 0, 1) := by decide +kernel
theorem dX11_settings_185 : decode cX11_settings 185 = .ok (.aload_n 0, 1) := by decide +kernel
theorem dX11_settings_186 : decode cX11_settings 186 = .ok (.getfield 79, 3) := by decide +kernel
theorem dX11_settings_189 : decode cX11_settings 189 = .ok (.iload 7, 2) := by decide +kernel
theorem dX11_settings_191 : decode cX11_settings 191 = .ok (.invokevirtual 314, 3) := by decide +kernel
theorem dX11_settings_194 : decode cX11_settings 194 = .ok (.aload_n 0, 1) := by decide +kernel
theorem dX11_settings_195 : decode cX11_settings 195 = .ok (.getfield 79, 3) := by decide +kernel
theorem dX11_settings_198 : decode cX11_settings 198 = .ok (.getfield 317, 3) := by decide +kernel
theorem dX11_settings_201 : decode cX11_settings 201 = .ok (.invokevirtual 256, 3) := by decide +kernel
theorem dX11_settings_204 : decode cX11_settings 204 = .ok (.aload_n 0, 1) := by decide +kernel
theorem dX11_settings_205 : decode cX11_settings 205 = .ok (.invokevirtual 112, 3) := by decide +kernel
theorem dX11_settings_208 : decode cX11_settings 208 = .ok (.ireturn, 1) := by decide +kernel
noncomputable def f_X11_settings_43 (σ : am_H) : Option (Bool × am_H) :=
  (f_X11_no 2 σ).bind fun p1 =>
  some (p1.1, p1.2)
set_option maxRecDepth 100000 in
set_option maxHeartbeats 4000000 in
theorem q_X11_settings_43 {X : am_X} (hX : am_wC X) {Q : Option Value → am_H → Prop} (σ : am_H) {o : Bool × am_H} (hf : f_X11_settings_43 σ = some o) (hk : Q (some (.int (am_b o.1))) o.2) : am_G X gm_X11_settings Q 43 [(0, .ref (am_ad X 11 0))] [] σ := by
  unfold f_X11_settings_43 at hf
  refine g_aload_n (pc := 43) 0 rfl dX11_settings_43 rfl ?_
  refine g_iconst (pc := 44) (v := 2) dX11_settings_44 (by decide) ?_
  obtain ⟨p1, hp1, hf⟩ := am_bd hf
  refine g_cV (pc := 45) (As := [.int 2]) (st := []) (st1 := [.int (am_b p1.1)]) (in_11 hX.1 (by omega)) kk_11 mV_X11_no ln_X11_104 rfl (Nat.le_of_ble_eq_true rfl) (Nat.le_of_ble_eq_true rfl) (k_X11_no hX 2 σ hp1) dX11_settings_45 rfl rfl ?_
  have ho := Option.some.inj hf
  subst ho
  exact g_zreturn (pc := 48) (st := []) (x := p1.1) rfl dX11_settings_48 hk
noncomputable def f_X11_settings_171 (v7 : Int32) (k0 : Nat) (k1 : Nat) (k2 : Nat) (k3 : Bool) (σ : am_H) : Option (Bool × am_H) :=
  (f_X1_partsWaves k0 k1 k2 k3 σ).bind fun p1 =>
  if p1.1 = true then
   ((f_X1_partTop 0 v7 p1.2).bind fun p3 =>
   (f_X11_tellFraction p3 (p1.2.2.1 1 0 7) p1.2).bind fun p4 =>
   (f_X11_yes p4).bind fun p5 =>
   some (p5.1, p5.2))
  else
  (f_X11_no 9 p1.2).bind fun p6 =>
  some (p6.1, p6.2)
set_option maxRecDepth 100000 in
set_option maxHeartbeats 4000000 in
theorem q_X11_settings_171 {X : am_X} (hX : am_wC X) {Q : Option Value → am_H → Prop} (v7 : Int32) (k0 : Nat) (k1 : Nat) (k2 : Nat) (k3 : Bool) (hk0 : k0 < 2) (hk1 : k1 < 18) (hk2 : k2 < 18) (σ : am_H) {o : Bool × am_H} (hf : f_X11_settings_171 v7 k0 k1 k2 k3 σ = some o) (hk : Q (some (.int (am_b o.1))) o.2) : am_G X gm_X11_settings Q 171 [(0, .ref (am_ad X 11 0)), (7, .int v7)] [.int (am_b k3), .ref (am_ad X 10 k2), .ref (am_ad X 10 k1), .ref (am_ad X 1 k0)] σ := by
  unfold f_X11_settings_171 at hf
  obtain ⟨p1, hp1, hf⟩ := am_bd hf
  refine g_cV (pc := 171) (As := [.ref (am_ad X 10 k1), .ref (am_ad X 10 k2), .int (am_b k3)]) (st := []) (st1 := [.int (am_b p1.1)]) (in_1 hX.1 (by omega)) kk_1 mV_X1_partsWaves ln_X11_310 rfl (Nat.le_of_ble_eq_true rfl) (Nat.le_of_ble_eq_true rfl) (k_X1_partsWaves hX k0 k1 k2 k3 (by omega) (by omega) (by omega) σ hp1) dX11_settings_171 rfl rfl ?_
  refine bt_ne (pc := 174) 184 dX11_settings_174 rfl (fun c2 => ?_) (fun c2 => ?_)
  · replace hf := am_ifT c2 hf
    refine g_aload_n (pc := 184) 0 rfl dX11_settings_184 rfl ?_
    refine g_aload_n (pc := 185) 0 rfl dX11_settings_185 rfl ?_
    refine g_getC (pc := 186) (e := 0) (in_11 hX.1 (by omega)) fr_X11_79 dX11_settings_186 rfl ?_
    refine g_iload (pc := 189) 1 rfl dX11_settings_189 ?_
    obtain ⟨p3, hp3, hf⟩ := am_bd hf
    refine g_cV (pc := 191) (As := [.int v7]) (st := [.ref (am_ad X 11 0)]) (st1 := [.long p3, .ref (am_ad X 11 0)]) (in_1 hX.1 (by omega)) kk_1 mV_X1_partTop ln_X11_314 rfl (Nat.le_of_ble_eq_true rfl) (Nat.le_of_ble_eq_true rfl) (k_X1_partTop hX 0 v7 (by omega) p1.2 hp3) dX11_settings_191 rfl rfl ?_
    refine g_aload_n (pc := 194) 0 rfl dX11_settings_194 rfl ?_
    refine g_getC (pc := 195) (e := 0) (in_11 hX.1 (by omega)) fr_X11_79 dX11_settings_195 rfl ?_
    refine g_getJ (pc := 198) (in_1 hX.1 (by omega)) fr_X11_317 dX11_settings_198 ?_
    obtain ⟨p4, hp4, hf⟩ := am_bd hf
    refine g_cV (pc := 201) (As := [.long p3, .long (p1.2.2.1 1 0 7)]) (st := []) (st1 := []) (in_11 hX.1 (by omega)) kk_11 mV_X11_tellFraction ln_X11_256 rfl (Nat.le_of_ble_eq_true rfl) (Nat.le_of_ble_eq_true rfl) (k_X11_tellFraction hX p3 (p1.2.2.1 1 0 7) p1.2 hp4) dX11_settings_201 rfl rfl ?_
    refine g_aload_n (pc := 204) 0 rfl dX11_settings_204 rfl ?_
    obtain ⟨p5, hp5, hf⟩ := am_bd hf
    refine g_cV (pc := 205) (As := []) (st := []) (st1 := [.int (am_b p5.1)]) (in_11 hX.1 (by omega)) kk_11 mV_X11_yes ln_X11_112 rfl (Nat.le_of_ble_eq_true rfl) (Nat.le_of_ble_eq_true rfl) (k_X11_yes hX p4 hp5) dX11_settings_205 rfl rfl ?_
    have ho := Option.some.inj hf
    subst ho
    exact g_zreturn (pc := 208) (st := []) (x := p5.1) rfl dX11_settings_208 hk
  replace hf := am_ifF c2 hf
  refine g_aload_n (pc := 177) 0 rfl dX11_settings_177 rfl ?_
  refine g_bipush (pc := 178) (v := 9) dX11_settings_178 (by decide) ?_
  obtain ⟨p6, hp6, hf⟩ := am_bd hf
  refine g_cV (pc := 180) (As := [.int 9]) (st := []) (st1 := [.int (am_b p6.1)]) (in_11 hX.1 (by omega)) kk_11 mV_X11_no ln_X11_104 rfl (Nat.le_of_ble_eq_true rfl) (Nat.le_of_ble_eq_true rfl) (k_X11_no hX 9 p1.2 hp6) dX11_settings_180 rfl rfl ?_
  have ho := Option.some.inj hf
  subst ho
  exact g_zreturn (pc := 183) (st := []) (x := p6.1) rfl dX11_settings_183 hk
noncomputable def f_X11_settings_96 (σ : am_H) : Option (Bool × am_H) :=
  (f_X11_no 5 σ).bind fun p1 =>
  some (p1.1, p1.2)
set_option maxRecDepth 100000 in
set_option maxHeartbeats 4000000 in
theorem q_X11_settings_96 {X : am_X} (hX : am_wC X) {Q : Option Value → am_H → Prop} (σ : am_H) {o : Bool × am_H} (hf : f_X11_settings_96 σ = some o) (hk : Q (some (.int (am_b o.1))) o.2) : am_G X gm_X11_settings Q 96 [(0, .ref (am_ad X 11 0))] [] σ := by
  unfold f_X11_settings_96 at hf
  refine g_aload_n (pc := 96) 0 rfl dX11_settings_96 rfl ?_
  refine g_iconst (pc := 97) (v := 5) dX11_settings_97 (by decide) ?_
  obtain ⟨p1, hp1, hf⟩ := am_bd hf
  refine g_cV (pc := 98) (As := [.int 5]) (st := []) (st1 := [.int (am_b p1.1)]) (in_11 hX.1 (by omega)) kk_11 mV_X11_no ln_X11_104 rfl (Nat.le_of_ble_eq_true rfl) (Nat.le_of_ble_eq_true rfl) (k_X11_no hX 5 σ hp1) dX11_settings_98 rfl rfl ?_
  have ho := Option.some.inj hf
  subst ho
  exact g_zreturn (pc := 101) (st := []) (x := p1.1) rfl dX11_settings_101 hk
noncomputable def f_X11_settings_90 (v2 : Int32) (v3 : Int32) (v4 : Int32) (v5 : Int32) (v6 : Int32) (v7 : Int32) (r8 : Nat) (r9 : Nat) (k0 : Int32) (k2 : Int32) (σ : am_H) : Option (Bool × am_H) :=
  (f_X11_isWithin k0 0 k2 σ).bind fun p1 =>
  if p1 = true then
   ((f_X11_haveBoth v4 v5 v6 σ).bind fun p3 =>
   if p3 = true then
    ((am_ix 5 v4).bind fun j5 =>
    (am_ix 5 v5).bind fun j6 =>
    (f_X1_takeFrom 0 j5 j6 v6 σ).bind fun p7 =>
    if p7.1 = true then
     (if v2 = v3 then
      (f_X11_settings_171 v7 0 r8 r9 true p7.2)
     else
     f_X11_settings_171 v7 0 r8 r9 false p7.2)
    else
    (f_X11_no 5 p7.2).bind fun p10 =>
    some (p10.1, p10.2))
   else
   (f_X11_no 4 σ).bind fun p11 =>
   some (p11.1, p11.2))
  else
  f_X11_settings_96 σ
set_option maxRecDepth 100000 in
set_option maxHeartbeats 4000000 in
theorem q_X11_settings_90 {X : am_X} (hX : am_wC X) {Q : Option Value → am_H → Prop} (v2 : Int32) (v3 : Int32) (v4 : Int32) (v5 : Int32) (v6 : Int32) (v7 : Int32) (r8 : Nat) (r9 : Nat) (k0 : Int32) (k2 : Int32) (hr8 : r8 < 18) (hr9 : r9 < 18) (σ : am_H) {o : Bool × am_H} (hf : f_X11_settings_90 v2 v3 v4 v5 v6 v7 r8 r9 k0 k2 σ = some o) (hk : Q (some (.int (am_b o.1))) o.2) : am_G X gm_X11_settings Q 90 [(0, .ref (am_ad X 11 0)), (2, .int v2), (3, .int v3), (4, .int v4), (5, .int v5), (6, .int v6), (7, .int v7), (8, .ref (am_ad X 10 r8)), (9, .ref (am_ad X 10 r9))] [.int k2, .int 0, .int k0] σ := by
  unfold f_X11_settings_90 at hf
  obtain ⟨p1, hp1, hf⟩ := am_bd hf
  refine g_cS (pc := 90) (As := [.int k0, .int 0, .int k2]) (st := []) (st1 := [.int (am_b p1)]) mS_X11_isWithin ln_X11_222 rfl (Nat.le_of_ble_eq_true rfl) (Nat.le_of_ble_eq_true rfl) (k_X11_isWithin hX k0 0 k2 σ hp1) dX11_settings_90 rfl rfl ?_
  refine bt_ne (pc := 93) 102 dX11_settings_93 rfl (fun c2 => ?_) (fun c2 => ?_)
  · replace hf := am_ifT c2 hf
    refine g_aload_n (pc := 102) 0 rfl dX11_settings_102 rfl ?_
    refine g_iload (pc := 103) 3 rfl dX11_settings_103 ?_
    refine g_iload (pc := 105) 4 rfl dX11_settings_105 ?_
    refine g_iload (pc := 107) 5 rfl dX11_settings_107 ?_
    obtain ⟨p3, hp3, hf⟩ := am_bd hf
    refine g_cV (pc := 109) (As := [.int v4, .int v5, .int v6]) (st := []) (st1 := [.int (am_b p3)]) (in_11 hX.1 (by omega)) kk_11 mV_X11_haveBoth ln_X11_303 rfl (Nat.le_of_ble_eq_true rfl) (Nat.le_of_ble_eq_true rfl) (k_X11_haveBoth hX v4 v5 v6 σ hp3) dX11_settings_109 rfl rfl ?_
    refine bt_ne (pc := 112) 121 dX11_settings_112 rfl (fun c4 => ?_) (fun c4 => ?_)
    · replace hf := am_ifT c4 hf
      refine g_aload_n (pc := 121) 0 rfl dX11_settings_121 rfl ?_
      refine g_getC (pc := 122) (e := 0) (in_11 hX.1 (by omega)) fr_X11_79 dX11_settings_122 rfl ?_
      refine g_aload_n (pc := 125) 0 rfl dX11_settings_125 rfl ?_
      refine g_getC (pc := 126) (e := 0) (in_11 hX.1 (by omega)) fr_X11_29 dX11_settings_126 rfl ?_
      refine g_iload (pc := 129) 3 rfl dX11_settings_129 ?_
      obtain ⟨j5, hj5, hf⟩ := am_bd hf
      have gj5 := am_ix_lt hj5
      refine g_aC (pc := 131) (e := j5) (in_1204 hX.1 (by omega)) ak_1204 hj5 rfl dX11_settings_131 ?_
      refine g_aload_n (pc := 132) 0 rfl dX11_settings_132 rfl ?_
      refine g_getC (pc := 133) (e := 0) (in_11 hX.1 (by omega)) fr_X11_29 dX11_settings_133 rfl ?_
      refine g_iload (pc := 136) 4 rfl dX11_settings_136 ?_
      obtain ⟨j6, hj6, hf⟩ := am_bd hf
      have gj6 := am_ix_lt hj6
      refine g_aC (pc := 138) (e := j6) (in_1204 hX.1 (by omega)) ak_1204 hj6 rfl dX11_settings_138 ?_
      refine g_iload (pc := 139) 5 rfl dX11_settings_139 ?_
      obtain ⟨p7, hp7, hf⟩ := am_bd hf
      refine g_cV (pc := 141) (As := [.ref (am_ad X 8 j5), .ref (am_ad X 8 j6), .int v6]) (st := []) (st1 := [.int (am_b p7.1)]) (in_1 hX.1 (by omega)) kk_1 mV_X1_takeFrom ln_X11_306 rfl (Nat.le_of_ble_eq_true rfl) (Nat.le_of_ble_eq_true rfl) (k_X1_takeFrom hX 0 j5 j6 v6 (by omega) (by omega) (by omega) σ hp7) dX11_settings_141 rfl rfl ?_
      refine bt_ne (pc := 144) 153 dX11_settings_144 rfl (fun c8 => ?_) (fun c8 => ?_)
      · replace hf := am_ifT c8 hf
        refine g_aload_n (pc := 153) 0 rfl dX11_settings_153 rfl ?_
        refine g_getC (pc := 154) (e := 0) (in_11 hX.1 (by omega)) fr_X11_79 dX11_settings_154 rfl ?_
        refine g_aload (pc := 157) 7 rfl dX11_settings_157 ?_
        refine g_aload (pc := 159) 8 rfl dX11_settings_159 ?_
        refine g_iload_n (pc := 161) 1 rfl dX11_settings_161 rfl ?_
        refine g_iload_n (pc := 162) 2 rfl dX11_settings_162 rfl ?_
        refine bi_ne (pc := 163) 170 dX11_settings_163 rfl (fun c9 => ?_) (fun c9 => ?_)
        · replace hf := am_ifT c9 hf
          refine g_iconst (pc := 166) (v := 1) dX11_settings_166 (by decide) ?_
          refine g_goto (pc := 167) 171 dX11_settings_167 rfl ?_
          exact am_sub [0, 6] rfl (q_X11_settings_171 hX v7 0 r8 r9 true (by omega) (by omega) (by omega) p7.2 hf hk)
        replace hf := am_ifF c9 hf
        refine g_iconst (pc := 170) (v := 0) dX11_settings_170 (by decide) ?_
        exact am_sub [0, 6] rfl (q_X11_settings_171 hX v7 0 r8 r9 false (by omega) (by omega) (by omega) p7.2 hf hk)
      replace hf := am_ifF c8 hf
      refine g_aload_n (pc := 147) 0 rfl dX11_settings_147 rfl ?_
      refine g_iconst (pc := 148) (v := 5) dX11_settings_148 (by decide) ?_
      obtain ⟨p10, hp10, hf⟩ := am_bd hf
      refine g_cV (pc := 149) (As := [.int 5]) (st := []) (st1 := [.int (am_b p10.1)]) (in_11 hX.1 (by omega)) kk_11 mV_X11_no ln_X11_104 rfl (Nat.le_of_ble_eq_true rfl) (Nat.le_of_ble_eq_true rfl) (k_X11_no hX 5 p7.2 hp10) dX11_settings_149 rfl rfl ?_
      have ho := Option.some.inj hf
      subst ho
      exact g_zreturn (pc := 152) (st := []) (x := p10.1) rfl dX11_settings_152 hk
    replace hf := am_ifF c4 hf
    refine g_aload_n (pc := 115) 0 rfl dX11_settings_115 rfl ?_
    refine g_iconst (pc := 116) (v := 4) dX11_settings_116 (by decide) ?_
    obtain ⟨p11, hp11, hf⟩ := am_bd hf
    refine g_cV (pc := 117) (As := [.int 4]) (st := []) (st1 := [.int (am_b p11.1)]) (in_11 hX.1 (by omega)) kk_11 mV_X11_no ln_X11_104 rfl (Nat.le_of_ble_eq_true rfl) (Nat.le_of_ble_eq_true rfl) (k_X11_no hX 4 σ hp11) dX11_settings_117 rfl rfl ?_
    have ho := Option.some.inj hf
    subst ho
    exact g_zreturn (pc := 120) (st := []) (x := p11.1) rfl dX11_settings_120 hk
  replace hf := am_ifF c2 hf
  exact am_sub [0] rfl (q_X11_settings_96 hX σ hf hk)
noncomputable def f_X11_settings (v1 : Int32) (v2 : Int32) (v3 : Int32) (v4 : Int32) (v5 : Int32) (v6 : Int32) (v7 : Int32) (σ : am_H) : Option (Bool × am_H) :=
  (f_X11_areTrays v4 v5 σ).bind fun p1 =>
  if p1 = true then
   ((f_X11_waveOf v1 v2 σ).bind fun p3 =>
   am_nn 18 p3
    ((f_X11_waveOf v1 v3 σ).bind fun p5 =>
    am_nn 18 p5
     (f_X11_settings_43 σ)
     (fun a6 =>
     f_X11_settings_43 σ))
    (fun a4 =>
    (f_X11_waveOf v1 v3 σ).bind fun p7 =>
    am_nn 18 p7
     (f_X11_settings_43 σ)
     (fun a8 =>
     (f_X11_isOneMissing v4 v5 σ).bind fun p9 =>
     if p9 = true then
      ((f_X11_no 3 σ).bind fun p11 =>
      some (p11.1, p11.2))
     else
     (f_X11_isWithin v6 1 24 σ).bind fun p12 =>
     if p12 = true then
      (if v2 = v3 then
       (f_X11_settings_90 v2 v3 v4 v5 v6 v7 a4 a8 v7 2 σ)
      else
      f_X11_settings_90 v2 v3 v4 v5 v6 v7 a4 a8 v7 4 σ)
     else
     f_X11_settings_96 σ)))
  else
  (f_X11_no 1 σ).bind fun p15 =>
  some (p15.1, p15.2)
set_option maxRecDepth 100000 in
set_option maxHeartbeats 4000000 in
theorem q_X11_settings {X : am_X} (hX : am_wC X) {Q : Option Value → am_H → Prop} (v1 : Int32) (v2 : Int32) (v3 : Int32) (v4 : Int32) (v5 : Int32) (v6 : Int32) (v7 : Int32) (σ : am_H) {o : Bool × am_H} (hf : f_X11_settings v1 v2 v3 v4 v5 v6 v7 σ = some o) (hk : Q (some (.int (am_b o.1))) o.2) : am_G X gm_X11_settings Q 0 [(0, .ref (am_ad X 11 0)), (1, .int v1), (2, .int v2), (3, .int v3), (4, .int v4), (5, .int v5), (6, .int v6), (7, .int v7)] [] σ := by
  unfold f_X11_settings at hf
  refine g_aload_n (pc := 0) 0 rfl dX11_settings_0 rfl ?_
  refine g_iload (pc := 1) 4 rfl dX11_settings_1 ?_
  refine g_iload (pc := 3) 5 rfl dX11_settings_3 ?_
  obtain ⟨p1, hp1, hf⟩ := am_bd hf
  refine g_cV (pc := 5) (As := [.int v4, .int v5]) (st := []) (st1 := [.int (am_b p1)]) (in_11 hX.1 (by omega)) kk_11 mV_X11_areTrays ln_X11_297 rfl (Nat.le_of_ble_eq_true rfl) (Nat.le_of_ble_eq_true rfl) (k_X11_areTrays hX v4 v5 σ hp1) dX11_settings_5 rfl rfl ?_
  refine bt_ne (pc := 8) 17 dX11_settings_8 rfl (fun c2 => ?_) (fun c2 => ?_)
  · replace hf := am_ifT c2 hf
    refine g_aload_n (pc := 17) 0 rfl dX11_settings_17 rfl ?_
    refine g_iload_n (pc := 18) 1 rfl dX11_settings_18 rfl ?_
    refine g_iload_n (pc := 19) 2 rfl dX11_settings_19 rfl ?_
    obtain ⟨p3, hp3, hf⟩ := am_bd hf
    have hq := am_nn_c hf
    clear hf
    rcases hq with ⟨ep3, hf⟩ | ⟨a4, ep3, ga4, hf⟩
    · subst ep3
      refine g_cV (pc := 20) (As := [.int v1, .int v2]) (st := []) (st1 := [.null]) (in_11 hX.1 (by omega)) kk_11 mV_X11_waveOf ln_X11_199 rfl (Nat.le_of_ble_eq_true rfl) (Nat.le_of_ble_eq_true rfl) (k_X11_waveOf hX v1 v2 σ hp3) dX11_settings_20 rfl rfl ?_
      refine g_astoreN (pc := 23) [(8, .null), (0, .ref (am_ad X 11 0)), (1, .int v1), (2, .int v2), (3, .int v3), (4, .int v4), (5, .int v5), (6, .int v6), (7, .int v7)] dX11_settings_23 (Nat.le_of_ble_eq_true rfl) rfl ?_
      refine g_aload_n (pc := 25) 1 rfl dX11_settings_25 rfl ?_
      refine g_iload_n (pc := 26) 2 rfl dX11_settings_26 rfl ?_
      refine g_iload_n (pc := 27) 4 rfl dX11_settings_27 rfl ?_
      obtain ⟨p5, hp5, hf⟩ := am_bd hf
      have hq := am_nn_c hf
      clear hf
      rcases hq with ⟨ep5, hf⟩ | ⟨a6, ep5, ga6, hf⟩
      · subst ep5
        refine g_cV (pc := 28) (As := [.int v1, .int v3]) (st := []) (st1 := [.null]) (in_11 hX.1 (by omega)) kk_11 mV_X11_waveOf ln_X11_199 rfl (Nat.le_of_ble_eq_true rfl) (Nat.le_of_ble_eq_true rfl) (k_X11_waveOf hX v1 v3 σ hp5) dX11_settings_28 rfl rfl ?_
        refine g_astoreN (pc := 31) [(9, .null), (8, .null), (0, .ref (am_ad X 11 0)), (1, .int v1), (2, .int v2), (3, .int v3), (4, .int v4), (5, .int v5), (6, .int v6), (7, .int v7)] dX11_settings_31 (Nat.le_of_ble_eq_true rfl) rfl ?_
        refine g_aloadN (pc := 33) 1 rfl dX11_settings_33 ?_
        refine g_ifnullN (pc := 35) 43 dX11_settings_35 rfl ?_
        exact am_sub [2] rfl (q_X11_settings_43 hX σ hf hk)
      · subst ep5
        refine g_cV (pc := 28) (As := [.int v1, .int v3]) (st := []) (st1 := [.ref (am_ad X 10 a6)]) (in_11 hX.1 (by omega)) kk_11 mV_X11_waveOf ln_X11_199 rfl (Nat.le_of_ble_eq_true rfl) (Nat.le_of_ble_eq_true rfl) (k_X11_waveOf hX v1 v3 σ hp5) dX11_settings_28 rfl rfl ?_
        refine g_astore (pc := 31) [(9, .ref (am_ad X 10 a6)), (8, .null), (0, .ref (am_ad X 11 0)), (1, .int v1), (2, .int v2), (3, .int v3), (4, .int v4), (5, .int v5), (6, .int v6), (7, .int v7)] dX11_settings_31 (Nat.le_of_ble_eq_true rfl) rfl ?_
        refine g_aloadN (pc := 33) 1 rfl dX11_settings_33 ?_
        refine g_ifnullN (pc := 35) 43 dX11_settings_35 rfl ?_
        exact am_sub [2] rfl (q_X11_settings_43 hX σ hf hk)
    · subst ep3
      refine g_cV (pc := 20) (As := [.int v1, .int v2]) (st := []) (st1 := [.ref (am_ad X 10 a4)]) (in_11 hX.1 (by omega)) kk_11 mV_X11_waveOf ln_X11_199 rfl (Nat.le_of_ble_eq_true rfl) (Nat.le_of_ble_eq_true rfl) (k_X11_waveOf hX v1 v2 σ hp3) dX11_settings_20 rfl rfl ?_
      refine g_astore (pc := 23) [(8, .ref (am_ad X 10 a4)), (0, .ref (am_ad X 11 0)), (1, .int v1), (2, .int v2), (3, .int v3), (4, .int v4), (5, .int v5), (6, .int v6), (7, .int v7)] dX11_settings_23 (Nat.le_of_ble_eq_true rfl) rfl ?_
      refine g_aload_n (pc := 25) 1 rfl dX11_settings_25 rfl ?_
      refine g_iload_n (pc := 26) 2 rfl dX11_settings_26 rfl ?_
      refine g_iload_n (pc := 27) 4 rfl dX11_settings_27 rfl ?_
      obtain ⟨p7, hp7, hf⟩ := am_bd hf
      have hq := am_nn_c hf
      clear hf
      rcases hq with ⟨ep7, hf⟩ | ⟨a8, ep7, ga8, hf⟩
      · subst ep7
        refine g_cV (pc := 28) (As := [.int v1, .int v3]) (st := []) (st1 := [.null]) (in_11 hX.1 (by omega)) kk_11 mV_X11_waveOf ln_X11_199 rfl (Nat.le_of_ble_eq_true rfl) (Nat.le_of_ble_eq_true rfl) (k_X11_waveOf hX v1 v3 σ hp7) dX11_settings_28 rfl rfl ?_
        refine g_astoreN (pc := 31) [(9, .null), (8, .ref (am_ad X 10 a4)), (0, .ref (am_ad X 11 0)), (1, .int v1), (2, .int v2), (3, .int v3), (4, .int v4), (5, .int v5), (6, .int v6), (7, .int v7)] dX11_settings_31 (Nat.le_of_ble_eq_true rfl) rfl ?_
        refine g_aload (pc := 33) 1 rfl dX11_settings_33 ?_
        refine g_ifnull (pc := 35) dX11_settings_35 ?_
        refine g_aloadN (pc := 38) 0 rfl dX11_settings_38 ?_
        refine g_ifnonnullN (pc := 40) dX11_settings_40 ?_
        exact am_sub [2] rfl (q_X11_settings_43 hX σ hf hk)
      · subst ep7
        refine g_cV (pc := 28) (As := [.int v1, .int v3]) (st := []) (st1 := [.ref (am_ad X 10 a8)]) (in_11 hX.1 (by omega)) kk_11 mV_X11_waveOf ln_X11_199 rfl (Nat.le_of_ble_eq_true rfl) (Nat.le_of_ble_eq_true rfl) (k_X11_waveOf hX v1 v3 σ hp7) dX11_settings_28 rfl rfl ?_
        refine g_astore (pc := 31) [(9, .ref (am_ad X 10 a8)), (8, .ref (am_ad X 10 a4)), (0, .ref (am_ad X 11 0)), (1, .int v1), (2, .int v2), (3, .int v3), (4, .int v4), (5, .int v5), (6, .int v6), (7, .int v7)] dX11_settings_31 (Nat.le_of_ble_eq_true rfl) rfl ?_
        refine g_aload (pc := 33) 1 rfl dX11_settings_33 ?_
        refine g_ifnull (pc := 35) dX11_settings_35 ?_
        refine g_aload (pc := 38) 0 rfl dX11_settings_38 ?_
        refine g_ifnonnull (pc := 40) 49 dX11_settings_40 rfl ?_
        refine g_aload_n (pc := 49) 2 rfl dX11_settings_49 rfl ?_
        refine g_iload (pc := 50) 6 rfl dX11_settings_50 ?_
        refine g_iload (pc := 52) 7 rfl dX11_settings_52 ?_
        obtain ⟨p9, hp9, hf⟩ := am_bd hf
        refine g_cV (pc := 54) (As := [.int v4, .int v5]) (st := []) (st1 := [.int (am_b p9)]) (in_11 hX.1 (by omega)) kk_11 mV_X11_isOneMissing ln_X11_300 rfl (Nat.le_of_ble_eq_true rfl) (Nat.le_of_ble_eq_true rfl) (k_X11_isOneMissing hX v4 v5 σ hp9) dX11_settings_54 rfl rfl ?_
        refine bt_eq (pc := 57) 66 dX11_settings_57 rfl (fun c10 => ?_) (fun c10 => ?_)
        · replace hf := am_ifT c10 hf
          refine g_aload_n (pc := 60) 2 rfl dX11_settings_60 rfl ?_
          refine g_iconst (pc := 61) (v := 3) dX11_settings_61 (by decide) ?_
          obtain ⟨p11, hp11, hf⟩ := am_bd hf
          refine g_cV (pc := 62) (As := [.int 3]) (st := []) (st1 := [.int (am_b p11.1)]) (in_11 hX.1 (by omega)) kk_11 mV_X11_no ln_X11_104 rfl (Nat.le_of_ble_eq_true rfl) (Nat.le_of_ble_eq_true rfl) (k_X11_no hX 3 σ hp11) dX11_settings_62 rfl rfl ?_
          have ho := Option.some.inj hf
          subst ho
          exact g_zreturn (pc := 65) (st := []) (x := p11.1) rfl dX11_settings_65 hk
        replace hf := am_ifF c10 hf
        refine g_iload (pc := 66) 8 rfl dX11_settings_66 ?_
        refine g_iconst (pc := 68) (v := 1) dX11_settings_68 (by decide) ?_
        refine g_bipush (pc := 69) (v := 24) dX11_settings_69 (by decide) ?_
        obtain ⟨p12, hp12, hf⟩ := am_bd hf
        refine g_cS (pc := 71) (As := [.int v6, .int 1, .int 24]) (st := []) (st1 := [.int (am_b p12)]) mS_X11_isWithin ln_X11_222 rfl (Nat.le_of_ble_eq_true rfl) (Nat.le_of_ble_eq_true rfl) (k_X11_isWithin hX v6 1 24 σ hp12) dX11_settings_71 rfl rfl ?_
        refine bt_eq (pc := 74) 96 dX11_settings_74 rfl (fun c13 => ?_) (fun c13 => ?_)
        · replace hf := am_ifT c13 hf
          refine g_iload (pc := 77) 9 rfl dX11_settings_77 ?_
          refine g_iconst (pc := 79) (v := 0) dX11_settings_79 (by decide) ?_
          refine g_iload_n (pc := 80) 4 rfl dX11_settings_80 rfl ?_
          refine g_iload_n (pc := 81) 5 rfl dX11_settings_81 rfl ?_
          refine bi_ne (pc := 82) 89 dX11_settings_82 rfl (fun c14 => ?_) (fun c14 => ?_)
          · replace hf := am_ifT c14 hf
            refine g_iconst (pc := 85) (v := 2) dX11_settings_85 (by decide) ?_
            refine g_goto (pc := 86) 90 dX11_settings_86 rfl ?_
            exact am_sub [2, 4, 5, 6, 7, 8, 9, 1, 0] rfl (q_X11_settings_90 hX v2 v3 v4 v5 v6 v7 a4 a8 v7 2 (by omega) (by omega) σ hf hk)
          replace hf := am_ifF c14 hf
          refine g_iconst (pc := 89) (v := 4) dX11_settings_89 (by decide) ?_
          exact am_sub [2, 4, 5, 6, 7, 8, 9, 1, 0] rfl (q_X11_settings_90 hX v2 v3 v4 v5 v6 v7 a4 a8 v7 4 (by omega) (by omega) σ hf hk)
        replace hf := am_ifF c13 hf
        exact am_sub [2] rfl (q_X11_settings_96 hX σ hf hk)
  replace hf := am_ifF c2 hf
  refine g_aload_n (pc := 11) 0 rfl dX11_settings_11 rfl ?_
  refine g_iconst (pc := 12) (v := 1) dX11_settings_12 (by decide) ?_
  obtain ⟨p15, hp15, hf⟩ := am_bd hf
  refine g_cV (pc := 13) (As := [.int 1]) (st := []) (st1 := [.int (am_b p15.1)]) (in_11 hX.1 (by omega)) kk_11 mV_X11_no ln_X11_104 rfl (Nat.le_of_ble_eq_true rfl) (Nat.le_of_ble_eq_true rfl) (k_X11_no hX 1 σ hp15) dX11_settings_13 rfl rfl ?_
  have ho := Option.some.inj hf
  subst ho
  exact g_zreturn (pc := 16) (st := []) (x := p15.1) rfl dX11_settings_16 hk
theorem k_X11_settings {X : am_X} (hX : am_wC X) (v1 : Int32) (v2 : Int32) (v3 : Int32) (v4 : Int32) (v5 : Int32) (v6 : Int32) (v7 : Int32) (σ : am_H) {o : Bool × am_H} (hf : f_X11_settings v1 v2 v3 v4 v5 v6 v7 σ = some o) : am_C X gm_X11_settings [.ref (am_ad X 11 0), .int v1, .int v2, .int v3, .int v4, .int v5, .int v6, .int v7] σ (am_is (some (.int (am_b o.1))) o.2) :=
  am_ofG rfl (Nat.le_of_ble_eq_true rfl) rfl (q_X11_settings hX v1 v2 v3 v4 v5 v6 v7 σ hf ⟨rfl, rfl⟩)
theorem dX11_haveMoved_0 : decode cX11_haveMoved 0 = .ok (.aload_n 0, 1) := by decide +kernel
theorem dX11_haveMoved_1 : decode cX11_haveMoved 1 = .ok (.getfield 83, 3) := by decide +kernel
theorem dX11_haveMoved_4 : decode cX11_haveMoved 4 = .ok (.iload_n 1, 1) := by decide +kernel
theorem dX11_haveMoved_5 : decode cX11_haveMoved 5 = .ok (.invokevirtual 500, 3) := by decide +kernel
theorem dX11_haveMoved_8 : decode cX11_haveMoved 8 = .ok (.aload_n 0, 1) := by decide +kernel
theorem dX11_haveMoved_9 : decode cX11_haveMoved 9 = .ok (.getfield 79, 3) := by decide +kernel
theorem dX11_haveMoved_12 : decode cX11_haveMoved 12 = .ok (.iload_n 1, 1) := by decide +kernel
theorem dX11_haveMoved_13 : decode cX11_haveMoved 13 = .ok (.invokevirtual 500, 3) := by decide +kernel
theorem dX11_haveMoved_16 : decode cX11_haveMoved 16 = .ok (.lsub, 1) := by decide +kernel
theorem dX11_haveMoved_17 : decode cX11_haveMoved 17 = .ok (.lstore_n 3, 1) := by decide +kernel
theorem dX11_haveMoved_18 : decode cX11_haveMoved 18 = .ok (.aload_n 0, 1) := by decide +kernel
theorem dX11_haveMoved_19 : decode cX11_haveMoved 19 = .ok (.getfield 83, 3) := by decide +kernel
theorem dX11_haveMoved_22 : decode cX11_haveMoved 22 = .ok (.iload_n 1, 1) := by decide +kernel
theorem dX11_haveMoved_23 : decode cX11_haveMoved 23 = .ok (.iconst 1, 1) := by decide +kernel
theorem dX11_haveMoved_24 : decode cX11_haveMoved 24 = .ok (.iadd, 1) := by decide +kernel
theorem dX11_haveMoved_25 : decode cX11_haveMoved 25 = .ok (.invokevirtual 500, 3) := by decide +kernel
theorem dX11_haveMoved_28 : decode cX11_haveMoved 28 = .ok (.aload_n 0, 1) := by decide +kernel
theorem dX11_haveMoved_29 : decode cX11_haveMoved 29 = .ok (.getfield 79, 3) := by decide +kernel
theorem dX11_haveMoved_32 : decode cX11_haveMoved 32 = .ok (.iload_n 1, 1) := by decide +kernel
theorem dX11_haveMoved_33 : decode cX11_haveMoved 33 = .ok (.iconst 1, 1) := by decide +kernel
theorem dX11_haveMoved_34 : decode cX11_haveMoved 34 = .ok (.iadd, 1) := by decide +kernel
theorem dX11_haveMoved_35 : decode cX11_haveMoved 35 = .ok (.invokevirtual 500, 3) := by decide +kernel
theorem dX11_haveMoved_38 : decode cX11_haveMoved 38 = .ok (.lsub, 1) := by decide +kernel
theorem dX11_haveMoved_39 : decode cX11_haveMoved 39 = .ok (.lstore 5, 2) := by decide +kernel
theorem dX11_haveMoved_41 : decode cX11_haveMoved 41 = .ok (.lload_n 3, 1) := by decide +kernel
theorem dX11_haveMoved_42 : decode cX11_haveMoved 42 = .ok (.invokestatic 503, 3) := by decide +kernel
theorem dX11_haveMoved_45 : decode cX11_haveMoved 45 = .ok (.iload_n 2, 1) := by decide +kernel
theorem dX11_haveMoved_46 : decode cX11_haveMoved 46 = .ok (.i2l, 1) := by decide +kernel
theorem dX11_haveMoved_47 : decode cX11_haveMoved 47 = .ok (.lcmp, 1) := by decide +kernel
theorem dX11_haveMoved_48 : decode cX11_haveMoved 48 = .ok (.ifCond .gt 14, 3) := by decide +kernel
theorem dX11_haveMoved_51 : decode cX11_haveMoved 51 = .ok (.lload 5, 2) := by decide +kernel
theorem dX11_haveMoved_53 : decode cX11_haveMoved 53 = .ok (.invokestatic 503, 3) := by decide +kernel
theorem dX11_haveMoved_56 : decode cX11_haveMoved 56 = .ok (.iload_n 2, 1) := by decide +kernel
theorem dX11_haveMoved_57 : decode cX11_haveMoved 57 = .ok (.i2l, 1) := by decide +kernel
theorem dX11_haveMoved_58 : decode cX11_haveMoved 58 = .ok (.lcmp, 1) := by decide +kernel
theorem dX11_haveMoved_59 : decode cX11_haveMoved 59 = .ok (.ifCond .le 7, 3) := by decide +kernel
theorem dX11_haveMoved_62 : decode cX11_haveMoved 62 = .ok (.iconst 1, 1) := by decide +kernel
theorem dX11_haveMoved_63 : decode cX11_haveMoved 63 = .ok (.goto 4, 3) := by decide +kernel
theorem dX11_haveMoved_66 : decode cX11_haveMoved 66 = .ok (.iconst 0, 1) := by decide +kernel
theorem dX11_haveMoved_67 : decode cX11_haveMoved 67 = .ok (.ireturn, 1) := by decide +kernel
noncomputable def f_X11_haveMoved (v1 : Int32) (v2 : Int32) (σ : am_H) : Option (Bool) :=
  (f_X1_roundedPart 1 v1 σ).bind fun p1 =>
  (f_X1_roundedPart 0 v1 σ).bind fun p2 =>
  (f_X1_roundedPart 1 (v1 + 1) σ).bind fun p3 =>
  (f_X1_roundedPart 0 (v1 + 1) σ).bind fun p4 =>
  if (Int32.toInt64 v2) < (am_abL (p1 - p2)) then
   (some true)
  else
  if (Int32.toInt64 v2) < (am_abL (p3 - p4)) then
   (some true)
  else
  some false
set_option maxRecDepth 100000 in
set_option maxHeartbeats 4000000 in
theorem q_X11_haveMoved {X : am_X} (hX : am_wC X) {Q : Option Value → am_H → Prop} (v1 : Int32) (v2 : Int32) (σ : am_H) {o : Bool} (hf : f_X11_haveMoved v1 v2 σ = some o) (hk : Q (some (.int (am_b o))) σ) : am_G X gm_X11_haveMoved Q 0 [(0, .ref (am_ad X 11 0)), (1, .int v1), (2, .int v2)] [] σ := by
  unfold f_X11_haveMoved at hf
  refine g_aload_n (pc := 0) 0 rfl dX11_haveMoved_0 rfl ?_
  refine g_getC (pc := 1) (e := 1) (in_11 hX.1 (by omega)) fr_X11_83 dX11_haveMoved_1 rfl ?_
  refine g_iload_n (pc := 4) 1 rfl dX11_haveMoved_4 rfl ?_
  obtain ⟨p1, hp1, hf⟩ := am_bd hf
  refine g_cV (pc := 5) (As := [.int v1]) (st := []) (st1 := [.long p1]) (in_1 hX.1 (by omega)) kk_1 mV_X1_roundedPart ln_X11_500 rfl (Nat.le_of_ble_eq_true rfl) (Nat.le_of_ble_eq_true rfl) (k_X1_roundedPart hX 1 v1 (by omega) σ hp1) dX11_haveMoved_5 rfl rfl ?_
  refine g_aload_n (pc := 8) 0 rfl dX11_haveMoved_8 rfl ?_
  refine g_getC (pc := 9) (e := 0) (in_11 hX.1 (by omega)) fr_X11_79 dX11_haveMoved_9 rfl ?_
  refine g_iload_n (pc := 12) 1 rfl dX11_haveMoved_12 rfl ?_
  obtain ⟨p2, hp2, hf⟩ := am_bd hf
  refine g_cV (pc := 13) (As := [.int v1]) (st := [.long p1]) (st1 := [.long p2, .long p1]) (in_1 hX.1 (by omega)) kk_1 mV_X1_roundedPart ln_X11_500 rfl (Nat.le_of_ble_eq_true rfl) (Nat.le_of_ble_eq_true rfl) (k_X1_roundedPart hX 0 v1 (by omega) σ hp2) dX11_haveMoved_13 rfl rfl ?_
  refine g_lsub (pc := 16) dX11_haveMoved_16 ?_
  refine g_lstore_n (pc := 17) [(3, .long (p1 - p2)), (0, .ref (am_ad X 11 0)), (1, .int v1), (2, .int v2)] dX11_haveMoved_17 rfl (Nat.le_of_ble_eq_true rfl) rfl ?_
  refine g_aload_n (pc := 18) 1 rfl dX11_haveMoved_18 rfl ?_
  refine g_getC (pc := 19) (e := 1) (in_11 hX.1 (by omega)) fr_X11_83 dX11_haveMoved_19 rfl ?_
  refine g_iload_n (pc := 22) 2 rfl dX11_haveMoved_22 rfl ?_
  refine g_iconst (pc := 23) (v := 1) dX11_haveMoved_23 (by decide) ?_
  refine g_iadd (pc := 24) dX11_haveMoved_24 ?_
  obtain ⟨p3, hp3, hf⟩ := am_bd hf
  refine g_cV (pc := 25) (As := [.int (v1 + 1)]) (st := []) (st1 := [.long p3]) (in_1 hX.1 (by omega)) kk_1 mV_X1_roundedPart ln_X11_500 rfl (Nat.le_of_ble_eq_true rfl) (Nat.le_of_ble_eq_true rfl) (k_X1_roundedPart hX 1 (v1 + 1) (by omega) σ hp3) dX11_haveMoved_25 rfl rfl ?_
  refine g_aload_n (pc := 28) 1 rfl dX11_haveMoved_28 rfl ?_
  refine g_getC (pc := 29) (e := 0) (in_11 hX.1 (by omega)) fr_X11_79 dX11_haveMoved_29 rfl ?_
  refine g_iload_n (pc := 32) 2 rfl dX11_haveMoved_32 rfl ?_
  refine g_iconst (pc := 33) (v := 1) dX11_haveMoved_33 (by decide) ?_
  refine g_iadd (pc := 34) dX11_haveMoved_34 ?_
  obtain ⟨p4, hp4, hf⟩ := am_bd hf
  refine g_cV (pc := 35) (As := [.int (v1 + 1)]) (st := [.long p3]) (st1 := [.long p4, .long p3]) (in_1 hX.1 (by omega)) kk_1 mV_X1_roundedPart ln_X11_500 rfl (Nat.le_of_ble_eq_true rfl) (Nat.le_of_ble_eq_true rfl) (k_X1_roundedPart hX 0 (v1 + 1) (by omega) σ hp4) dX11_haveMoved_35 rfl rfl ?_
  refine g_lsub (pc := 38) dX11_haveMoved_38 ?_
  refine g_lstore (pc := 39) [(5, .long (p3 - p4)), (3, .long (p1 - p2)), (0, .ref (am_ad X 11 0)), (1, .int v1), (2, .int v2)] dX11_haveMoved_39 (Nat.le_of_ble_eq_true rfl) rfl ?_
  refine g_lload_n (pc := 41) 1 rfl dX11_haveMoved_41 rfl ?_
  refine g_mabsL (pc := 42) (Nat.le_of_ble_eq_true rfl) (Nat.le_of_ble_eq_true rfl) sp_X11_503 dX11_haveMoved_42 ?_
  refine g_iload_n (pc := 45) 4 rfl dX11_haveMoved_45 rfl ?_
  refine g_i2l (pc := 46) dX11_haveMoved_46 ?_
  refine g_lcm (pc := 47) dX11_haveMoved_47 ?_
  refine bl_gt (pc := 48) 62 dX11_haveMoved_48 rfl (fun c5 => ?_) (fun c5 => ?_)
  · replace hf := am_ifT c5 hf
    refine g_iconst (pc := 62) (v := 1) dX11_haveMoved_62 (by decide) ?_
    refine g_goto (pc := 63) 67 dX11_haveMoved_63 rfl ?_
    have ho := Option.some.inj hf
    subst ho
    exact g_zreturn (pc := 67) (st := []) (x := true) rfl dX11_haveMoved_67 hk
  replace hf := am_ifF c5 hf
  refine g_lload (pc := 51) 0 rfl dX11_haveMoved_51 ?_
  refine g_mabsL (pc := 53) (Nat.le_of_ble_eq_true rfl) (Nat.le_of_ble_eq_true rfl) sp_X11_503 dX11_haveMoved_53 ?_
  refine g_iload_n (pc := 56) 4 rfl dX11_haveMoved_56 rfl ?_
  refine g_i2l (pc := 57) dX11_haveMoved_57 ?_
  refine g_lcm (pc := 58) dX11_haveMoved_58 ?_
  refine bl_le (pc := 59) 66 dX11_haveMoved_59 rfl (fun c6 => ?_) (fun c6 => ?_)
  · replace hf := am_ifT c6 hf
    refine g_iconst (pc := 62) (v := 1) dX11_haveMoved_62 (by decide) ?_
    refine g_goto (pc := 63) 67 dX11_haveMoved_63 rfl ?_
    have ho := Option.some.inj hf
    subst ho
    exact g_zreturn (pc := 67) (st := []) (x := true) rfl dX11_haveMoved_67 hk
  replace hf := am_ifF c6 hf
  refine g_iconst (pc := 66) (v := 0) dX11_haveMoved_66 (by decide) ?_
  have ho := Option.some.inj hf
  subst ho
  exact g_zreturn (pc := 67) (st := []) (x := false) rfl dX11_haveMoved_67 hk
theorem k_X11_haveMoved {X : am_X} (hX : am_wC X) (v1 : Int32) (v2 : Int32) (σ : am_H) {o : Bool} (hf : f_X11_haveMoved v1 v2 σ = some o) : am_C X gm_X11_haveMoved [.ref (am_ad X 11 0), .int v1, .int v2] σ (am_is (some (.int (am_b o))) σ) :=
  am_ofG rfl (Nat.le_of_ble_eq_true rfl) rfl (q_X11_haveMoved hX v1 v2 σ hf ⟨rfl, rfl⟩)
theorem dX11_changed_0 : decode cX11_changed 0 = .ok (.aload_n 0, 1) := by decide +kernel
theorem dX11_changed_1 : decode cX11_changed 1 = .ok (.iload 4, 2) := by decide +kernel
theorem dX11_changed_3 : decode cX11_changed 3 = .ok (.iload 5, 2) := by decide +kernel
theorem dX11_changed_5 : decode cX11_changed 5 = .ok (.invokevirtual 297, 3) := by decide +kernel
theorem dX11_changed_8 : decode cX11_changed 8 = .ok (.ifCond .eq 14, 3) := by decide +kernel
theorem dX11_changed_11 : decode cX11_changed 11 = .ok (.aload_n 0, 1) := by decide +kernel
theorem dX11_changed_12 : decode cX11_changed 12 = .ok (.iload 6, 2) := by decide +kernel
theorem dX11_changed_14 : decode cX11_changed 14 = .ok (.iload 7, 2) := by decide +kernel
theorem dX11_changed_16 : decode cX11_changed 16 = .ok (.invokevirtual 297, 3) := by decide +kernel
theorem dX11_changed_19 : decode cX11_changed 19 = .ok (.ifCond .ne 9, 3) := by decide +kernel
theorem dX11_changed_22 : decode cX11_changed 22 = .ok (.aload_n 0, 1) := by decide +kernel
theorem dX11_changed_23 : decode cX11_changed 23 = .ok (.iconst 1, 1) := by decide +kernel
theorem dX11_changed_24 : decode cX11_changed 24 = .ok (.invokevirtual 124, 3) := by decide +kernel
theorem dX11_changed_27 : decode cX11_changed 27 = .ok (.ireturn, 1) := by decide +kernel
theorem dX11_changed_28 : decode cX11_changed 28 = .ok (.aload_n 0, 1) := by decide +kernel
theorem dX11_changed_29 : decode cX11_changed 29 = .ok (.iload_n 1, 1) := by decide +kernel
theorem dX11_changed_30 : decode cX11_changed 30 = .ok (.iload_n 2, 1) := by decide +kernel
theorem dX11_changed_31 : decode cX11_changed 31 = .ok (.invokevirtual 199, 3) := by decide +kernel
theorem dX11_changed_34 : decode cX11_changed 34 = .ok (.astore 10, 2) := by decide +kernel
theorem dX11_changed_36 : decode cX11_changed 36 = .ok (.aload_n 0, 1) := by decide +kernel
theorem dX11_changed_37 : decode cX11_changed 37 = .ok (.iload_n 1, 1) := by decide +kernel
theorem dX11_changed_38 : decode cX11_changed 38 = .ok (.iload_n 3, 1) := by decide +kernel
theorem dX11_changed_39 : decode cX11_changed 39 = .ok (.invokevirtual 199, 3) := by decide +kernel
theorem dX11_changed_42 : decode cX11_changed 42 = .ok (.astore 11, 2) := by decide +kernel
theorem dX11_changed_44 : decode cX11_changed 44 = .ok (.aload 10, 2) := by decide +kernel
theorem dX11_changed_46 : decode cX11_changed 46 = .ok (.ifnull 8, 3) := by decide +kernel
theorem dX11_changed_49 : decode cX11_changed 49 = .ok (.aload 11, 2) := by decide +kernel
theorem dX11_changed_51 : decode cX11_changed 51 = .ok (.ifnonnull 9, 3) := by decide +kernel
theorem dX11_changed_54 : decode cX11_changed 54 = .ok (.aload_n 0, 1) := by decide +kernel
theorem dX11_changed_55 : decode cX11_changed 55 = .ok (.iconst 2, 1) := by decide +kernel
theorem dX11_changed_56 : decode cX11_changed 56 = .ok (.invokevirtual 124, 3) := by decide +kernel
theorem dX11_changed_59 : decode cX11_changed 59 = .ok (.ireturn, 1) := by decide +kernel
theorem dX11_changed_60 : decode cX11_changed 60 = .ok (.aload_n 0, 1) := by decide +kernel
theorem dX11_changed_61 : decode cX11_changed 61 = .ok (.iload 4, 2) := by decide +kernel
theorem dX11_changed_63 : decode cX11_changed 63 = .ok (.iload 5, 2) := by decide +kernel
theorem dX11_changed_65 : decode cX11_changed 65 = .ok (.invokevirtual 300, 3) := by decide +kernel
theorem dX11_changed_68 : decode cX11_changed 68 = .ok (.ifCond .ne 14, 3) := by decide +kernel
theorem dX11_changed_71 : decode cX11_changed 71 = .ok (.aload_n 0, 1) := by decide +kernel
theorem dX11_changed_72 : decode cX11_changed 72 = .ok (.iload 6, 2) := by decide +kernel
theorem dX11_changed_74 : decode cX11_changed 74 = .ok (.iload 7, 2) := by decide +kernel
theorem dX11_changed_76 : decode cX11_changed 76 = .ok (.invokevirtual 300, 3) := by decide +kernel
theorem dX11_changed_79 : decode cX11_changed 79 = .ok (.ifCond .eq 9, 3) := by decide +kernel
theorem dX11_changed_82 : decode cX11_changed 82 = .ok (.aload_n 0, 1) := by decide +kernel
theorem dX11_changed_83 : decode cX11_changed 83 = .ok (.iconst 3, 1) := by decide +kernel
theorem dX11_changed_84 : decode cX11_changed 84 = .ok (.invokevirtual 124, 3) := by decide +kernel
theorem dX11_changed_87 : decode cX11_changed 87 = .ok (.ireturn, 1) := by decide +kernel
theorem dX11_changed_88 : decode cX11_changed 88 = .ok (.iload 8, 2) := by decide +kernel
theorem dX11_changed_90 : decode cX11_changed 90 = .ok (.iconst 1, 1) := by decide +kernel
theorem dX11_changed_91 : decode cX11_changed 91 = .ok (.bipush 24, 2) := by decide +kernel
theorem dX11_changed_93 : decode cX11_changed 93 = .ok (.invokestatic 222, 3) := by decide +kernel
theorem dX11_changed_96 : decode cX11_changed 96 = .ok (.ifCond .eq 15, 3) := by decide +kernel
theorem dX11_changed_99 : decode cX11_changed 99 = .ok (.iload 9, 2) := by decide +kernel
theorem dX11_changed_101 : decode cX11_changed 101 = .ok (.iconst 0, 1) := by decide +kernel
theorem dX11_changed_102 : decode cX11_changed 102 = .ok (.sipush 999, 3) := by decide +kernel
theorem dX11_changed_105 : decode cX11_changed 105 = .ok (.invokestatic 222, 3) := by decide +kernel
theorem dX11_changed_108 : decode cX11_changed 108 = .ok (.ifCond .ne 9, 3) := by decide +kernel
theorem dX11_changed_111 : decode cX11_changed 111 = .ok (.aload_n 0, 1) := by decide +kernel
theorem dX11_changed_112 : decode cX11_changed 112 = .ok (.iconst 5, 1) := by decide +kernel
theorem dX11_changed_113 : decode cX11_changed 113 = .ok (.invokevirtual 124, 3) := by decide +kernel
theorem dX11_changed_116 : decode cX11_changed 116 = .ok (.ireturn, 1) := by decide +kernel
theorem dX11_changed_117 : decode cX11_changed 117 = .ok (.aload_n 0, 1) := by decide +kernel
theorem dX11_changed_118 : decode cX11_changed 118 = .ok (.iload 4, 2) := by decide +kernel
theorem dX11_changed_120 : decode cX11_changed 120 = .ok (.iload 5, 2) := by decide +kernel
theorem dX11_changed_122 : decode cX11_changed 122 = .ok (.iload 8, 2) := by decide +kernel
theorem dX11_changed_124 : decode cX11_changed 124 = .ok (.invokevirtual 303, 3) := by decide +kernel
theorem dX11_changed_127 : decode cX11_changed 127 = .ok (.ifCond .eq 16, 3) := by decide +kernel
theorem dX11_changed_130 : decode cX11_changed 130 = .ok (.aload_n 0, 1) := by decide +kernel
theorem dX11_changed_131 : decode cX11_changed 131 = .ok (.iload 6, 2) := by decide +kernel
theorem dX11_changed_133 : decode cX11_changed 133 = .ok (.iload 7, 2) := by decide +kernel
theorem dX11_changed_135 : decode cX11_changed 135 = .ok (.iload 8, 2) := by decide +kernel
theorem dX11_changed_137 : decode cX11_changed 137 = .ok (.invokevirtual 303, 3) := by decide +kernel
theorem dX11_changed_140 : decode cX11_changed 140 = .ok (.ifCond .ne 9, 3) := by decide +kernel
theorem dX11_changed_143 : decode cX11_changed 143 = .ok (.aload_n 0, 1) := by decide +kernel
theorem dX11_changed_144 : decode cX11_changed 144 = .ok (.iconst 4, 1) := by decide +kernel
theorem dX11_changed_145 : decode cX11_changed 145 = .ok (.invokevirtual 124, 3) := by decide +kernel
theorem dX11_changed_148 : decode cX11_changed 148 = .ok (.ireturn, 1) := by decide +kernel
theorem dX11_changed_149 : decode cX11_changed 149 = .ok (.aload_n 0, 1) := by decide +kernel
theorem dX11_changed_150 : decode cX11_changed 150 = .ok (.getfield 79, 3) := by decide +kernel
theorem dX11_changed_153 : decode cX11_changed 153 = .ok (.aload_n 0, 1) := by decide +kernel
theorem dX11_changed_154 : decode cX11_changed 154 = .ok (.getfield 29, 3) := by decide +kernel
theorem dX11_changed_157 : decode cX11_changed 157 = .ok (.iload 4, 2) := by decide +kernel
theorem dX11_changed_159 : decode cX11_changed 159 = .ok (.aaload, 1) := by decide +kernel
theorem dX11_changed_160 : decode cX11_changed 160 = .ok (.aload_n 0, 1) := by decide +kernel
theorem dX11_changed_161 : decode cX11_changed 161 = .ok (.getfield 29, 3) := by decide +kernel
theorem dX11_changed_164 : decode cX11_changed 164 = .ok (.iload 5, 2) := by decide +kernel
theorem dX11_changed_166 : decode cX11_changed 166 = .ok (.aaload, 1) := by decide +kernel
theorem dX11_changed_167 : decode cX11_changed 167 = .ok (.iload 8, 2) := by decide +kernel
theorem dX11_changed_169 : decode cX11_changed 169 = .ok (.invokevirtual 306, 3) := by decide +kernel
theorem dX11_changed_172 : decode cX11_changed 172 = .ok (.istore 12, 2) := by decide +kernel
theorem dX11_changed_174 : decode cX11_changed 174 = .ok (.iload 12, 2) := by decide +kernel
theorem dX11_changed_176 : decode cX11_changed 176 = .ok (.ifCond .eq 29, 3) := by decide +kernel
theorem dX11_changed_179 : decode cX11_changed 179 = .ok (.aload_n 0, 1) := by decide +kernel
theorem dX11_changed_180 : decode cX11_changed 180 = .ok (.getfield 83, 3) := by decide +kernel
theorem dX11_changed_183 : decode cX11_changed 183 = .ok (.aload_n 0, 1) := by decide +kernel
theorem dX11_changed_184 : decode cX11_changed 184 = .ok (.getfield 29, 3) := by decide +kernel
theorem dX11_changed_187 : decode cX11_changed 187 = .ok (.iload 6, 2) := by decide +kernel
theorem dX11_changed_189 : decode cX11_changed 189 = .ok (.aaload, 1) := by decide +kernel
theorem dX11_changed_190 : decode cX11_changed 190 = .ok (.aload_n 0, 1) := by decide +kernel
theorem dX11_changed_191 : decode cX11_changed 191 = .ok (.getfield 29, 3) := by decide +kernel
theorem dX11_changed_194 : decode cX11_changed 194 = .ok (.iload 7, 2) := by decide +kernel
theorem dX11_changed_196 : decode cX11_changed 196 = .ok (.aaload, 1) := by decide +kernel
theorem dX11_changed_197 : decode cX11_changed 197 = .ok (.iload 8, 2) := by decide +kernel
theorem dX11_changed_199 : decode cX11_changed 199 = .ok (.invokevirtual 306, 3) := by decide +kernel
theorem dX11_changed_202 : decode cX11_changed 202 = .ok (.ifCond .ne 9, 3) := by decide +kernel
theorem dX11_changed_205 : decode cX11_changed 205 = .ok (.aload_n 0, 1) := by decide +kernel
theorem dX11_changed_206 : decode cX11_changed 206 = .ok (.iconst 5, 1) := by decide +kernel
theorem dX11_changed_207 : decode cX11_changed 207 = .ok (.invokevirtual 124, 3) := by decide +kernel
theorem dX11_changed_210 : decode cX11_changed 210 = .ok (.ireturn, 1) := by decide +kernel
theorem dX11_changed_211 : decode cX11_changed 211 = .ok (.aload_n 0, 1) := by decide +kernel
theorem dX11_changed_212 : decode cX11_changed 212 = .ok (.getfield 79, 3) := by decide +kernel
theorem dX11_changed_215 : decode cX11_changed 215 = .ok (.aload 10, 2) := by decide +kernel
theorem dX11_changed_217 : decode cX11_changed 217 = .ok (.aload 11, 2) := by decide +kernel
theorem dX11_changed_219 : decode cX11_changed 219 = .ok (.iload_n 2, 1) := by decide +kernel
theorem dX11_changed_220 : decode cX11_changed 220 = .ok (.iload_n 3, 1) := by decide +kernel
theorem dX11_changed_221 : decode cX11_changed 221 = .ok (.if_icmp .ne 7, 3) := by decide +kernel
theorem dX11_changed_224 : decode cX11_changed 224 = .ok (.iconst 1, 1) := by decide +kernel
theorem dX11_changed_225 : decode cX11_changed 225 = .ok (.goto 4, 3) := by decide +kernel
theorem dX11_changed_228 : decode cX11_changed 228 = .ok (.iconst 0, 1) := by decide +kernel
theorem dX11_changed_229 : decode cX11_changed 229 = .ok (.invokevirtual 310, 3) := by decide +kernel
theorem dX11_changed_232 : decode cX11_changed 232 = .ok (.ifCond .eq 27, 3) := by decide +kernel
theorem dX11_changed_235 : decode cX11_changed 235 = .ok (.aload_n 0, 1) := by decide +kernel
theorem dX11_changed_236 : decode cX11_changed 236 = .ok (.getfield 83, 3) := by decide +kernel
theorem dX11_changed_239 : decode cX11_changed 239 = .ok (.aload 10, 2) := by decide +kernel
theorem dX11_changed_241 : decode cX11_changed 241 = .ok (.aload 11, 2) := by decide +kernel
theorem dX11_changed_243 : decode cX11_changed 243 = .ok (.iload_n 2, 1) := by decide +kernel
theorem dX11_changed_244 : decode cX11_changed 244 = .ok (.iload_n 3, 1) := by decide +kernel
theorem dX11_changed_245 : decode cX11_changed 245 = .ok (.if_icmp .ne 7, 3) := by decide +kernel
theorem dX11_changed_248 : decode cX11_changed 248 = .ok (.iconst 1, 1) := by decide +kernel
theorem dX11_changed_249 : decode cX11_changed 249 = .ok (.goto 4, 3) := by decide +kernel
theorem dX11_changed_252 : decode cX11_changed 252 = .ok (.iconst 0, 1) := by decide +kernel
theorem dX11_changed_253 : decode cX11_changed 253 = .ok (.invokevirtual 310, 3) := by decide +kernel
theorem dX11_changed_256 : decode cX11_changed 256 = .ok (.ifCond .ne 10, 3) := by decide +kernel
theorem dX11_changed_259 : decode cX11_changed 259 = .ok (.aload_n 0, 1) := by decide +kernel
theorem dX11_changed_260 : decode cX11_changed 260 = .ok (.bipush 9, 2) := by decide +kernel
theorem dX11_changed_262 : decode cX11_changed 262 = .ok (.invokevirtual 124, 3) := by decide +kernel
theorem dX11_changed_265 : decode cX11_changed 265 = .ok (.ireturn, 1) := by decide +kernel
theorem dX11_changed_266 : decode cX11_changed 266 = .ok (.aload_n 0, 1) := by decide +kernel
theorem dX11_changed_267 : decode cX11_changed 267 = .ok (.iconst 1, 1) := by decide +kernel
theorem dX11_changed_268 : decode cX11_changed 268 = .ok (.iload 9, 2) := by decide +kernel
theorem dX11_changed_270 : decode cX11_changed 270 = .ok (.invokevirtual 320, 3) := by decide +kernel
theorem dX11_changed_273 : decode cX11_changed 273 = .ok (.ifCond .eq 9, 3) := by decide +kernel
theorem dX11_changed_276 : decode cX11_changed 276 = .ok (.iconst 1, 1) := by decide +kernel
theorem dX11_changed_277 : decode cX11_changed 277 = .ok (.iload_n 2, 1) := by decide +kernel
theorem dX11_changed_278 : decode cX11_changed 278 = .ok (.ishl, 1) := by decide +kernel
theorem dX11_changed_279 : decode cX11_changed 279 = .ok (.goto 4, 3) := by decide +kernel
theorem dX11_changed_282 : decode cX11_changed 282 = .ok (.iconst 0, 1) := by decide +kernel
theorem dX11_changed_283 : decode cX11_changed 283 = .ok (.istore 13, 2) := by decide +kernel
theorem dX11_changed_285 : decode cX11_changed 285 = .ok (.iload_n 2, 1) := by decide +kernel
theorem dX11_changed_286 : decode cX11_changed 286 = .ok (.iload_n 3, 1) := by decide +kernel
theorem dX11_changed_287 : decode cX11_changed 287 = .ok (.if_icmp .eq 21, 3) := by decide +kernel
theorem dX11_changed_290 : decode cX11_changed 290 = .ok (.aload_n 0, 1) := by decide +kernel
theorem dX11_changed_291 : decode cX11_changed 291 = .ok (.iconst 3, 1) := by decide +kernel
theorem dX11_changed_292 : decode cX11_changed 292 = .ok (.iload 9, 2) := by decide +kernel
theorem dX11_changed_294 : decode cX11_changed 294 = .ok (.invokevirtual 320, 3) := by decide +kernel
theorem dX11_changed_297 : decode cX11_changed 297 = .ok (.ifCond .eq 11, 3) := by decide +kernel
theorem dX11_changed_300 : decode cX11_changed 300 = .ok (.iload 13, 2) := by decide +kernel
theorem dX11_changed_302 : decode cX11_changed 302 = .ok (.iconst 1, 1) := by decide +kernel
theorem dX11_changed_303 : decode cX11_changed 303 = .ok (.iload_n 3, 1) := by decide +kernel
theorem dX11_changed_304 : decode cX11_changed 304 = .ok (.ishl, 1) := by decide +kernel
theorem dX11_changed_305 : decode cX11_changed 305 = .ok (.ior, 1) := by decide +kernel
theorem dX11_changed_306 : decode cX11_changed 306 = .ok (.istore 13, 2) := by decide +kernel
theorem dX11_changed_308 : decode cX11_changed 308 = .ok (.aload_n 0, 1) := by decide +kernel
theorem dX11_changed_309 : decode cX11_changed 309 = .ok (.iload 13, 2) := by decide +kernel
theorem dX11_changed_311 : decode cX11_changed 311 = .ok (.invokevirtual 176, 3) := by decide +kernel
theorem dX11_changed_314 : decode cX11_changed 314 = .ok (.ireturn, 1) := by decide +kernel
noncomputable def f_X11_changed_54 (σ : am_H) : Option (Int32 × am_H) :=
  (f_X11_none 2 σ).bind fun p1 =>
  some (p1.1, p1.2)
set_option maxRecDepth 100000 in
set_option maxHeartbeats 4000000 in
theorem q_X11_changed_54 {X : am_X} (hX : am_wC X) {Q : Option Value → am_H → Prop} (σ : am_H) {o : Int32 × am_H} (hf : f_X11_changed_54 σ = some o) (hk : Q (some (.int o.1)) o.2) : am_G X gm_X11_changed Q 54 [(0, .ref (am_ad X 11 0))] [] σ := by
  unfold f_X11_changed_54 at hf
  refine g_aload_n (pc := 54) 0 rfl dX11_changed_54 rfl ?_
  refine g_iconst (pc := 55) (v := 2) dX11_changed_55 (by decide) ?_
  obtain ⟨p1, hp1, hf⟩ := am_bd hf
  refine g_cV (pc := 56) (As := [.int 2]) (st := []) (st1 := [.int p1.1]) (in_11 hX.1 (by omega)) kk_11 mV_X11_none ln_X11_124 rfl (Nat.le_of_ble_eq_true rfl) (Nat.le_of_ble_eq_true rfl) (k_X11_none hX 2 σ hp1) dX11_changed_56 rfl rfl ?_
  have ho := Option.some.inj hf
  subst ho
  exact g_ireturn (pc := 59) (st := []) rfl dX11_changed_59 hk
noncomputable def f_X11_changed_82 (σ : am_H) : Option (Int32 × am_H) :=
  (f_X11_none 3 σ).bind fun p1 =>
  some (p1.1, p1.2)
set_option maxRecDepth 100000 in
set_option maxHeartbeats 4000000 in
theorem q_X11_changed_82 {X : am_X} (hX : am_wC X) {Q : Option Value → am_H → Prop} (σ : am_H) {o : Int32 × am_H} (hf : f_X11_changed_82 σ = some o) (hk : Q (some (.int o.1)) o.2) : am_G X gm_X11_changed Q 82 [(0, .ref (am_ad X 11 0))] [] σ := by
  unfold f_X11_changed_82 at hf
  refine g_aload_n (pc := 82) 0 rfl dX11_changed_82 rfl ?_
  refine g_iconst (pc := 83) (v := 3) dX11_changed_83 (by decide) ?_
  obtain ⟨p1, hp1, hf⟩ := am_bd hf
  refine g_cV (pc := 84) (As := [.int 3]) (st := []) (st1 := [.int p1.1]) (in_11 hX.1 (by omega)) kk_11 mV_X11_none ln_X11_124 rfl (Nat.le_of_ble_eq_true rfl) (Nat.le_of_ble_eq_true rfl) (k_X11_none hX 3 σ hp1) dX11_changed_84 rfl rfl ?_
  have ho := Option.some.inj hf
  subst ho
  exact g_ireturn (pc := 87) (st := []) rfl dX11_changed_87 hk
noncomputable def f_X11_changed_308 (v13 : Int32) (σ : am_H) : Option (Int32 × am_H) :=
  (f_X11_answer v13 σ).bind fun p1 =>
  some (p1.1, p1.2)
set_option maxRecDepth 100000 in
set_option maxHeartbeats 4000000 in
theorem q_X11_changed_308 {X : am_X} (hX : am_wC X) {Q : Option Value → am_H → Prop} (v13 : Int32) (σ : am_H) {o : Int32 × am_H} (hf : f_X11_changed_308 v13 σ = some o) (hk : Q (some (.int o.1)) o.2) : am_G X gm_X11_changed Q 308 [(0, .ref (am_ad X 11 0)), (13, .int v13)] [] σ := by
  unfold f_X11_changed_308 at hf
  refine g_aload_n (pc := 308) 0 rfl dX11_changed_308 rfl ?_
  refine g_iload (pc := 309) 1 rfl dX11_changed_309 ?_
  obtain ⟨p1, hp1, hf⟩ := am_bd hf
  refine g_cV (pc := 311) (As := [.int v13]) (st := []) (st1 := [.int p1.1]) (in_11 hX.1 (by omega)) kk_11 mV_X11_answer ln_X11_176 rfl (Nat.le_of_ble_eq_true rfl) (Nat.le_of_ble_eq_true rfl) (k_X11_answer hX v13 σ hp1) dX11_changed_311 rfl rfl ?_
  have ho := Option.some.inj hf
  subst ho
  exact g_ireturn (pc := 314) (st := []) rfl dX11_changed_314 hk
noncomputable def f_X11_changed_283 (v2 : Int32) (v3 : Int32) (v9 : Int32) (k0 : Int32) (σ : am_H) : Option (Int32 × am_H) :=
  if v2 = v3 then
   (f_X11_changed_308 k0 σ)
  else
  (f_X11_haveMoved 3 v9 σ).bind fun p2 =>
  if p2 = true then
   (f_X11_changed_308 (k0 ||| (1 <<< (v3 &&& 31))) σ)
  else
  f_X11_changed_308 k0 σ
set_option maxRecDepth 100000 in
set_option maxHeartbeats 4000000 in
theorem q_X11_changed_283 {X : am_X} (hX : am_wC X) {Q : Option Value → am_H → Prop} (v2 : Int32) (v3 : Int32) (v9 : Int32) (k0 : Int32) (σ : am_H) {o : Int32 × am_H} (hf : f_X11_changed_283 v2 v3 v9 k0 σ = some o) (hk : Q (some (.int o.1)) o.2) : am_G X gm_X11_changed Q 283 [(0, .ref (am_ad X 11 0)), (2, .int v2), (3, .int v3), (9, .int v9)] [.int k0] σ := by
  unfold f_X11_changed_283 at hf
  refine g_istore (pc := 283) [(13, .int k0), (0, .ref (am_ad X 11 0)), (2, .int v2), (3, .int v3), (9, .int v9)] dX11_changed_283 (Nat.le_of_ble_eq_true rfl) rfl ?_
  refine g_iload_n (pc := 285) 2 rfl dX11_changed_285 rfl ?_
  refine g_iload_n (pc := 286) 3 rfl dX11_changed_286 rfl ?_
  refine bi_eq (pc := 287) 308 dX11_changed_287 rfl (fun c1 => ?_) (fun c1 => ?_)
  · replace hf := am_ifT c1 hf
    exact am_sub [1, 0] rfl (q_X11_changed_308 hX k0 σ hf hk)
  replace hf := am_ifF c1 hf
  refine g_aload_n (pc := 290) 1 rfl dX11_changed_290 rfl ?_
  refine g_iconst (pc := 291) (v := 3) dX11_changed_291 (by decide) ?_
  refine g_iload (pc := 292) 4 rfl dX11_changed_292 ?_
  obtain ⟨p2, hp2, hf⟩ := am_bd hf
  refine g_cV (pc := 294) (As := [.int 3, .int v9]) (st := []) (st1 := [.int (am_b p2)]) (in_11 hX.1 (by omega)) kk_11 mV_X11_haveMoved ln_X11_320 rfl (Nat.le_of_ble_eq_true rfl) (Nat.le_of_ble_eq_true rfl) (k_X11_haveMoved hX 3 v9 σ hp2) dX11_changed_294 rfl rfl ?_
  refine bt_eq (pc := 297) 308 dX11_changed_297 rfl (fun c3 => ?_) (fun c3 => ?_)
  · replace hf := am_ifT c3 hf
    refine g_iload (pc := 300) 0 rfl dX11_changed_300 ?_
    refine g_iconst (pc := 302) (v := 1) dX11_changed_302 (by decide) ?_
    refine g_iload_n (pc := 303) 3 rfl dX11_changed_303 rfl ?_
    refine g_ishl (pc := 304) dX11_changed_304 ?_
    refine g_ior (pc := 305) dX11_changed_305 ?_
    refine g_istore (pc := 306) [(13, .int (k0 ||| (1 <<< (v3 &&& 31)))), (0, .ref (am_ad X 11 0)), (2, .int v2), (3, .int v3), (9, .int v9)] dX11_changed_306 (Nat.le_of_ble_eq_true rfl) rfl ?_
    exact am_sub [1, 0] rfl (q_X11_changed_308 hX (k0 ||| (1 <<< (v3 &&& 31))) σ hf hk)
  replace hf := am_ifF c3 hf
  exact am_sub [1, 0] rfl (q_X11_changed_308 hX k0 σ hf hk)
noncomputable def f_X11_changed_259 (σ : am_H) : Option (Int32 × am_H) :=
  (f_X11_none 9 σ).bind fun p1 =>
  some (p1.1, p1.2)
set_option maxRecDepth 100000 in
set_option maxHeartbeats 4000000 in
theorem q_X11_changed_259 {X : am_X} (hX : am_wC X) {Q : Option Value → am_H → Prop} (σ : am_H) {o : Int32 × am_H} (hf : f_X11_changed_259 σ = some o) (hk : Q (some (.int o.1)) o.2) : am_G X gm_X11_changed Q 259 [(0, .ref (am_ad X 11 0))] [] σ := by
  unfold f_X11_changed_259 at hf
  refine g_aload_n (pc := 259) 0 rfl dX11_changed_259 rfl ?_
  refine g_bipush (pc := 260) (v := 9) dX11_changed_260 (by decide) ?_
  obtain ⟨p1, hp1, hf⟩ := am_bd hf
  refine g_cV (pc := 262) (As := [.int 9]) (st := []) (st1 := [.int p1.1]) (in_11 hX.1 (by omega)) kk_11 mV_X11_none ln_X11_124 rfl (Nat.le_of_ble_eq_true rfl) (Nat.le_of_ble_eq_true rfl) (k_X11_none hX 9 σ hp1) dX11_changed_262 rfl rfl ?_
  have ho := Option.some.inj hf
  subst ho
  exact g_ireturn (pc := 265) (st := []) rfl dX11_changed_265 hk
noncomputable def f_X11_changed_253 (v2 : Int32) (v3 : Int32) (v9 : Int32) (k0 : Nat) (k1 : Nat) (k2 : Nat) (k3 : Bool) (σ : am_H) : Option (Int32 × am_H) :=
  (f_X1_partsWaves k0 k1 k2 k3 σ).bind fun p1 =>
  if p1.1 = true then
   ((f_X11_haveMoved 1 v9 p1.2).bind fun p3 =>
   if p3 = true then
    (f_X11_changed_283 v2 v3 v9 (1 <<< (v2 &&& 31)) p1.2)
   else
   f_X11_changed_283 v2 v3 v9 0 p1.2)
  else
  f_X11_changed_259 p1.2
set_option maxRecDepth 100000 in
set_option maxHeartbeats 4000000 in
theorem q_X11_changed_253 {X : am_X} (hX : am_wC X) {Q : Option Value → am_H → Prop} (v2 : Int32) (v3 : Int32) (v9 : Int32) (k0 : Nat) (k1 : Nat) (k2 : Nat) (k3 : Bool) (hk0 : k0 < 2) (hk1 : k1 < 18) (hk2 : k2 < 18) (σ : am_H) {o : Int32 × am_H} (hf : f_X11_changed_253 v2 v3 v9 k0 k1 k2 k3 σ = some o) (hk : Q (some (.int o.1)) o.2) : am_G X gm_X11_changed Q 253 [(0, .ref (am_ad X 11 0)), (2, .int v2), (3, .int v3), (9, .int v9)] [.int (am_b k3), .ref (am_ad X 10 k2), .ref (am_ad X 10 k1), .ref (am_ad X 1 k0)] σ := by
  unfold f_X11_changed_253 at hf
  obtain ⟨p1, hp1, hf⟩ := am_bd hf
  refine g_cV (pc := 253) (As := [.ref (am_ad X 10 k1), .ref (am_ad X 10 k2), .int (am_b k3)]) (st := []) (st1 := [.int (am_b p1.1)]) (in_1 hX.1 (by omega)) kk_1 mV_X1_partsWaves ln_X11_310 rfl (Nat.le_of_ble_eq_true rfl) (Nat.le_of_ble_eq_true rfl) (k_X1_partsWaves hX k0 k1 k2 k3 (by omega) (by omega) (by omega) σ hp1) dX11_changed_253 rfl rfl ?_
  refine bt_ne (pc := 256) 266 dX11_changed_256 rfl (fun c2 => ?_) (fun c2 => ?_)
  · replace hf := am_ifT c2 hf
    refine g_aload_n (pc := 266) 0 rfl dX11_changed_266 rfl ?_
    refine g_iconst (pc := 267) (v := 1) dX11_changed_267 (by decide) ?_
    refine g_iload (pc := 268) 3 rfl dX11_changed_268 ?_
    obtain ⟨p3, hp3, hf⟩ := am_bd hf
    refine g_cV (pc := 270) (As := [.int 1, .int v9]) (st := []) (st1 := [.int (am_b p3)]) (in_11 hX.1 (by omega)) kk_11 mV_X11_haveMoved ln_X11_320 rfl (Nat.le_of_ble_eq_true rfl) (Nat.le_of_ble_eq_true rfl) (k_X11_haveMoved hX 1 v9 p1.2 hp3) dX11_changed_270 rfl rfl ?_
    refine bt_eq (pc := 273) 282 dX11_changed_273 rfl (fun c4 => ?_) (fun c4 => ?_)
    · replace hf := am_ifT c4 hf
      refine g_iconst (pc := 276) (v := 1) dX11_changed_276 (by decide) ?_
      refine g_iload_n (pc := 277) 1 rfl dX11_changed_277 rfl ?_
      refine g_ishl (pc := 278) dX11_changed_278 ?_
      refine g_goto (pc := 279) 283 dX11_changed_279 rfl ?_
      exact q_X11_changed_283 hX v2 v3 v9 (1 <<< (v2 &&& 31)) p1.2 hf hk
    replace hf := am_ifF c4 hf
    refine g_iconst (pc := 282) (v := 0) dX11_changed_282 (by decide) ?_
    exact q_X11_changed_283 hX v2 v3 v9 0 p1.2 hf hk
  replace hf := am_ifF c2 hf
  exact am_sub [0] rfl (q_X11_changed_259 hX p1.2 hf hk)
noncomputable def f_X11_changed_229 (v2 : Int32) (v3 : Int32) (v9 : Int32) (r10 : Nat) (r11 : Nat) (k0 : Nat) (k1 : Nat) (k2 : Nat) (k3 : Bool) (σ : am_H) : Option (Int32 × am_H) :=
  (f_X1_partsWaves k0 k1 k2 k3 σ).bind fun p1 =>
  if p1.1 = true then
   (if v2 = v3 then
    (f_X11_changed_253 v2 v3 v9 1 r10 r11 true p1.2)
   else
   f_X11_changed_253 v2 v3 v9 1 r10 r11 false p1.2)
  else
  f_X11_changed_259 p1.2
set_option maxRecDepth 100000 in
set_option maxHeartbeats 4000000 in
theorem q_X11_changed_229 {X : am_X} (hX : am_wC X) {Q : Option Value → am_H → Prop} (v2 : Int32) (v3 : Int32) (v9 : Int32) (r10 : Nat) (r11 : Nat) (k0 : Nat) (k1 : Nat) (k2 : Nat) (k3 : Bool) (hr10 : r10 < 18) (hr11 : r11 < 18) (hk0 : k0 < 2) (hk1 : k1 < 18) (hk2 : k2 < 18) (σ : am_H) {o : Int32 × am_H} (hf : f_X11_changed_229 v2 v3 v9 r10 r11 k0 k1 k2 k3 σ = some o) (hk : Q (some (.int o.1)) o.2) : am_G X gm_X11_changed Q 229 [(0, .ref (am_ad X 11 0)), (2, .int v2), (3, .int v3), (9, .int v9), (10, .ref (am_ad X 10 r10)), (11, .ref (am_ad X 10 r11))] [.int (am_b k3), .ref (am_ad X 10 k2), .ref (am_ad X 10 k1), .ref (am_ad X 1 k0)] σ := by
  unfold f_X11_changed_229 at hf
  obtain ⟨p1, hp1, hf⟩ := am_bd hf
  refine g_cV (pc := 229) (As := [.ref (am_ad X 10 k1), .ref (am_ad X 10 k2), .int (am_b k3)]) (st := []) (st1 := [.int (am_b p1.1)]) (in_1 hX.1 (by omega)) kk_1 mV_X1_partsWaves ln_X11_310 rfl (Nat.le_of_ble_eq_true rfl) (Nat.le_of_ble_eq_true rfl) (k_X1_partsWaves hX k0 k1 k2 k3 (by omega) (by omega) (by omega) σ hp1) dX11_changed_229 rfl rfl ?_
  refine bt_eq (pc := 232) 259 dX11_changed_232 rfl (fun c2 => ?_) (fun c2 => ?_)
  · replace hf := am_ifT c2 hf
    refine g_aload_n (pc := 235) 0 rfl dX11_changed_235 rfl ?_
    refine g_getC (pc := 236) (e := 1) (in_11 hX.1 (by omega)) fr_X11_83 dX11_changed_236 rfl ?_
    refine g_aload (pc := 239) 4 rfl dX11_changed_239 ?_
    refine g_aload (pc := 241) 5 rfl dX11_changed_241 ?_
    refine g_iload_n (pc := 243) 1 rfl dX11_changed_243 rfl ?_
    refine g_iload_n (pc := 244) 2 rfl dX11_changed_244 rfl ?_
    refine bi_ne (pc := 245) 252 dX11_changed_245 rfl (fun c3 => ?_) (fun c3 => ?_)
    · replace hf := am_ifT c3 hf
      refine g_iconst (pc := 248) (v := 1) dX11_changed_248 (by decide) ?_
      refine g_goto (pc := 249) 253 dX11_changed_249 rfl ?_
      exact am_sub [0, 1, 2, 3] rfl (q_X11_changed_253 hX v2 v3 v9 1 r10 r11 true (by omega) (by omega) (by omega) p1.2 hf hk)
    replace hf := am_ifF c3 hf
    refine g_iconst (pc := 252) (v := 0) dX11_changed_252 (by decide) ?_
    exact am_sub [0, 1, 2, 3] rfl (q_X11_changed_253 hX v2 v3 v9 1 r10 r11 false (by omega) (by omega) (by omega) p1.2 hf hk)
  replace hf := am_ifF c2 hf
  exact am_sub [0] rfl (q_X11_changed_259 hX p1.2 hf hk)
noncomputable def f_X11_changed_205 (σ : am_H) : Option (Int32 × am_H) :=
  (f_X11_none 5 σ).bind fun p1 =>
  some (p1.1, p1.2)
set_option maxRecDepth 100000 in
set_option maxHeartbeats 4000000 in
theorem q_X11_changed_205 {X : am_X} (hX : am_wC X) {Q : Option Value → am_H → Prop} (σ : am_H) {o : Int32 × am_H} (hf : f_X11_changed_205 σ = some o) (hk : Q (some (.int o.1)) o.2) : am_G X gm_X11_changed Q 205 [(0, .ref (am_ad X 11 0))] [] σ := by
  unfold f_X11_changed_205 at hf
  refine g_aload_n (pc := 205) 0 rfl dX11_changed_205 rfl ?_
  refine g_iconst (pc := 206) (v := 5) dX11_changed_206 (by decide) ?_
  obtain ⟨p1, hp1, hf⟩ := am_bd hf
  refine g_cV (pc := 207) (As := [.int 5]) (st := []) (st1 := [.int p1.1]) (in_11 hX.1 (by omega)) kk_11 mV_X11_none ln_X11_124 rfl (Nat.le_of_ble_eq_true rfl) (Nat.le_of_ble_eq_true rfl) (k_X11_none hX 5 σ hp1) dX11_changed_207 rfl rfl ?_
  have ho := Option.some.inj hf
  subst ho
  exact g_ireturn (pc := 210) (st := []) rfl dX11_changed_210 hk
noncomputable def f_X11_changed_143 (σ : am_H) : Option (Int32 × am_H) :=
  (f_X11_none 4 σ).bind fun p1 =>
  some (p1.1, p1.2)
set_option maxRecDepth 100000 in
set_option maxHeartbeats 4000000 in
theorem q_X11_changed_143 {X : am_X} (hX : am_wC X) {Q : Option Value → am_H → Prop} (σ : am_H) {o : Int32 × am_H} (hf : f_X11_changed_143 σ = some o) (hk : Q (some (.int o.1)) o.2) : am_G X gm_X11_changed Q 143 [(0, .ref (am_ad X 11 0))] [] σ := by
  unfold f_X11_changed_143 at hf
  refine g_aload_n (pc := 143) 0 rfl dX11_changed_143 rfl ?_
  refine g_iconst (pc := 144) (v := 4) dX11_changed_144 (by decide) ?_
  obtain ⟨p1, hp1, hf⟩ := am_bd hf
  refine g_cV (pc := 145) (As := [.int 4]) (st := []) (st1 := [.int p1.1]) (in_11 hX.1 (by omega)) kk_11 mV_X11_none ln_X11_124 rfl (Nat.le_of_ble_eq_true rfl) (Nat.le_of_ble_eq_true rfl) (k_X11_none hX 4 σ hp1) dX11_changed_145 rfl rfl ?_
  have ho := Option.some.inj hf
  subst ho
  exact g_ireturn (pc := 148) (st := []) rfl dX11_changed_148 hk
noncomputable def f_X11_changed_111 (σ : am_H) : Option (Int32 × am_H) :=
  (f_X11_none 5 σ).bind fun p1 =>
  some (p1.1, p1.2)
set_option maxRecDepth 100000 in
set_option maxHeartbeats 4000000 in
theorem q_X11_changed_111 {X : am_X} (hX : am_wC X) {Q : Option Value → am_H → Prop} (σ : am_H) {o : Int32 × am_H} (hf : f_X11_changed_111 σ = some o) (hk : Q (some (.int o.1)) o.2) : am_G X gm_X11_changed Q 111 [(0, .ref (am_ad X 11 0))] [] σ := by
  unfold f_X11_changed_111 at hf
  refine g_aload_n (pc := 111) 0 rfl dX11_changed_111 rfl ?_
  refine g_iconst (pc := 112) (v := 5) dX11_changed_112 (by decide) ?_
  obtain ⟨p1, hp1, hf⟩ := am_bd hf
  refine g_cV (pc := 113) (As := [.int 5]) (st := []) (st1 := [.int p1.1]) (in_11 hX.1 (by omega)) kk_11 mV_X11_none ln_X11_124 rfl (Nat.le_of_ble_eq_true rfl) (Nat.le_of_ble_eq_true rfl) (k_X11_none hX 5 σ hp1) dX11_changed_113 rfl rfl ?_
  have ho := Option.some.inj hf
  subst ho
  exact g_ireturn (pc := 116) (st := []) rfl dX11_changed_116 hk
noncomputable def f_X11_changed_22 (σ : am_H) : Option (Int32 × am_H) :=
  (f_X11_none 1 σ).bind fun p1 =>
  some (p1.1, p1.2)
set_option maxRecDepth 100000 in
set_option maxHeartbeats 4000000 in
theorem q_X11_changed_22 {X : am_X} (hX : am_wC X) {Q : Option Value → am_H → Prop} (σ : am_H) {o : Int32 × am_H} (hf : f_X11_changed_22 σ = some o) (hk : Q (some (.int o.1)) o.2) : am_G X gm_X11_changed Q 22 [(0, .ref (am_ad X 11 0))] [] σ := by
  unfold f_X11_changed_22 at hf
  refine g_aload_n (pc := 22) 0 rfl dX11_changed_22 rfl ?_
  refine g_iconst (pc := 23) (v := 1) dX11_changed_23 (by decide) ?_
  obtain ⟨p1, hp1, hf⟩ := am_bd hf
  refine g_cV (pc := 24) (As := [.int 1]) (st := []) (st1 := [.int p1.1]) (in_11 hX.1 (by omega)) kk_11 mV_X11_none ln_X11_124 rfl (Nat.le_of_ble_eq_true rfl) (Nat.le_of_ble_eq_true rfl) (k_X11_none hX 1 σ hp1) dX11_changed_24 rfl rfl ?_
  have ho := Option.some.inj hf
  subst ho
  exact g_ireturn (pc := 27) (st := []) rfl dX11_changed_27 hk
noncomputable def f_X11_changed (v1 : Int32) (v2 : Int32) (v3 : Int32) (v4 : Int32) (v5 : Int32) (v6 : Int32) (v7 : Int32) (v8 : Int32) (v9 : Int32) (σ : am_H) : Option (Int32 × am_H) :=
  (f_X11_areTrays v4 v5 σ).bind fun p1 =>
  if p1 = true then
   ((f_X11_areTrays v6 v7 σ).bind fun p3 =>
   if p3 = true then
    ((f_X11_waveOf v1 v2 σ).bind fun p5 =>
    am_nn 18 p5
     ((f_X11_waveOf v1 v3 σ).bind fun p7 =>
     am_nn 18 p7
      (f_X11_changed_54 σ)
      (fun a8 =>
      f_X11_changed_54 σ))
     (fun a6 =>
     (f_X11_waveOf v1 v3 σ).bind fun p9 =>
     am_nn 18 p9
      (f_X11_changed_54 σ)
      (fun a10 =>
      (f_X11_isOneMissing v4 v5 σ).bind fun p11 =>
      if p11 = true then
       (f_X11_changed_82 σ)
      else
      (f_X11_isOneMissing v6 v7 σ).bind fun p13 =>
      if p13 = true then
       (f_X11_changed_82 σ)
      else
      (f_X11_isWithin v8 1 24 σ).bind fun p15 =>
      if p15 = true then
       ((f_X11_isWithin v9 0 999 σ).bind fun p17 =>
       if p17 = true then
        ((f_X11_haveBoth v4 v5 v8 σ).bind fun p19 =>
        if p19 = true then
         ((f_X11_haveBoth v6 v7 v8 σ).bind fun p21 =>
         if p21 = true then
          ((am_ix 5 v4).bind fun j23 =>
          (am_ix 5 v5).bind fun j24 =>
          (f_X1_takeFrom 0 j23 j24 v8 σ).bind fun p25 =>
          if p25.1 = true then
           ((am_ix 5 v6).bind fun j27 =>
           (am_ix 5 v7).bind fun j28 =>
           (f_X1_takeFrom 1 j27 j28 v8 p25.2).bind fun p29 =>
           if p29.1 = true then
            (if v2 = v3 then
             (f_X11_changed_229 v2 v3 v9 a6 a10 0 a6 a10 true p29.2)
            else
            f_X11_changed_229 v2 v3 v9 a6 a10 0 a6 a10 false p29.2)
           else
           f_X11_changed_205 p29.2)
          else
          f_X11_changed_205 p25.2)
         else
         f_X11_changed_143 σ)
        else
        f_X11_changed_143 σ)
       else
       f_X11_changed_111 σ)
      else
      f_X11_changed_111 σ)))
   else
   f_X11_changed_22 σ)
  else
  f_X11_changed_22 σ
set_option maxRecDepth 100000 in
set_option maxHeartbeats 4000000 in
theorem q_X11_changed {X : am_X} (hX : am_wC X) {Q : Option Value → am_H → Prop} (v1 : Int32) (v2 : Int32) (v3 : Int32) (v4 : Int32) (v5 : Int32) (v6 : Int32) (v7 : Int32) (v8 : Int32) (v9 : Int32) (σ : am_H) {o : Int32 × am_H} (hf : f_X11_changed v1 v2 v3 v4 v5 v6 v7 v8 v9 σ = some o) (hk : Q (some (.int o.1)) o.2) : am_G X gm_X11_changed Q 0 [(0, .ref (am_ad X 11 0)), (1, .int v1), (2, .int v2), (3, .int v3), (4, .int v4), (5, .int v5), (6, .int v6), (7, .int v7), (8, .int v8), (9, .int v9)] [] σ := by
  unfold f_X11_changed at hf
  refine g_aload_n (pc := 0) 0 rfl dX11_changed_0 rfl ?_
  refine g_iload (pc := 1) 4 rfl dX11_changed_1 ?_
  refine g_iload (pc := 3) 5 rfl dX11_changed_3 ?_
  obtain ⟨p1, hp1, hf⟩ := am_bd hf
  refine g_cV (pc := 5) (As := [.int v4, .int v5]) (st := []) (st1 := [.int (am_b p1)]) (in_11 hX.1 (by omega)) kk_11 mV_X11_areTrays ln_X11_297 rfl (Nat.le_of_ble_eq_true rfl) (Nat.le_of_ble_eq_true rfl) (k_X11_areTrays hX v4 v5 σ hp1) dX11_changed_5 rfl rfl ?_
  refine bt_eq (pc := 8) 22 dX11_changed_8 rfl (fun c2 => ?_) (fun c2 => ?_)
  · replace hf := am_ifT c2 hf
    refine g_aload_n (pc := 11) 0 rfl dX11_changed_11 rfl ?_
    refine g_iload (pc := 12) 6 rfl dX11_changed_12 ?_
    refine g_iload (pc := 14) 7 rfl dX11_changed_14 ?_
    obtain ⟨p3, hp3, hf⟩ := am_bd hf
    refine g_cV (pc := 16) (As := [.int v6, .int v7]) (st := []) (st1 := [.int (am_b p3)]) (in_11 hX.1 (by omega)) kk_11 mV_X11_areTrays ln_X11_297 rfl (Nat.le_of_ble_eq_true rfl) (Nat.le_of_ble_eq_true rfl) (k_X11_areTrays hX v6 v7 σ hp3) dX11_changed_16 rfl rfl ?_
    refine bt_ne (pc := 19) 28 dX11_changed_19 rfl (fun c4 => ?_) (fun c4 => ?_)
    · replace hf := am_ifT c4 hf
      refine g_aload_n (pc := 28) 0 rfl dX11_changed_28 rfl ?_
      refine g_iload_n (pc := 29) 1 rfl dX11_changed_29 rfl ?_
      refine g_iload_n (pc := 30) 2 rfl dX11_changed_30 rfl ?_
      obtain ⟨p5, hp5, hf⟩ := am_bd hf
      have hq := am_nn_c hf
      clear hf
      rcases hq with ⟨ep5, hf⟩ | ⟨a6, ep5, ga6, hf⟩
      · subst ep5
        refine g_cV (pc := 31) (As := [.int v1, .int v2]) (st := []) (st1 := [.null]) (in_11 hX.1 (by omega)) kk_11 mV_X11_waveOf ln_X11_199 rfl (Nat.le_of_ble_eq_true rfl) (Nat.le_of_ble_eq_true rfl) (k_X11_waveOf hX v1 v2 σ hp5) dX11_changed_31 rfl rfl ?_
        refine g_astoreN (pc := 34) [(10, .null), (0, .ref (am_ad X 11 0)), (1, .int v1), (2, .int v2), (3, .int v3), (4, .int v4), (5, .int v5), (6, .int v6), (7, .int v7), (8, .int v8), (9, .int v9)] dX11_changed_34 (Nat.le_of_ble_eq_true rfl) rfl ?_
        refine g_aload_n (pc := 36) 1 rfl dX11_changed_36 rfl ?_
        refine g_iload_n (pc := 37) 2 rfl dX11_changed_37 rfl ?_
        refine g_iload_n (pc := 38) 4 rfl dX11_changed_38 rfl ?_
        obtain ⟨p7, hp7, hf⟩ := am_bd hf
        have hq := am_nn_c hf
        clear hf
        rcases hq with ⟨ep7, hf⟩ | ⟨a8, ep7, ga8, hf⟩
        · subst ep7
          refine g_cV (pc := 39) (As := [.int v1, .int v3]) (st := []) (st1 := [.null]) (in_11 hX.1 (by omega)) kk_11 mV_X11_waveOf ln_X11_199 rfl (Nat.le_of_ble_eq_true rfl) (Nat.le_of_ble_eq_true rfl) (k_X11_waveOf hX v1 v3 σ hp7) dX11_changed_39 rfl rfl ?_
          refine g_astoreN (pc := 42) [(11, .null), (10, .null), (0, .ref (am_ad X 11 0)), (1, .int v1), (2, .int v2), (3, .int v3), (4, .int v4), (5, .int v5), (6, .int v6), (7, .int v7), (8, .int v8), (9, .int v9)] dX11_changed_42 (Nat.le_of_ble_eq_true rfl) rfl ?_
          refine g_aloadN (pc := 44) 1 rfl dX11_changed_44 ?_
          refine g_ifnullN (pc := 46) 54 dX11_changed_46 rfl ?_
          exact am_sub [2] rfl (q_X11_changed_54 hX σ hf hk)
        · subst ep7
          refine g_cV (pc := 39) (As := [.int v1, .int v3]) (st := []) (st1 := [.ref (am_ad X 10 a8)]) (in_11 hX.1 (by omega)) kk_11 mV_X11_waveOf ln_X11_199 rfl (Nat.le_of_ble_eq_true rfl) (Nat.le_of_ble_eq_true rfl) (k_X11_waveOf hX v1 v3 σ hp7) dX11_changed_39 rfl rfl ?_
          refine g_astore (pc := 42) [(11, .ref (am_ad X 10 a8)), (10, .null), (0, .ref (am_ad X 11 0)), (1, .int v1), (2, .int v2), (3, .int v3), (4, .int v4), (5, .int v5), (6, .int v6), (7, .int v7), (8, .int v8), (9, .int v9)] dX11_changed_42 (Nat.le_of_ble_eq_true rfl) rfl ?_
          refine g_aloadN (pc := 44) 1 rfl dX11_changed_44 ?_
          refine g_ifnullN (pc := 46) 54 dX11_changed_46 rfl ?_
          exact am_sub [2] rfl (q_X11_changed_54 hX σ hf hk)
      · subst ep5
        refine g_cV (pc := 31) (As := [.int v1, .int v2]) (st := []) (st1 := [.ref (am_ad X 10 a6)]) (in_11 hX.1 (by omega)) kk_11 mV_X11_waveOf ln_X11_199 rfl (Nat.le_of_ble_eq_true rfl) (Nat.le_of_ble_eq_true rfl) (k_X11_waveOf hX v1 v2 σ hp5) dX11_changed_31 rfl rfl ?_
        refine g_astore (pc := 34) [(10, .ref (am_ad X 10 a6)), (0, .ref (am_ad X 11 0)), (1, .int v1), (2, .int v2), (3, .int v3), (4, .int v4), (5, .int v5), (6, .int v6), (7, .int v7), (8, .int v8), (9, .int v9)] dX11_changed_34 (Nat.le_of_ble_eq_true rfl) rfl ?_
        refine g_aload_n (pc := 36) 1 rfl dX11_changed_36 rfl ?_
        refine g_iload_n (pc := 37) 2 rfl dX11_changed_37 rfl ?_
        refine g_iload_n (pc := 38) 4 rfl dX11_changed_38 rfl ?_
        obtain ⟨p9, hp9, hf⟩ := am_bd hf
        have hq := am_nn_c hf
        clear hf
        rcases hq with ⟨ep9, hf⟩ | ⟨a10, ep9, ga10, hf⟩
        · subst ep9
          refine g_cV (pc := 39) (As := [.int v1, .int v3]) (st := []) (st1 := [.null]) (in_11 hX.1 (by omega)) kk_11 mV_X11_waveOf ln_X11_199 rfl (Nat.le_of_ble_eq_true rfl) (Nat.le_of_ble_eq_true rfl) (k_X11_waveOf hX v1 v3 σ hp9) dX11_changed_39 rfl rfl ?_
          refine g_astoreN (pc := 42) [(11, .null), (10, .ref (am_ad X 10 a6)), (0, .ref (am_ad X 11 0)), (1, .int v1), (2, .int v2), (3, .int v3), (4, .int v4), (5, .int v5), (6, .int v6), (7, .int v7), (8, .int v8), (9, .int v9)] dX11_changed_42 (Nat.le_of_ble_eq_true rfl) rfl ?_
          refine g_aload (pc := 44) 1 rfl dX11_changed_44 ?_
          refine g_ifnull (pc := 46) dX11_changed_46 ?_
          refine g_aloadN (pc := 49) 0 rfl dX11_changed_49 ?_
          refine g_ifnonnullN (pc := 51) dX11_changed_51 ?_
          exact am_sub [2] rfl (q_X11_changed_54 hX σ hf hk)
        · subst ep9
          refine g_cV (pc := 39) (As := [.int v1, .int v3]) (st := []) (st1 := [.ref (am_ad X 10 a10)]) (in_11 hX.1 (by omega)) kk_11 mV_X11_waveOf ln_X11_199 rfl (Nat.le_of_ble_eq_true rfl) (Nat.le_of_ble_eq_true rfl) (k_X11_waveOf hX v1 v3 σ hp9) dX11_changed_39 rfl rfl ?_
          refine g_astore (pc := 42) [(11, .ref (am_ad X 10 a10)), (10, .ref (am_ad X 10 a6)), (0, .ref (am_ad X 11 0)), (1, .int v1), (2, .int v2), (3, .int v3), (4, .int v4), (5, .int v5), (6, .int v6), (7, .int v7), (8, .int v8), (9, .int v9)] dX11_changed_42 (Nat.le_of_ble_eq_true rfl) rfl ?_
          refine g_aload (pc := 44) 1 rfl dX11_changed_44 ?_
          refine g_ifnull (pc := 46) dX11_changed_46 ?_
          refine g_aload (pc := 49) 0 rfl dX11_changed_49 ?_
          refine g_ifnonnull (pc := 51) 60 dX11_changed_51 rfl ?_
          refine g_aload_n (pc := 60) 2 rfl dX11_changed_60 rfl ?_
          refine g_iload (pc := 61) 6 rfl dX11_changed_61 ?_
          refine g_iload (pc := 63) 7 rfl dX11_changed_63 ?_
          obtain ⟨p11, hp11, hf⟩ := am_bd hf
          refine g_cV (pc := 65) (As := [.int v4, .int v5]) (st := []) (st1 := [.int (am_b p11)]) (in_11 hX.1 (by omega)) kk_11 mV_X11_isOneMissing ln_X11_300 rfl (Nat.le_of_ble_eq_true rfl) (Nat.le_of_ble_eq_true rfl) (k_X11_isOneMissing hX v4 v5 σ hp11) dX11_changed_65 rfl rfl ?_
          refine bt_ne (pc := 68) 82 dX11_changed_68 rfl (fun c12 => ?_) (fun c12 => ?_)
          · replace hf := am_ifT c12 hf
            exact am_sub [2] rfl (q_X11_changed_82 hX σ hf hk)
          replace hf := am_ifF c12 hf
          refine g_aload_n (pc := 71) 2 rfl dX11_changed_71 rfl ?_
          refine g_iload (pc := 72) 8 rfl dX11_changed_72 ?_
          refine g_iload (pc := 74) 9 rfl dX11_changed_74 ?_
          obtain ⟨p13, hp13, hf⟩ := am_bd hf
          refine g_cV (pc := 76) (As := [.int v6, .int v7]) (st := []) (st1 := [.int (am_b p13)]) (in_11 hX.1 (by omega)) kk_11 mV_X11_isOneMissing ln_X11_300 rfl (Nat.le_of_ble_eq_true rfl) (Nat.le_of_ble_eq_true rfl) (k_X11_isOneMissing hX v6 v7 σ hp13) dX11_changed_76 rfl rfl ?_
          refine bt_eq (pc := 79) 88 dX11_changed_79 rfl (fun c14 => ?_) (fun c14 => ?_)
          · replace hf := am_ifT c14 hf
            exact am_sub [2] rfl (q_X11_changed_82 hX σ hf hk)
          replace hf := am_ifF c14 hf
          refine g_iload (pc := 88) 10 rfl dX11_changed_88 ?_
          refine g_iconst (pc := 90) (v := 1) dX11_changed_90 (by decide) ?_
          refine g_bipush (pc := 91) (v := 24) dX11_changed_91 (by decide) ?_
          obtain ⟨p15, hp15, hf⟩ := am_bd hf
          refine g_cS (pc := 93) (As := [.int v8, .int 1, .int 24]) (st := []) (st1 := [.int (am_b p15)]) mS_X11_isWithin ln_X11_222 rfl (Nat.le_of_ble_eq_true rfl) (Nat.le_of_ble_eq_true rfl) (k_X11_isWithin hX v8 1 24 σ hp15) dX11_changed_93 rfl rfl ?_
          refine bt_eq (pc := 96) 111 dX11_changed_96 rfl (fun c16 => ?_) (fun c16 => ?_)
          · replace hf := am_ifT c16 hf
            refine g_iload (pc := 99) 11 rfl dX11_changed_99 ?_
            refine g_iconst (pc := 101) (v := 0) dX11_changed_101 (by decide) ?_
            refine g_sipush (pc := 102) (v := 999) dX11_changed_102 (by decide) ?_
            obtain ⟨p17, hp17, hf⟩ := am_bd hf
            refine g_cS (pc := 105) (As := [.int v9, .int 0, .int 999]) (st := []) (st1 := [.int (am_b p17)]) mS_X11_isWithin ln_X11_222 rfl (Nat.le_of_ble_eq_true rfl) (Nat.le_of_ble_eq_true rfl) (k_X11_isWithin hX v9 0 999 σ hp17) dX11_changed_105 rfl rfl ?_
            refine bt_ne (pc := 108) 117 dX11_changed_108 rfl (fun c18 => ?_) (fun c18 => ?_)
            · replace hf := am_ifT c18 hf
              refine g_aload_n (pc := 117) 2 rfl dX11_changed_117 rfl ?_
              refine g_iload (pc := 118) 6 rfl dX11_changed_118 ?_
              refine g_iload (pc := 120) 7 rfl dX11_changed_120 ?_
              refine g_iload (pc := 122) 10 rfl dX11_changed_122 ?_
              obtain ⟨p19, hp19, hf⟩ := am_bd hf
              refine g_cV (pc := 124) (As := [.int v4, .int v5, .int v8]) (st := []) (st1 := [.int (am_b p19)]) (in_11 hX.1 (by omega)) kk_11 mV_X11_haveBoth ln_X11_303 rfl (Nat.le_of_ble_eq_true rfl) (Nat.le_of_ble_eq_true rfl) (k_X11_haveBoth hX v4 v5 v8 σ hp19) dX11_changed_124 rfl rfl ?_
              refine bt_eq (pc := 127) 143 dX11_changed_127 rfl (fun c20 => ?_) (fun c20 => ?_)
              · replace hf := am_ifT c20 hf
                refine g_aload_n (pc := 130) 2 rfl dX11_changed_130 rfl ?_
                refine g_iload (pc := 131) 8 rfl dX11_changed_131 ?_
                refine g_iload (pc := 133) 9 rfl dX11_changed_133 ?_
                refine g_iload (pc := 135) 10 rfl dX11_changed_135 ?_
                obtain ⟨p21, hp21, hf⟩ := am_bd hf
                refine g_cV (pc := 137) (As := [.int v6, .int v7, .int v8]) (st := []) (st1 := [.int (am_b p21)]) (in_11 hX.1 (by omega)) kk_11 mV_X11_haveBoth ln_X11_303 rfl (Nat.le_of_ble_eq_true rfl) (Nat.le_of_ble_eq_true rfl) (k_X11_haveBoth hX v6 v7 v8 σ hp21) dX11_changed_137 rfl rfl ?_
                refine bt_ne (pc := 140) 149 dX11_changed_140 rfl (fun c22 => ?_) (fun c22 => ?_)
                · replace hf := am_ifT c22 hf
                  refine g_aload_n (pc := 149) 2 rfl dX11_changed_149 rfl ?_
                  refine g_getC (pc := 150) (e := 0) (in_11 hX.1 (by omega)) fr_X11_79 dX11_changed_150 rfl ?_
                  refine g_aload_n (pc := 153) 2 rfl dX11_changed_153 rfl ?_
                  refine g_getC (pc := 154) (e := 0) (in_11 hX.1 (by omega)) fr_X11_29 dX11_changed_154 rfl ?_
                  refine g_iload (pc := 157) 6 rfl dX11_changed_157 ?_
                  obtain ⟨j23, hj23, hf⟩ := am_bd hf
                  have gj23 := am_ix_lt hj23
                  refine g_aC (pc := 159) (e := j23) (in_1204 hX.1 (by omega)) ak_1204 hj23 rfl dX11_changed_159 ?_
                  refine g_aload_n (pc := 160) 2 rfl dX11_changed_160 rfl ?_
                  refine g_getC (pc := 161) (e := 0) (in_11 hX.1 (by omega)) fr_X11_29 dX11_changed_161 rfl ?_
                  refine g_iload (pc := 164) 7 rfl dX11_changed_164 ?_
                  obtain ⟨j24, hj24, hf⟩ := am_bd hf
                  have gj24 := am_ix_lt hj24
                  refine g_aC (pc := 166) (e := j24) (in_1204 hX.1 (by omega)) ak_1204 hj24 rfl dX11_changed_166 ?_
                  refine g_iload (pc := 167) 10 rfl dX11_changed_167 ?_
                  obtain ⟨p25, hp25, hf⟩ := am_bd hf
                  refine g_cV (pc := 169) (As := [.ref (am_ad X 8 j23), .ref (am_ad X 8 j24), .int v8]) (st := []) (st1 := [.int (am_b p25.1)]) (in_1 hX.1 (by omega)) kk_1 mV_X1_takeFrom ln_X11_306 rfl (Nat.le_of_ble_eq_true rfl) (Nat.le_of_ble_eq_true rfl) (k_X1_takeFrom hX 0 j23 j24 v8 (by omega) (by omega) (by omega) σ hp25) dX11_changed_169 rfl rfl ?_
                  refine g_istore (pc := 172) [(12, .int (am_b p25.1)), (11, .ref (am_ad X 10 a10)), (10, .ref (am_ad X 10 a6)), (0, .ref (am_ad X 11 0)), (1, .int v1), (2, .int v2), (3, .int v3), (4, .int v4), (5, .int v5), (6, .int v6), (7, .int v7), (8, .int v8), (9, .int v9)] dX11_changed_172 (Nat.le_of_ble_eq_true rfl) rfl ?_
                  refine g_iload (pc := 174) 0 rfl dX11_changed_174 ?_
                  refine bt_eq (pc := 176) 205 dX11_changed_176 rfl (fun c26 => ?_) (fun c26 => ?_)
                  · replace hf := am_ifT c26 hf
                    refine g_aload_n (pc := 179) 3 rfl dX11_changed_179 rfl ?_
                    refine g_getC (pc := 180) (e := 1) (in_11 hX.1 (by omega)) fr_X11_83 dX11_changed_180 rfl ?_
                    refine g_aload_n (pc := 183) 3 rfl dX11_changed_183 rfl ?_
                    refine g_getC (pc := 184) (e := 0) (in_11 hX.1 (by omega)) fr_X11_29 dX11_changed_184 rfl ?_
                    refine g_iload (pc := 187) 9 rfl dX11_changed_187 ?_
                    obtain ⟨j27, hj27, hf⟩ := am_bd hf
                    have gj27 := am_ix_lt hj27
                    refine g_aC (pc := 189) (e := j27) (in_1204 hX.1 (by omega)) ak_1204 hj27 rfl dX11_changed_189 ?_
                    refine g_aload_n (pc := 190) 3 rfl dX11_changed_190 rfl ?_
                    refine g_getC (pc := 191) (e := 0) (in_11 hX.1 (by omega)) fr_X11_29 dX11_changed_191 rfl ?_
                    refine g_iload (pc := 194) 10 rfl dX11_changed_194 ?_
                    obtain ⟨j28, hj28, hf⟩ := am_bd hf
                    have gj28 := am_ix_lt hj28
                    refine g_aC (pc := 196) (e := j28) (in_1204 hX.1 (by omega)) ak_1204 hj28 rfl dX11_changed_196 ?_
                    refine g_iload (pc := 197) 11 rfl dX11_changed_197 ?_
                    obtain ⟨p29, hp29, hf⟩ := am_bd hf
                    refine g_cV (pc := 199) (As := [.ref (am_ad X 8 j27), .ref (am_ad X 8 j28), .int v8]) (st := []) (st1 := [.int (am_b p29.1)]) (in_1 hX.1 (by omega)) kk_1 mV_X1_takeFrom ln_X11_306 rfl (Nat.le_of_ble_eq_true rfl) (Nat.le_of_ble_eq_true rfl) (k_X1_takeFrom hX 1 j27 j28 v8 (by omega) (by omega) (by omega) p25.2 hp29) dX11_changed_199 rfl rfl ?_
                    refine bt_ne (pc := 202) 211 dX11_changed_202 rfl (fun c30 => ?_) (fun c30 => ?_)
                    · replace hf := am_ifT c30 hf
                      refine g_aload_n (pc := 211) 3 rfl dX11_changed_211 rfl ?_
                      refine g_getC (pc := 212) (e := 0) (in_11 hX.1 (by omega)) fr_X11_79 dX11_changed_212 rfl ?_
                      refine g_aload (pc := 215) 2 rfl dX11_changed_215 ?_
                      refine g_aload (pc := 217) 1 rfl dX11_changed_217 ?_
                      refine g_iload_n (pc := 219) 5 rfl dX11_changed_219 rfl ?_
                      refine g_iload_n (pc := 220) 6 rfl dX11_changed_220 rfl ?_
                      refine bi_ne (pc := 221) 228 dX11_changed_221 rfl (fun c31 => ?_) (fun c31 => ?_)
                      · replace hf := am_ifT c31 hf
                        refine g_iconst (pc := 224) (v := 1) dX11_changed_224 (by decide) ?_
                        refine g_goto (pc := 225) 229 dX11_changed_225 rfl ?_
                        exact am_sub [3, 5, 6, 12, 2, 1] rfl (q_X11_changed_229 hX v2 v3 v9 a6 a10 0 a6 a10 true (by omega) (by omega) (by omega) (by omega) (by omega) p29.2 hf hk)
                      replace hf := am_ifF c31 hf
                      refine g_iconst (pc := 228) (v := 0) dX11_changed_228 (by decide) ?_
                      exact am_sub [3, 5, 6, 12, 2, 1] rfl (q_X11_changed_229 hX v2 v3 v9 a6 a10 0 a6 a10 false (by omega) (by omega) (by omega) (by omega) (by omega) p29.2 hf hk)
                    replace hf := am_ifF c30 hf
                    exact am_sub [3] rfl (q_X11_changed_205 hX p29.2 hf hk)
                  replace hf := am_ifF c26 hf
                  exact am_sub [3] rfl (q_X11_changed_205 hX p25.2 hf hk)
                replace hf := am_ifF c22 hf
                exact am_sub [2] rfl (q_X11_changed_143 hX σ hf hk)
              replace hf := am_ifF c20 hf
              exact am_sub [2] rfl (q_X11_changed_143 hX σ hf hk)
            replace hf := am_ifF c18 hf
            exact am_sub [2] rfl (q_X11_changed_111 hX σ hf hk)
          replace hf := am_ifF c16 hf
          exact am_sub [2] rfl (q_X11_changed_111 hX σ hf hk)
    replace hf := am_ifF c4 hf
    exact am_sub [0] rfl (q_X11_changed_22 hX σ hf hk)
  replace hf := am_ifF c2 hf
  exact am_sub [0] rfl (q_X11_changed_22 hX σ hf hk)
theorem k_X11_changed {X : am_X} (hX : am_wC X) (v1 : Int32) (v2 : Int32) (v3 : Int32) (v4 : Int32) (v5 : Int32) (v6 : Int32) (v7 : Int32) (v8 : Int32) (v9 : Int32) (σ : am_H) {o : Int32 × am_H} (hf : f_X11_changed v1 v2 v3 v4 v5 v6 v7 v8 v9 σ = some o) : am_C X gm_X11_changed [.ref (am_ad X 11 0), .int v1, .int v2, .int v3, .int v4, .int v5, .int v6, .int v7, .int v8, .int v9] σ (am_is (some (.int o.1)) o.2) :=
  am_ofG rfl (Nat.le_of_ble_eq_true rfl) rfl (q_X11_changed hX v1 v2 v3 v4 v5 v6 v7 v8 v9 σ hf ⟨rfl, rfl⟩)
theorem dX11_whyNoGauge_0 : decode cX11_whyNoGauge 0 = .ok (.aload_n 0, 1) := by decide +kernel
theorem dX11_whyNoGauge_1 : decode cX11_whyNoGauge 1 = .ok (.iload_n 2, 1) := by decide +kernel
theorem dX11_whyNoGauge_2 : decode cX11_whyNoGauge 2 = .ok (.iload_n 3, 1) := by decide +kernel
theorem dX11_whyNoGauge_3 : decode cX11_whyNoGauge 3 = .ok (.invokevirtual 297, 3) := by decide +kernel
theorem dX11_whyNoGauge_6 : decode cX11_whyNoGauge 6 = .ok (.ifCond .ne 5, 3) := by decide +kernel
theorem dX11_whyNoGauge_9 : decode cX11_whyNoGauge 9 = .ok (.iconst 1, 1) := by decide +kernel
theorem dX11_whyNoGauge_10 : decode cX11_whyNoGauge 10 = .ok (.ireturn, 1) := by decide +kernel
theorem dX11_whyNoGauge_11 : decode cX11_whyNoGauge 11 = .ok (.aload_n 0, 1) := by decide +kernel
theorem dX11_whyNoGauge_12 : decode cX11_whyNoGauge 12 = .ok (.iload_n 1, 1) := by decide +kernel
theorem dX11_whyNoGauge_13 : decode cX11_whyNoGauge 13 = .ok (.invokevirtual 159, 3) := by decide +kernel
theorem dX11_whyNoGauge_16 : decode cX11_whyNoGauge 16 = .ok (.ifnonnull 5, 3) := by decide +kernel
theorem dX11_whyNoGauge_19 : decode cX11_whyNoGauge 19 = .ok (.iconst 2, 1) := by decide +kernel
theorem dX11_whyNoGauge_20 : decode cX11_whyNoGauge 20 = .ok (.ireturn, 1) := by decide +kernel
theorem dX11_whyNoGauge_21 : decode cX11_whyNoGauge 21 = .ok (.aload_n 0, 1) := by decide +kernel
theorem dX11_whyNoGauge_22 : decode cX11_whyNoGauge 22 = .ok (.iload_n 2, 1) := by decide +kernel
theorem dX11_whyNoGauge_23 : decode cX11_whyNoGauge 23 = .ok (.iload_n 3, 1) := by decide +kernel
theorem dX11_whyNoGauge_24 : decode cX11_whyNoGauge 24 = .ok (.invokevirtual 300, 3) := by decide +kernel
theorem dX11_whyNoGauge_27 : decode cX11_whyNoGauge 27 = .ok (.ifCond .eq 5, 3) := by decide +kernel
theorem dX11_whyNoGauge_30 : decode cX11_whyNoGauge 30 = .ok (.iconst 3, 1) := by decide +kernel
theorem dX11_whyNoGauge_31 : decode cX11_whyNoGauge 31 = .ok (.ireturn, 1) := by decide +kernel
theorem dX11_whyNoGauge_32 : decode cX11_whyNoGauge 32 = .ok (.iload 4, 2) := by decide +kernel
theorem dX11_whyNoGauge_34 : decode cX11_whyNoGauge 34 = .ok (.iconst 1, 1) := by decide +kernel
theorem dX11_whyNoGauge_35 : decode cX11_whyNoGauge 35 = .ok (.bipush 24, 2) := by decide +kernel
theorem dX11_whyNoGauge_37 : decode cX11_whyNoGauge 37 = .ok (.invokestatic 222, 3) := by decide +kernel
theorem dX11_whyNoGauge_40 : decode cX11_whyNoGauge 40 = .ok (.ifCond .eq 8, 3) := by decide +kernel
theorem dX11_whyNoGauge_43 : decode cX11_whyNoGauge 43 = .ok (.iload 5, 2) := by decide +kernel
theorem dX11_whyNoGauge_45 : decode cX11_whyNoGauge 45 = .ok (.ifCond .ne 5, 3) := by decide +kernel
theorem dX11_whyNoGauge_48 : decode cX11_whyNoGauge 48 = .ok (.iconst 5, 1) := by decide +kernel
theorem dX11_whyNoGauge_49 : decode cX11_whyNoGauge 49 = .ok (.ireturn, 1) := by decide +kernel
theorem dX11_whyNoGauge_50 : decode cX11_whyNoGauge 50 = .ok (.aload_n 0, 1) := by decide +kernel
theorem dX11_whyNoGauge_51 : decode cX11_whyNoGauge 51 = .ok (.iload_n 2, 1) := by decide +kernel
theorem dX11_whyNoGauge_52 : decode cX11_whyNoGauge 52 = .ok (.iload_n 3, 1) := by decide +kernel
theorem dX11_whyNoGauge_53 : decode cX11_whyNoGauge 53 = .ok (.iload 4, 2) := by decide +kernel
theorem dX11_whyNoGauge_55 : decode cX11_whyNoGauge 55 = .ok (.invokevirtual 303, 3) := by decide +kernel
theorem dX11_whyNoGauge_58 : decode cX11_whyNoGauge 58 = .ok (.ifCond .ne 5, 3) := by decide +kernel
theorem dX11_whyNoGauge_61 : decode cX11_whyNoGauge 61 = .ok (.iconst 4, 1) := by decide +kernel
theorem dX11_whyNoGauge_62 : decode cX11_whyNoGauge 62 = .ok (.ireturn, 1) := by decide +kernel
theorem dX11_whyNoGauge_63 : decode cX11_whyNoGauge 63 = .ok (.aload_n 0, 1) := by decide +kernel
theorem dX11_whyNoGauge_64 : decode cX11_whyNoGauge 64 = .ok (.getfield 79, 3) := by decide +kernel
theorem dX11_whyNoGauge_67 : decode cX11_whyNoGauge 67 = .ok (.aload_n 0, 1) := by decide +kernel
theorem dX11_whyNoGauge_68 : decode cX11_whyNoGauge 68 = .ok (.getfield 29, 3) := by decide +kernel
theorem dX11_whyNoGauge_71 : decode cX11_whyNoGauge 71 = .ok (.iload_n 2, 1) := by decide +kernel
theorem dX11_whyNoGauge_72 : decode cX11_whyNoGauge 72 = .ok (.aaload, 1) := by decide +kernel
theorem dX11_whyNoGauge_73 : decode cX11_whyNoGauge 73 = .ok (.aload_n 0, 1) := by decide +kernel
theorem dX11_whyNoGauge_74 : decode cX11_whyNoGauge 74 = .ok (.getfield 29, 3) := by decide +kernel
theorem dX11_whyNoGauge_77 : decode cX11_whyNoGauge 77 = .ok (.iload_n 3, 1) := by decide +kernel
theorem dX11_whyNoGauge_78 : decode cX11_whyNoGauge 78 = .ok (.aaload, 1) := by decide +kernel
theorem dX11_whyNoGauge_79 : decode cX11_whyNoGauge 79 = .ok (.iload 4, 2) := by decide +kernel
theorem dX11_whyNoGauge_81 : decode cX11_whyNoGauge 81 = .ok (.invokevirtual 306, 3) := by decide +kernel
theorem dX11_whyNoGauge_84 : decode cX11_whyNoGauge 84 = .ok (.ifCond .eq 7, 3) := by decide +kernel
theorem dX11_whyNoGauge_87 : decode cX11_whyNoGauge 87 = .ok (.iconst 0, 1) := by decide +kernel
theorem dX11_whyNoGauge_88 : decode cX11_whyNoGauge 88 = .ok (.goto 4, 3) := by decide +kernel
theorem dX11_whyNoGauge_91 : decode cX11_whyNoGauge 91 = .ok (.iconst 5, 1) := by decide +kernel
theorem dX11_whyNoGauge_92 : decode cX11_whyNoGauge 92 = .ok (.ireturn, 1) := by decide +kernel
noncomputable def f_X11_whyNoGauge (v1 : Int32) (v2 : Int32) (v3 : Int32) (v4 : Int32) (v5 : Bool) (σ : am_H) : Option (Int32 × am_H) :=
  (f_X11_areTrays v2 v3 σ).bind fun p1 =>
  if p1 = true then
   ((f_X11_machineOf v1 σ).bind fun p3 =>
   am_nn 3 p3
    (some (2, σ))
    (fun a4 =>
    (f_X11_isOneMissing v2 v3 σ).bind fun p5 =>
    if p5 = true then
     (some (3, σ))
    else
    (f_X11_isWithin v4 1 24 σ).bind fun p7 =>
    if p7 = true then
     (if v5 = true then
      ((f_X11_haveBoth v2 v3 v4 σ).bind fun p10 =>
      if p10 = true then
       ((am_ix 5 v2).bind fun j12 =>
       (am_ix 5 v3).bind fun j13 =>
       (f_X1_takeFrom 0 j12 j13 v4 σ).bind fun p14 =>
       if p14.1 = true then
        (some (0, p14.2))
       else
       some (5, p14.2))
      else
      some (4, σ))
     else
     some (5, σ))
    else
    some (5, σ)))
  else
  some (1, σ)
set_option maxRecDepth 100000 in
set_option maxHeartbeats 4000000 in
theorem q_X11_whyNoGauge {X : am_X} (hX : am_wC X) {Q : Option Value → am_H → Prop} (v1 : Int32) (v2 : Int32) (v3 : Int32) (v4 : Int32) (v5 : Bool) (σ : am_H) {o : Int32 × am_H} (hf : f_X11_whyNoGauge v1 v2 v3 v4 v5 σ = some o) (hk : Q (some (.int o.1)) o.2) : am_G X gm_X11_whyNoGauge Q 0 [(0, .ref (am_ad X 11 0)), (1, .int v1), (2, .int v2), (3, .int v3), (4, .int v4), (5, .int (am_b v5))] [] σ := by
  unfold f_X11_whyNoGauge at hf
  refine g_aload_n (pc := 0) 0 rfl dX11_whyNoGauge_0 rfl ?_
  refine g_iload_n (pc := 1) 2 rfl dX11_whyNoGauge_1 rfl ?_
  refine g_iload_n (pc := 2) 3 rfl dX11_whyNoGauge_2 rfl ?_
  obtain ⟨p1, hp1, hf⟩ := am_bd hf
  refine g_cV (pc := 3) (As := [.int v2, .int v3]) (st := []) (st1 := [.int (am_b p1)]) (in_11 hX.1 (by omega)) kk_11 mV_X11_areTrays ln_X11_297 rfl (Nat.le_of_ble_eq_true rfl) (Nat.le_of_ble_eq_true rfl) (k_X11_areTrays hX v2 v3 σ hp1) dX11_whyNoGauge_3 rfl rfl ?_
  refine bt_ne (pc := 6) 11 dX11_whyNoGauge_6 rfl (fun c2 => ?_) (fun c2 => ?_)
  · replace hf := am_ifT c2 hf
    refine g_aload_n (pc := 11) 0 rfl dX11_whyNoGauge_11 rfl ?_
    refine g_iload_n (pc := 12) 1 rfl dX11_whyNoGauge_12 rfl ?_
    obtain ⟨p3, hp3, hf⟩ := am_bd hf
    have hq := am_nn_c hf
    clear hf
    rcases hq with ⟨ep3, hf⟩ | ⟨a4, ep3, ga4, hf⟩
    · subst ep3
      refine g_cV (pc := 13) (As := [.int v1]) (st := []) (st1 := [.null]) (in_11 hX.1 (by omega)) kk_11 mV_X11_machineOf ln_X11_159 rfl (Nat.le_of_ble_eq_true rfl) (Nat.le_of_ble_eq_true rfl) (k_X11_machineOf hX v1 σ hp3) dX11_whyNoGauge_13 rfl rfl ?_
      refine g_ifnonnullN (pc := 16) dX11_whyNoGauge_16 ?_
      refine g_iconst (pc := 19) (v := 2) dX11_whyNoGauge_19 (by decide) ?_
      have ho := Option.some.inj hf
      subst ho
      exact g_ireturn (pc := 20) (st := []) rfl dX11_whyNoGauge_20 hk
    · subst ep3
      refine g_cV (pc := 13) (As := [.int v1]) (st := []) (st1 := [.ref (am_ad X 3 a4)]) (in_11 hX.1 (by omega)) kk_11 mV_X11_machineOf ln_X11_159 rfl (Nat.le_of_ble_eq_true rfl) (Nat.le_of_ble_eq_true rfl) (k_X11_machineOf hX v1 σ hp3) dX11_whyNoGauge_13 rfl rfl ?_
      refine g_ifnonnull (pc := 16) 21 dX11_whyNoGauge_16 rfl ?_
      refine g_aload_n (pc := 21) 0 rfl dX11_whyNoGauge_21 rfl ?_
      refine g_iload_n (pc := 22) 2 rfl dX11_whyNoGauge_22 rfl ?_
      refine g_iload_n (pc := 23) 3 rfl dX11_whyNoGauge_23 rfl ?_
      obtain ⟨p5, hp5, hf⟩ := am_bd hf
      refine g_cV (pc := 24) (As := [.int v2, .int v3]) (st := []) (st1 := [.int (am_b p5)]) (in_11 hX.1 (by omega)) kk_11 mV_X11_isOneMissing ln_X11_300 rfl (Nat.le_of_ble_eq_true rfl) (Nat.le_of_ble_eq_true rfl) (k_X11_isOneMissing hX v2 v3 σ hp5) dX11_whyNoGauge_24 rfl rfl ?_
      refine bt_eq (pc := 27) 32 dX11_whyNoGauge_27 rfl (fun c6 => ?_) (fun c6 => ?_)
      · replace hf := am_ifT c6 hf
        refine g_iconst (pc := 30) (v := 3) dX11_whyNoGauge_30 (by decide) ?_
        have ho := Option.some.inj hf
        subst ho
        exact g_ireturn (pc := 31) (st := []) rfl dX11_whyNoGauge_31 hk
      replace hf := am_ifF c6 hf
      refine g_iload (pc := 32) 4 rfl dX11_whyNoGauge_32 ?_
      refine g_iconst (pc := 34) (v := 1) dX11_whyNoGauge_34 (by decide) ?_
      refine g_bipush (pc := 35) (v := 24) dX11_whyNoGauge_35 (by decide) ?_
      obtain ⟨p7, hp7, hf⟩ := am_bd hf
      refine g_cS (pc := 37) (As := [.int v4, .int 1, .int 24]) (st := []) (st1 := [.int (am_b p7)]) mS_X11_isWithin ln_X11_222 rfl (Nat.le_of_ble_eq_true rfl) (Nat.le_of_ble_eq_true rfl) (k_X11_isWithin hX v4 1 24 σ hp7) dX11_whyNoGauge_37 rfl rfl ?_
      refine bt_eq (pc := 40) 48 dX11_whyNoGauge_40 rfl (fun c8 => ?_) (fun c8 => ?_)
      · replace hf := am_ifT c8 hf
        refine g_iload (pc := 43) 5 rfl dX11_whyNoGauge_43 ?_
        refine bt_ne (pc := 45) 50 dX11_whyNoGauge_45 rfl (fun c9 => ?_) (fun c9 => ?_)
        · replace hf := am_ifT c9 hf
          refine g_aload_n (pc := 50) 0 rfl dX11_whyNoGauge_50 rfl ?_
          refine g_iload_n (pc := 51) 2 rfl dX11_whyNoGauge_51 rfl ?_
          refine g_iload_n (pc := 52) 3 rfl dX11_whyNoGauge_52 rfl ?_
          refine g_iload (pc := 53) 4 rfl dX11_whyNoGauge_53 ?_
          obtain ⟨p10, hp10, hf⟩ := am_bd hf
          refine g_cV (pc := 55) (As := [.int v2, .int v3, .int v4]) (st := []) (st1 := [.int (am_b p10)]) (in_11 hX.1 (by omega)) kk_11 mV_X11_haveBoth ln_X11_303 rfl (Nat.le_of_ble_eq_true rfl) (Nat.le_of_ble_eq_true rfl) (k_X11_haveBoth hX v2 v3 v4 σ hp10) dX11_whyNoGauge_55 rfl rfl ?_
          refine bt_ne (pc := 58) 63 dX11_whyNoGauge_58 rfl (fun c11 => ?_) (fun c11 => ?_)
          · replace hf := am_ifT c11 hf
            refine g_aload_n (pc := 63) 0 rfl dX11_whyNoGauge_63 rfl ?_
            refine g_getC (pc := 64) (e := 0) (in_11 hX.1 (by omega)) fr_X11_79 dX11_whyNoGauge_64 rfl ?_
            refine g_aload_n (pc := 67) 0 rfl dX11_whyNoGauge_67 rfl ?_
            refine g_getC (pc := 68) (e := 0) (in_11 hX.1 (by omega)) fr_X11_29 dX11_whyNoGauge_68 rfl ?_
            refine g_iload_n (pc := 71) 2 rfl dX11_whyNoGauge_71 rfl ?_
            obtain ⟨j12, hj12, hf⟩ := am_bd hf
            have gj12 := am_ix_lt hj12
            refine g_aC (pc := 72) (e := j12) (in_1204 hX.1 (by omega)) ak_1204 hj12 rfl dX11_whyNoGauge_72 ?_
            refine g_aload_n (pc := 73) 0 rfl dX11_whyNoGauge_73 rfl ?_
            refine g_getC (pc := 74) (e := 0) (in_11 hX.1 (by omega)) fr_X11_29 dX11_whyNoGauge_74 rfl ?_
            refine g_iload_n (pc := 77) 3 rfl dX11_whyNoGauge_77 rfl ?_
            obtain ⟨j13, hj13, hf⟩ := am_bd hf
            have gj13 := am_ix_lt hj13
            refine g_aC (pc := 78) (e := j13) (in_1204 hX.1 (by omega)) ak_1204 hj13 rfl dX11_whyNoGauge_78 ?_
            refine g_iload (pc := 79) 4 rfl dX11_whyNoGauge_79 ?_
            obtain ⟨p14, hp14, hf⟩ := am_bd hf
            refine g_cV (pc := 81) (As := [.ref (am_ad X 8 j12), .ref (am_ad X 8 j13), .int v4]) (st := []) (st1 := [.int (am_b p14.1)]) (in_1 hX.1 (by omega)) kk_1 mV_X1_takeFrom ln_X11_306 rfl (Nat.le_of_ble_eq_true rfl) (Nat.le_of_ble_eq_true rfl) (k_X1_takeFrom hX 0 j12 j13 v4 (by omega) (by omega) (by omega) σ hp14) dX11_whyNoGauge_81 rfl rfl ?_
            refine bt_eq (pc := 84) 91 dX11_whyNoGauge_84 rfl (fun c15 => ?_) (fun c15 => ?_)
            · replace hf := am_ifT c15 hf
              refine g_iconst (pc := 87) (v := 0) dX11_whyNoGauge_87 (by decide) ?_
              refine g_goto (pc := 88) 92 dX11_whyNoGauge_88 rfl ?_
              have ho := Option.some.inj hf
              subst ho
              exact g_ireturn (pc := 92) (st := []) rfl dX11_whyNoGauge_92 hk
            replace hf := am_ifF c15 hf
            refine g_iconst (pc := 91) (v := 5) dX11_whyNoGauge_91 (by decide) ?_
            have ho := Option.some.inj hf
            subst ho
            exact g_ireturn (pc := 92) (st := []) rfl dX11_whyNoGauge_92 hk
          replace hf := am_ifF c11 hf
          refine g_iconst (pc := 61) (v := 4) dX11_whyNoGauge_61 (by decide) ?_
          have ho := Option.some.inj hf
          subst ho
          exact g_ireturn (pc := 62) (st := []) rfl dX11_whyNoGauge_62 hk
        replace hf := am_ifF c9 hf
        refine g_iconst (pc := 48) (v := 5) dX11_whyNoGauge_48 (by decide) ?_
        have ho := Option.some.inj hf
        subst ho
        exact g_ireturn (pc := 49) (st := []) rfl dX11_whyNoGauge_49 hk
      replace hf := am_ifF c8 hf
      refine g_iconst (pc := 48) (v := 5) dX11_whyNoGauge_48 (by decide) ?_
      have ho := Option.some.inj hf
      subst ho
      exact g_ireturn (pc := 49) (st := []) rfl dX11_whyNoGauge_49 hk
  replace hf := am_ifF c2 hf
  refine g_iconst (pc := 9) (v := 1) dX11_whyNoGauge_9 (by decide) ?_
  have ho := Option.some.inj hf
  subst ho
  exact g_ireturn (pc := 10) (st := []) rfl dX11_whyNoGauge_10 hk
theorem k_X11_whyNoGauge {X : am_X} (hX : am_wC X) (v1 : Int32) (v2 : Int32) (v3 : Int32) (v4 : Int32) (v5 : Bool) (σ : am_H) {o : Int32 × am_H} (hf : f_X11_whyNoGauge v1 v2 v3 v4 v5 σ = some o) : am_C X gm_X11_whyNoGauge [.ref (am_ad X 11 0), .int v1, .int v2, .int v3, .int v4, .int (am_b v5)] σ (am_is (some (.int o.1)) o.2) :=
  am_ofG rfl (Nat.le_of_ble_eq_true rfl) rfl (q_X11_whyNoGauge hX v1 v2 v3 v4 v5 σ hf ⟨rfl, rfl⟩)
theorem dX11_slipped_0 : decode cX11_slipped 0 = .ok (.aload_n 0, 1) := by decide +kernel
theorem dX11_slipped_1 : decode cX11_slipped 1 = .ok (.iload_n 1, 1) := by decide +kernel
theorem dX11_slipped_2 : decode cX11_slipped 2 = .ok (.iload_n 2, 1) := by decide +kernel
theorem dX11_slipped_3 : decode cX11_slipped 3 = .ok (.iload_n 3, 1) := by decide +kernel
theorem dX11_slipped_4 : decode cX11_slipped 4 = .ok (.iload 4, 2) := by decide +kernel
theorem dX11_slipped_6 : decode cX11_slipped 6 = .ok (.iload 5, 2) := by decide +kernel
theorem dX11_slipped_8 : decode cX11_slipped 8 = .ok (.iconst 0, 1) := by decide +kernel
theorem dX11_slipped_9 : decode cX11_slipped 9 = .ok (.iconst 1, 1) := by decide +kernel
theorem dX11_slipped_10 : decode cX11_slipped 10 = .ok (.invokestatic 222, 3) := by decide +kernel
theorem dX11_slipped_13 : decode cX11_slipped 13 = .ok (.invokevirtual 323, 3) := by decide +kernel
theorem dX11_slipped_16 : decode cX11_slipped 16 = .ok (.istore 6, 2) := by decide +kernel
theorem dX11_slipped_18 : decode cX11_slipped 18 = .ok (.iload 6, 2) := by decide +kernel
theorem dX11_slipped_20 : decode cX11_slipped 20 = .ok (.ifCond .eq 10, 3) := by decide +kernel
theorem dX11_slipped_23 : decode cX11_slipped 23 = .ok (.aload_n 0, 1) := by decide +kernel
theorem dX11_slipped_24 : decode cX11_slipped 24 = .ok (.iload 6, 2) := by decide +kernel
theorem dX11_slipped_26 : decode cX11_slipped 26 = .ok (.invokevirtual 124, 3) := by decide +kernel
theorem dX11_slipped_29 : decode cX11_slipped 29 = .ok (.ireturn, 1) := by decide +kernel
theorem dX11_slipped_30 : decode cX11_slipped 30 = .ok (.aload_n 0, 1) := by decide +kernel
theorem dX11_slipped_31 : decode cX11_slipped 31 = .ok (.getfield 89, 3) := by decide +kernel
theorem dX11_slipped_34 : decode cX11_slipped 34 = .ok (.aload_n 0, 1) := by decide +kernel
theorem dX11_slipped_35 : decode cX11_slipped 35 = .ok (.getfield 36, 3) := by decide +kernel
theorem dX11_slipped_38 : decode cX11_slipped 38 = .ok (.iload_n 1, 1) := by decide +kernel
theorem dX11_slipped_39 : decode cX11_slipped 39 = .ok (.aaload, 1) := by decide +kernel
theorem dX11_slipped_40 : decode cX11_slipped 40 = .ok (.aload_n 0, 1) := by decide +kernel
theorem dX11_slipped_41 : decode cX11_slipped 41 = .ok (.getfield 79, 3) := by decide +kernel
theorem dX11_slipped_44 : decode cX11_slipped 44 = .ok (.iload 5, 2) := by decide +kernel
theorem dX11_slipped_46 : decode cX11_slipped 46 = .ok (.ifCond .ne 7, 3) := by decide +kernel
theorem dX11_slipped_49 : decode cX11_slipped 49 = .ok (.iconst 1, 1) := by decide +kernel
theorem dX11_slipped_50 : decode cX11_slipped 50 = .ok (.goto 4, 3) := by decide +kernel
theorem dX11_slipped_53 : decode cX11_slipped 53 = .ok (.iconst 0, 1) := by decide +kernel
theorem dX11_slipped_54 : decode cX11_slipped 54 = .ok (.invokevirtual 327, 3) := by decide +kernel
theorem dX11_slipped_57 : decode cX11_slipped 57 = .ok (.aload_n 0, 1) := by decide +kernel
theorem dX11_slipped_58 : decode cX11_slipped 58 = .ok (.aload_n 0, 1) := by decide +kernel
theorem dX11_slipped_59 : decode cX11_slipped 59 = .ok (.getfield 89, 3) := by decide +kernel
theorem dX11_slipped_62 : decode cX11_slipped 62 = .ok (.getfield 331, 3) := by decide +kernel
theorem dX11_slipped_65 : decode cX11_slipped 65 = .ok (.invokevirtual 176, 3) := by decide +kernel
theorem dX11_slipped_68 : decode cX11_slipped 68 = .ok (.ireturn, 1) := by decide +kernel
noncomputable def f_X11_slipped_54 (k1 : Nat) (k2 : Nat) (k3 : Bool) (σ : am_H) : Option (Int32 × am_H) :=
  (f_X0_findSlip k1 k2 k3 σ).bind fun p1 =>
  (f_X11_answer (p1.1 0 0 5) p1).bind fun p2 =>
  some (p2.1, p2.2)
set_option maxRecDepth 100000 in
set_option maxHeartbeats 4000000 in
theorem q_X11_slipped_54 {X : am_X} (hX : am_wC X) {Q : Option Value → am_H → Prop} (k1 : Nat) (k2 : Nat) (k3 : Bool) (hk1 : k1 < 3) (hk2 : k2 < 2) (σ : am_H) {o : Int32 × am_H} (hf : f_X11_slipped_54 k1 k2 k3 σ = some o) (hk : Q (some (.int o.1)) o.2) : am_G X gm_X11_slipped Q 54 [(0, .ref (am_ad X 11 0))] [.int (am_b k3), .ref (am_ad X 1 k2), .ref (am_ad X 3 k1), .ref (am_ad X 0 0)] σ := by
  unfold f_X11_slipped_54 at hf
  obtain ⟨p1, hp1, hf⟩ := am_bd hf
  refine g_cV (pc := 54) (As := [.ref (am_ad X 3 k1), .ref (am_ad X 1 k2), .int (am_b k3)]) (st := []) (st1 := []) (in_0 hX.1 (by omega)) kk_0 mV_X0_findSlip ln_X11_327 rfl (Nat.le_of_ble_eq_true rfl) (Nat.le_of_ble_eq_true rfl) (k_X0_findSlip hX k1 k2 k3 (by omega) (by omega) σ hp1) dX11_slipped_54 rfl rfl ?_
  refine g_aload_n (pc := 57) 0 rfl dX11_slipped_57 rfl ?_
  refine g_aload_n (pc := 58) 0 rfl dX11_slipped_58 rfl ?_
  refine g_getC (pc := 59) (e := 0) (in_11 hX.1 (by omega)) fr_X11_89 dX11_slipped_59 rfl ?_
  refine g_getI (pc := 62) (in_0 hX.1 (by omega)) fr_X11_331 dX11_slipped_62 ?_
  obtain ⟨p2, hp2, hf⟩ := am_bd hf
  refine g_cV (pc := 65) (As := [.int (p1.1 0 0 5)]) (st := []) (st1 := [.int p2.1]) (in_11 hX.1 (by omega)) kk_11 mV_X11_answer ln_X11_176 rfl (Nat.le_of_ble_eq_true rfl) (Nat.le_of_ble_eq_true rfl) (k_X11_answer hX (p1.1 0 0 5) p1 hp2) dX11_slipped_65 rfl rfl ?_
  have ho := Option.some.inj hf
  subst ho
  exact g_ireturn (pc := 68) (st := []) rfl dX11_slipped_68 hk
noncomputable def f_X11_slipped (v1 : Int32) (v2 : Int32) (v3 : Int32) (v4 : Int32) (v5 : Int32) (σ : am_H) : Option (Int32 × am_H) :=
  (f_X11_isWithin v5 0 1 σ).bind fun p1 =>
  (f_X11_whyNoGauge v1 v2 v3 v4 p1 σ).bind fun p2 =>
  if p2.1 = 0 then
   ((am_ix 2 v1).bind fun j4 =>
   (am_rr 3 (p2.2.2.2 1205 0 j4)).bind fun a5 =>
   if v5 = 0 then
    (f_X11_slipped_54 a5 0 true p2.2)
   else
   f_X11_slipped_54 a5 0 false p2.2)
  else
  (f_X11_none p2.1 p2.2).bind fun p7 =>
  some (p7.1, p7.2)
set_option maxRecDepth 100000 in
set_option maxHeartbeats 4000000 in
theorem q_X11_slipped {X : am_X} (hX : am_wC X) {Q : Option Value → am_H → Prop} (v1 : Int32) (v2 : Int32) (v3 : Int32) (v4 : Int32) (v5 : Int32) (σ : am_H) {o : Int32 × am_H} (hf : f_X11_slipped v1 v2 v3 v4 v5 σ = some o) (hk : Q (some (.int o.1)) o.2) : am_G X gm_X11_slipped Q 0 [(0, .ref (am_ad X 11 0)), (1, .int v1), (2, .int v2), (3, .int v3), (4, .int v4), (5, .int v5)] [] σ := by
  unfold f_X11_slipped at hf
  refine g_aload_n (pc := 0) 0 rfl dX11_slipped_0 rfl ?_
  refine g_iload_n (pc := 1) 1 rfl dX11_slipped_1 rfl ?_
  refine g_iload_n (pc := 2) 2 rfl dX11_slipped_2 rfl ?_
  refine g_iload_n (pc := 3) 3 rfl dX11_slipped_3 rfl ?_
  refine g_iload (pc := 4) 4 rfl dX11_slipped_4 ?_
  refine g_iload (pc := 6) 5 rfl dX11_slipped_6 ?_
  refine g_iconst (pc := 8) (v := 0) dX11_slipped_8 (by decide) ?_
  refine g_iconst (pc := 9) (v := 1) dX11_slipped_9 (by decide) ?_
  obtain ⟨p1, hp1, hf⟩ := am_bd hf
  refine g_cS (pc := 10) (As := [.int v5, .int 0, .int 1]) (st := [.int v4, .int v3, .int v2, .int v1, .ref (am_ad X 11 0)]) (st1 := [.int (am_b p1), .int v4, .int v3, .int v2, .int v1, .ref (am_ad X 11 0)]) mS_X11_isWithin ln_X11_222 rfl (Nat.le_of_ble_eq_true rfl) (Nat.le_of_ble_eq_true rfl) (k_X11_isWithin hX v5 0 1 σ hp1) dX11_slipped_10 rfl rfl ?_
  obtain ⟨p2, hp2, hf⟩ := am_bd hf
  refine g_cV (pc := 13) (As := [.int v1, .int v2, .int v3, .int v4, .int (am_b p1)]) (st := []) (st1 := [.int p2.1]) (in_11 hX.1 (by omega)) kk_11 mV_X11_whyNoGauge ln_X11_323 rfl (Nat.le_of_ble_eq_true rfl) (Nat.le_of_ble_eq_true rfl) (k_X11_whyNoGauge hX v1 v2 v3 v4 p1 σ hp2) dX11_slipped_13 rfl rfl ?_
  refine g_istore (pc := 16) [(6, .int p2.1), (0, .ref (am_ad X 11 0)), (1, .int v1), (2, .int v2), (3, .int v3), (4, .int v4), (5, .int v5)] dX11_slipped_16 (Nat.le_of_ble_eq_true rfl) rfl ?_
  refine g_iload (pc := 18) 0 rfl dX11_slipped_18 ?_
  refine bz_eq (pc := 20) 30 dX11_slipped_20 rfl (fun c3 => ?_) (fun c3 => ?_)
  · replace hf := am_ifT c3 hf
    refine g_aload_n (pc := 30) 1 rfl dX11_slipped_30 rfl ?_
    refine g_getC (pc := 31) (e := 0) (in_11 hX.1 (by omega)) fr_X11_89 dX11_slipped_31 rfl ?_
    refine g_aload_n (pc := 34) 1 rfl dX11_slipped_34 rfl ?_
    refine g_getC (pc := 35) (e := 0) (in_11 hX.1 (by omega)) fr_X11_36 dX11_slipped_35 rfl ?_
    refine g_iload_n (pc := 38) 2 rfl dX11_slipped_38 rfl ?_
    obtain ⟨j4, hj4, hf⟩ := am_bd hf
    have gj4 := am_ix_lt hj4
    obtain ⟨a5, ha5, hf⟩ := am_bd hf
    obtain ⟨ha5, ga5⟩ := am_rr_in ha5
    refine g_aM (pc := 39) (in_1205 hX.1 (by omega)) ak_1205 hj4 ha5 dX11_slipped_39 ?_
    refine g_aload_n (pc := 40) 1 rfl dX11_slipped_40 rfl ?_
    refine g_getC (pc := 41) (e := 0) (in_11 hX.1 (by omega)) fr_X11_79 dX11_slipped_41 rfl ?_
    refine g_iload (pc := 44) 6 rfl dX11_slipped_44 ?_
    refine bz_ne (pc := 46) 53 dX11_slipped_46 rfl (fun c6 => ?_) (fun c6 => ?_)
    · replace hf := am_ifT c6 hf
      refine g_iconst (pc := 49) (v := 1) dX11_slipped_49 (by decide) ?_
      refine g_goto (pc := 50) 54 dX11_slipped_50 rfl ?_
      exact am_sub [1] rfl (q_X11_slipped_54 hX a5 0 true (by omega) (by omega) p2.2 hf hk)
    replace hf := am_ifF c6 hf
    refine g_iconst (pc := 53) (v := 0) dX11_slipped_53 (by decide) ?_
    exact am_sub [1] rfl (q_X11_slipped_54 hX a5 0 false (by omega) (by omega) p2.2 hf hk)
  replace hf := am_ifF c3 hf
  refine g_aload_n (pc := 23) 1 rfl dX11_slipped_23 rfl ?_
  refine g_iload (pc := 24) 0 rfl dX11_slipped_24 ?_
  obtain ⟨p7, hp7, hf⟩ := am_bd hf
  refine g_cV (pc := 26) (As := [.int p2.1]) (st := []) (st1 := [.int p7.1]) (in_11 hX.1 (by omega)) kk_11 mV_X11_none ln_X11_124 rfl (Nat.le_of_ble_eq_true rfl) (Nat.le_of_ble_eq_true rfl) (k_X11_none hX p2.1 p2.2 hp7) dX11_slipped_26 rfl rfl ?_
  have ho := Option.some.inj hf
  subst ho
  exact g_ireturn (pc := 29) (st := []) rfl dX11_slipped_29 hk
theorem k_X11_slipped {X : am_X} (hX : am_wC X) (v1 : Int32) (v2 : Int32) (v3 : Int32) (v4 : Int32) (v5 : Int32) (σ : am_H) {o : Int32 × am_H} (hf : f_X11_slipped v1 v2 v3 v4 v5 σ = some o) : am_C X gm_X11_slipped [.ref (am_ad X 11 0), .int v1, .int v2, .int v3, .int v4, .int v5] σ (am_is (some (.int o.1)) o.2) :=
  am_ofG rfl (Nat.le_of_ble_eq_true rfl) rfl (q_X11_slipped hX v1 v2 v3 v4 v5 σ hf ⟨rfl, rfl⟩)
theorem dX11_slip_0 : decode cX11_slip 0 = .ok (.aload_n 0, 1) := by decide +kernel
theorem dX11_slip_1 : decode cX11_slip 1 = .ok (.getfield 89, 3) := by decide +kernel
theorem dX11_slip_4 : decode cX11_slip 4 = .ok (.getfield 334, 3) := by decide +kernel
theorem dX11_slip_7 : decode cX11_slip 7 = .ok (.ifCond .eq 17, 3) := by decide +kernel
theorem dX11_slip_10 : decode cX11_slip 10 = .ok (.aload_n 0, 1) := by decide +kernel
theorem dX11_slip_11 : decode cX11_slip 11 = .ok (.aload_n 0, 1) := by decide +kernel
theorem dX11_slip_12 : decode cX11_slip 12 = .ok (.getfield 89, 3) := by decide +kernel
theorem dX11_slip_15 : decode cX11_slip 15 = .ok (.getfield 338, 3) := by decide +kernel
theorem dX11_slip_18 : decode cX11_slip 18 = .ok (.invokevirtual 176, 3) := by decide +kernel
theorem dX11_slip_21 : decode cX11_slip 21 = .ok (.goto 9, 3) := by decide +kernel
theorem dX11_slip_24 : decode cX11_slip 24 = .ok (.aload_n 0, 1) := by decide +kernel
theorem dX11_slip_25 : decode cX11_slip 25 = .ok (.bipush 8, 2) := by decide +kernel
theorem dX11_slip_27 : decode cX11_slip 27 = .ok (.invokevirtual 124, 3) := by decide +kernel
theorem dX11_slip_30 : decode cX11_slip 30 = .ok (.ireturn, 1) := by decide +kernel
noncomputable def f_X11_slip (σ : am_H) : Option (Int32 × am_H) :=
  if (σ.1 0 0 4) = 0 then
   ((f_X11_none 8 σ).bind fun p2 =>
   some (p2.1, p2.2))
  else
  (f_X11_answer (σ.1 0 0 6) σ).bind fun p3 =>
  some (p3.1, p3.2)
set_option maxRecDepth 100000 in
set_option maxHeartbeats 4000000 in
theorem q_X11_slip {X : am_X} (hX : am_wC X) {Q : Option Value → am_H → Prop} (σ : am_H) {o : Int32 × am_H} (hf : f_X11_slip σ = some o) (hk : Q (some (.int o.1)) o.2) : am_G X gm_X11_slip Q 0 [(0, .ref (am_ad X 11 0))] [] σ := by
  unfold f_X11_slip at hf
  refine g_aload_n (pc := 0) 0 rfl dX11_slip_0 rfl ?_
  refine g_getC (pc := 1) (e := 0) (in_11 hX.1 (by omega)) fr_X11_89 dX11_slip_1 rfl ?_
  refine g_getZ (pc := 4) (in_0 hX.1 (by omega)) fr_X11_334 dX11_slip_4 ?_
  refine bz_eq (pc := 7) 24 dX11_slip_7 rfl (fun c1 => ?_) (fun c1 => ?_)
  · replace hf := am_ifT c1 hf
    refine g_aload_n (pc := 24) 0 rfl dX11_slip_24 rfl ?_
    refine g_bipush (pc := 25) (v := 8) dX11_slip_25 (by decide) ?_
    obtain ⟨p2, hp2, hf⟩ := am_bd hf
    refine g_cV (pc := 27) (As := [.int 8]) (st := []) (st1 := [.int p2.1]) (in_11 hX.1 (by omega)) kk_11 mV_X11_none ln_X11_124 rfl (Nat.le_of_ble_eq_true rfl) (Nat.le_of_ble_eq_true rfl) (k_X11_none hX 8 σ hp2) dX11_slip_27 rfl rfl ?_
    have ho := Option.some.inj hf
    subst ho
    exact g_ireturn (pc := 30) (st := []) rfl dX11_slip_30 hk
  replace hf := am_ifF c1 hf
  refine g_aload_n (pc := 10) 0 rfl dX11_slip_10 rfl ?_
  refine g_aload_n (pc := 11) 0 rfl dX11_slip_11 rfl ?_
  refine g_getC (pc := 12) (e := 0) (in_11 hX.1 (by omega)) fr_X11_89 dX11_slip_12 rfl ?_
  refine g_getI (pc := 15) (in_0 hX.1 (by omega)) fr_X11_338 dX11_slip_15 ?_
  obtain ⟨p3, hp3, hf⟩ := am_bd hf
  refine g_cV (pc := 18) (As := [.int (σ.1 0 0 6)]) (st := []) (st1 := [.int p3.1]) (in_11 hX.1 (by omega)) kk_11 mV_X11_answer ln_X11_176 rfl (Nat.le_of_ble_eq_true rfl) (Nat.le_of_ble_eq_true rfl) (k_X11_answer hX (σ.1 0 0 6) σ hp3) dX11_slip_18 rfl rfl ?_
  refine g_goto (pc := 21) 30 dX11_slip_21 rfl ?_
  have ho := Option.some.inj hf
  subst ho
  exact g_ireturn (pc := 30) (st := []) rfl dX11_slip_30 hk
theorem k_X11_slip {X : am_X} (hX : am_wC X) (σ : am_H) {o : Int32 × am_H} (hf : f_X11_slip σ = some o) : am_C X gm_X11_slip [.ref (am_ad X 11 0)] σ (am_is (some (.int o.1)) o.2) :=
  am_ofG rfl (Nat.le_of_ble_eq_true rfl) rfl (q_X11_slip hX σ hf ⟨rfl, rfl⟩)
theorem dX11_neighbour_0 : decode cX11_neighbour 0 = .ok (.aload_n 0, 1) := by decide +kernel
theorem dX11_neighbour_1 : decode cX11_neighbour 1 = .ok (.iload_n 1, 1) := by decide +kernel
theorem dX11_neighbour_2 : decode cX11_neighbour 2 = .ok (.iload_n 2, 1) := by decide +kernel
theorem dX11_neighbour_3 : decode cX11_neighbour 3 = .ok (.iload_n 3, 1) := by decide +kernel
theorem dX11_neighbour_4 : decode cX11_neighbour 4 = .ok (.iload 4, 2) := by decide +kernel
theorem dX11_neighbour_6 : decode cX11_neighbour 6 = .ok (.iconst 1, 1) := by decide +kernel
theorem dX11_neighbour_7 : decode cX11_neighbour 7 = .ok (.invokevirtual 323, 3) := by decide +kernel
theorem dX11_neighbour_10 : decode cX11_neighbour 10 = .ok (.istore 5, 2) := by decide +kernel
theorem dX11_neighbour_12 : decode cX11_neighbour 12 = .ok (.iload 5, 2) := by decide +kernel
theorem dX11_neighbour_14 : decode cX11_neighbour 14 = .ok (.ifCond .eq 10, 3) := by decide +kernel
theorem dX11_neighbour_17 : decode cX11_neighbour 17 = .ok (.aload_n 0, 1) := by decide +kernel
theorem dX11_neighbour_18 : decode cX11_neighbour 18 = .ok (.iload 5, 2) := by decide +kernel
theorem dX11_neighbour_20 : decode cX11_neighbour 20 = .ok (.invokevirtual 124, 3) := by decide +kernel
theorem dX11_neighbour_23 : decode cX11_neighbour 23 = .ok (.ireturn, 1) := by decide +kernel
theorem dX11_neighbour_24 : decode cX11_neighbour 24 = .ok (.aload_n 0, 1) := by decide +kernel
theorem dX11_neighbour_25 : decode cX11_neighbour 25 = .ok (.getfield 89, 3) := by decide +kernel
theorem dX11_neighbour_28 : decode cX11_neighbour 28 = .ok (.aload_n 0, 1) := by decide +kernel
theorem dX11_neighbour_29 : decode cX11_neighbour 29 = .ok (.getfield 36, 3) := by decide +kernel
theorem dX11_neighbour_32 : decode cX11_neighbour 32 = .ok (.iload_n 1, 1) := by decide +kernel
theorem dX11_neighbour_33 : decode cX11_neighbour 33 = .ok (.aaload, 1) := by decide +kernel
theorem dX11_neighbour_34 : decode cX11_neighbour 34 = .ok (.aload_n 0, 1) := by decide +kernel
theorem dX11_neighbour_35 : decode cX11_neighbour 35 = .ok (.getfield 79, 3) := by decide +kernel
theorem dX11_neighbour_38 : decode cX11_neighbour 38 = .ok (.invokevirtual 341, 3) := by decide +kernel
theorem dX11_neighbour_41 : decode cX11_neighbour 41 = .ok (.aload_n 0, 1) := by decide +kernel
theorem dX11_neighbour_42 : decode cX11_neighbour 42 = .ok (.aload_n 0, 1) := by decide +kernel
theorem dX11_neighbour_43 : decode cX11_neighbour 43 = .ok (.getfield 89, 3) := by decide +kernel
theorem dX11_neighbour_46 : decode cX11_neighbour 46 = .ok (.getfield 345, 3) := by decide +kernel
theorem dX11_neighbour_49 : decode cX11_neighbour 49 = .ok (.invokevirtual 176, 3) := by decide +kernel
theorem dX11_neighbour_52 : decode cX11_neighbour 52 = .ok (.ireturn, 1) := by decide +kernel
noncomputable def f_X11_neighbour (v1 : Int32) (v2 : Int32) (v3 : Int32) (v4 : Int32) (σ : am_H) : Option (Int32 × am_H) :=
  (f_X11_whyNoGauge v1 v2 v3 v4 true σ).bind fun p1 =>
  if p1.1 = 0 then
   ((am_ix 2 v1).bind fun j3 =>
   (am_rr 3 (p1.2.2.2 1205 0 j3)).bind fun a4 =>
   (f_X0_findNeighbour a4 0 p1.2).bind fun p5 =>
   (f_X11_answer (p5.1 0 0 7) p5).bind fun p6 =>
   some (p6.1, p6.2))
  else
  (f_X11_none p1.1 p1.2).bind fun p7 =>
  some (p7.1, p7.2)
set_option maxRecDepth 100000 in
set_option maxHeartbeats 4000000 in
theorem q_X11_neighbour {X : am_X} (hX : am_wC X) {Q : Option Value → am_H → Prop} (v1 : Int32) (v2 : Int32) (v3 : Int32) (v4 : Int32) (σ : am_H) {o : Int32 × am_H} (hf : f_X11_neighbour v1 v2 v3 v4 σ = some o) (hk : Q (some (.int o.1)) o.2) : am_G X gm_X11_neighbour Q 0 [(0, .ref (am_ad X 11 0)), (1, .int v1), (2, .int v2), (3, .int v3), (4, .int v4)] [] σ := by
  unfold f_X11_neighbour at hf
  refine g_aload_n (pc := 0) 0 rfl dX11_neighbour_0 rfl ?_
  refine g_iload_n (pc := 1) 1 rfl dX11_neighbour_1 rfl ?_
  refine g_iload_n (pc := 2) 2 rfl dX11_neighbour_2 rfl ?_
  refine g_iload_n (pc := 3) 3 rfl dX11_neighbour_3 rfl ?_
  refine g_iload (pc := 4) 4 rfl dX11_neighbour_4 ?_
  refine g_iconst (pc := 6) (v := 1) dX11_neighbour_6 (by decide) ?_
  obtain ⟨p1, hp1, hf⟩ := am_bd hf
  refine g_cV (pc := 7) (As := [.int v1, .int v2, .int v3, .int v4, .int (am_b true)]) (st := []) (st1 := [.int p1.1]) (in_11 hX.1 (by omega)) kk_11 mV_X11_whyNoGauge ln_X11_323 rfl (Nat.le_of_ble_eq_true rfl) (Nat.le_of_ble_eq_true rfl) (k_X11_whyNoGauge hX v1 v2 v3 v4 true σ hp1) dX11_neighbour_7 rfl rfl ?_
  refine g_istore (pc := 10) [(5, .int p1.1), (0, .ref (am_ad X 11 0)), (1, .int v1), (2, .int v2), (3, .int v3), (4, .int v4)] dX11_neighbour_10 (Nat.le_of_ble_eq_true rfl) rfl ?_
  refine g_iload (pc := 12) 0 rfl dX11_neighbour_12 ?_
  refine bz_eq (pc := 14) 24 dX11_neighbour_14 rfl (fun c2 => ?_) (fun c2 => ?_)
  · replace hf := am_ifT c2 hf
    refine g_aload_n (pc := 24) 1 rfl dX11_neighbour_24 rfl ?_
    refine g_getC (pc := 25) (e := 0) (in_11 hX.1 (by omega)) fr_X11_89 dX11_neighbour_25 rfl ?_
    refine g_aload_n (pc := 28) 1 rfl dX11_neighbour_28 rfl ?_
    refine g_getC (pc := 29) (e := 0) (in_11 hX.1 (by omega)) fr_X11_36 dX11_neighbour_29 rfl ?_
    refine g_iload_n (pc := 32) 2 rfl dX11_neighbour_32 rfl ?_
    obtain ⟨j3, hj3, hf⟩ := am_bd hf
    have gj3 := am_ix_lt hj3
    obtain ⟨a4, ha4, hf⟩ := am_bd hf
    obtain ⟨ha4, ga4⟩ := am_rr_in ha4
    refine g_aM (pc := 33) (in_1205 hX.1 (by omega)) ak_1205 hj3 ha4 dX11_neighbour_33 ?_
    refine g_aload_n (pc := 34) 1 rfl dX11_neighbour_34 rfl ?_
    refine g_getC (pc := 35) (e := 0) (in_11 hX.1 (by omega)) fr_X11_79 dX11_neighbour_35 rfl ?_
    obtain ⟨p5, hp5, hf⟩ := am_bd hf
    refine g_cV (pc := 38) (As := [.ref (am_ad X 3 a4), .ref (am_ad X 1 0)]) (st := []) (st1 := []) (in_0 hX.1 (by omega)) kk_0 mV_X0_findNeighbour ln_X11_341 rfl (Nat.le_of_ble_eq_true rfl) (Nat.le_of_ble_eq_true rfl) (k_X0_findNeighbour hX a4 0 (by omega) (by omega) p1.2 hp5) dX11_neighbour_38 rfl rfl ?_
    refine g_aload_n (pc := 41) 1 rfl dX11_neighbour_41 rfl ?_
    refine g_aload_n (pc := 42) 1 rfl dX11_neighbour_42 rfl ?_
    refine g_getC (pc := 43) (e := 0) (in_11 hX.1 (by omega)) fr_X11_89 dX11_neighbour_43 rfl ?_
    refine g_getI (pc := 46) (in_0 hX.1 (by omega)) fr_X11_345 dX11_neighbour_46 ?_
    obtain ⟨p6, hp6, hf⟩ := am_bd hf
    refine g_cV (pc := 49) (As := [.int (p5.1 0 0 7)]) (st := []) (st1 := [.int p6.1]) (in_11 hX.1 (by omega)) kk_11 mV_X11_answer ln_X11_176 rfl (Nat.le_of_ble_eq_true rfl) (Nat.le_of_ble_eq_true rfl) (k_X11_answer hX (p5.1 0 0 7) p5 hp6) dX11_neighbour_49 rfl rfl ?_
    have ho := Option.some.inj hf
    subst ho
    exact g_ireturn (pc := 52) (st := []) rfl dX11_neighbour_52 hk
  replace hf := am_ifF c2 hf
  refine g_aload_n (pc := 17) 1 rfl dX11_neighbour_17 rfl ?_
  refine g_iload (pc := 18) 0 rfl dX11_neighbour_18 ?_
  obtain ⟨p7, hp7, hf⟩ := am_bd hf
  refine g_cV (pc := 20) (As := [.int p1.1]) (st := []) (st1 := [.int p7.1]) (in_11 hX.1 (by omega)) kk_11 mV_X11_none ln_X11_124 rfl (Nat.le_of_ble_eq_true rfl) (Nat.le_of_ble_eq_true rfl) (k_X11_none hX p1.1 p1.2 hp7) dX11_neighbour_20 rfl rfl ?_
  have ho := Option.some.inj hf
  subst ho
  exact g_ireturn (pc := 23) (st := []) rfl dX11_neighbour_23 hk
theorem k_X11_neighbour {X : am_X} (hX : am_wC X) (v1 : Int32) (v2 : Int32) (v3 : Int32) (v4 : Int32) (σ : am_H) {o : Int32 × am_H} (hf : f_X11_neighbour v1 v2 v3 v4 σ = some o) : am_C X gm_X11_neighbour [.ref (am_ad X 11 0), .int v1, .int v2, .int v3, .int v4] σ (am_is (some (.int o.1)) o.2) :=
  am_ofG rfl (Nat.le_of_ble_eq_true rfl) rfl (q_X11_neighbour hX v1 v2 v3 v4 σ hf ⟨rfl, rfl⟩)
theorem dX11_lag_0 : decode cX11_lag 0 = .ok (.aload_n 0, 1) := by decide +kernel
theorem dX11_lag_1 : decode cX11_lag 1 = .ok (.getfield 89, 3) := by decide +kernel
theorem dX11_lag_4 : decode cX11_lag 4 = .ok (.getfield 345, 3) := by decide +kernel
theorem dX11_lag_7 : decode cX11_lag 7 = .ok (.iconst (-1), 1) := by decide +kernel
theorem dX11_lag_8 : decode cX11_lag 8 = .ok (.if_icmp .ne 12, 3) := by decide +kernel
theorem dX11_lag_11 : decode cX11_lag 11 = .ok (.aload_n 0, 1) := by decide +kernel
theorem dX11_lag_12 : decode cX11_lag 12 = .ok (.bipush 8, 2) := by decide +kernel
theorem dX11_lag_14 : decode cX11_lag 14 = .ok (.invokevirtual 124, 3) := by decide +kernel
theorem dX11_lag_17 : decode cX11_lag 17 = .ok (.goto 14, 3) := by decide +kernel
theorem dX11_lag_20 : decode cX11_lag 20 = .ok (.aload_n 0, 1) := by decide +kernel
theorem dX11_lag_21 : decode cX11_lag 21 = .ok (.aload_n 0, 1) := by decide +kernel
theorem dX11_lag_22 : decode cX11_lag 22 = .ok (.getfield 89, 3) := by decide +kernel
theorem dX11_lag_25 : decode cX11_lag 25 = .ok (.getfield 348, 3) := by decide +kernel
theorem dX11_lag_28 : decode cX11_lag 28 = .ok (.invokevirtual 176, 3) := by decide +kernel
theorem dX11_lag_31 : decode cX11_lag 31 = .ok (.ireturn, 1) := by decide +kernel
noncomputable def f_X11_lag (σ : am_H) : Option (Int32 × am_H) :=
  if (σ.1 0 0 7) = (-1) then
   ((f_X11_none 8 σ).bind fun p2 =>
   some (p2.1, p2.2))
  else
  (f_X11_answer (σ.1 0 0 8) σ).bind fun p3 =>
  some (p3.1, p3.2)
set_option maxRecDepth 100000 in
set_option maxHeartbeats 4000000 in
theorem q_X11_lag {X : am_X} (hX : am_wC X) {Q : Option Value → am_H → Prop} (σ : am_H) {o : Int32 × am_H} (hf : f_X11_lag σ = some o) (hk : Q (some (.int o.1)) o.2) : am_G X gm_X11_lag Q 0 [(0, .ref (am_ad X 11 0))] [] σ := by
  unfold f_X11_lag at hf
  refine g_aload_n (pc := 0) 0 rfl dX11_lag_0 rfl ?_
  refine g_getC (pc := 1) (e := 0) (in_11 hX.1 (by omega)) fr_X11_89 dX11_lag_1 rfl ?_
  refine g_getI (pc := 4) (in_0 hX.1 (by omega)) fr_X11_345 dX11_lag_4 ?_
  refine g_iconst (pc := 7) (v := (-1)) dX11_lag_7 (by decide) ?_
  refine bi_ne (pc := 8) 20 dX11_lag_8 rfl (fun c1 => ?_) (fun c1 => ?_)
  · replace hf := am_ifT c1 hf
    refine g_aload_n (pc := 11) 0 rfl dX11_lag_11 rfl ?_
    refine g_bipush (pc := 12) (v := 8) dX11_lag_12 (by decide) ?_
    obtain ⟨p2, hp2, hf⟩ := am_bd hf
    refine g_cV (pc := 14) (As := [.int 8]) (st := []) (st1 := [.int p2.1]) (in_11 hX.1 (by omega)) kk_11 mV_X11_none ln_X11_124 rfl (Nat.le_of_ble_eq_true rfl) (Nat.le_of_ble_eq_true rfl) (k_X11_none hX 8 σ hp2) dX11_lag_14 rfl rfl ?_
    refine g_goto (pc := 17) 31 dX11_lag_17 rfl ?_
    have ho := Option.some.inj hf
    subst ho
    exact g_ireturn (pc := 31) (st := []) rfl dX11_lag_31 hk
  replace hf := am_ifF c1 hf
  refine g_aload_n (pc := 20) 0 rfl dX11_lag_20 rfl ?_
  refine g_aload_n (pc := 21) 0 rfl dX11_lag_21 rfl ?_
  refine g_getC (pc := 22) (e := 0) (in_11 hX.1 (by omega)) fr_X11_89 dX11_lag_22 rfl ?_
  refine g_getI (pc := 25) (in_0 hX.1 (by omega)) fr_X11_348 dX11_lag_25 ?_
  obtain ⟨p3, hp3, hf⟩ := am_bd hf
  refine g_cV (pc := 28) (As := [.int (σ.1 0 0 8)]) (st := []) (st1 := [.int p3.1]) (in_11 hX.1 (by omega)) kk_11 mV_X11_answer ln_X11_176 rfl (Nat.le_of_ble_eq_true rfl) (Nat.le_of_ble_eq_true rfl) (k_X11_answer hX (σ.1 0 0 8) σ hp3) dX11_lag_28 rfl rfl ?_
  have ho := Option.some.inj hf
  subst ho
  exact g_ireturn (pc := 31) (st := []) rfl dX11_lag_31 hk
theorem k_X11_lag {X : am_X} (hX : am_wC X) (σ : am_H) {o : Int32 × am_H} (hf : f_X11_lag σ = some o) : am_C X gm_X11_lag [.ref (am_ad X 11 0)] σ (am_is (some (.int o.1)) o.2) :=
  am_ofG rfl (Nat.le_of_ble_eq_true rfl) rfl (q_X11_lag hX σ hf ⟨rfl, rfl⟩)
theorem dX11_led_0 : decode cX11_led 0 = .ok (.aload_n 0, 1) := by decide +kernel
theorem dX11_led_1 : decode cX11_led 1 = .ok (.iload_n 1, 1) := by decide +kernel
theorem dX11_led_2 : decode cX11_led 2 = .ok (.iload_n 2, 1) := by decide +kernel
theorem dX11_led_3 : decode cX11_led 3 = .ok (.iload_n 3, 1) := by decide +kernel
theorem dX11_led_4 : decode cX11_led 4 = .ok (.iload 4, 2) := by decide +kernel
theorem dX11_led_6 : decode cX11_led 6 = .ok (.iconst 1, 1) := by decide +kernel
theorem dX11_led_7 : decode cX11_led 7 = .ok (.invokevirtual 323, 3) := by decide +kernel
theorem dX11_led_10 : decode cX11_led 10 = .ok (.istore 5, 2) := by decide +kernel
theorem dX11_led_12 : decode cX11_led 12 = .ok (.iload 5, 2) := by decide +kernel
theorem dX11_led_14 : decode cX11_led 14 = .ok (.ifCond .eq 10, 3) := by decide +kernel
theorem dX11_led_17 : decode cX11_led 17 = .ok (.aload_n 0, 1) := by decide +kernel
theorem dX11_led_18 : decode cX11_led 18 = .ok (.iload 5, 2) := by decide +kernel
theorem dX11_led_20 : decode cX11_led 20 = .ok (.invokevirtual 124, 3) := by decide +kernel
theorem dX11_led_23 : decode cX11_led 23 = .ok (.ireturn, 1) := by decide +kernel
theorem dX11_led_24 : decode cX11_led 24 = .ok (.aload_n 0, 1) := by decide +kernel
theorem dX11_led_25 : decode cX11_led 25 = .ok (.getfield 89, 3) := by decide +kernel
theorem dX11_led_28 : decode cX11_led 28 = .ok (.aload_n 0, 1) := by decide +kernel
theorem dX11_led_29 : decode cX11_led 29 = .ok (.getfield 36, 3) := by decide +kernel
theorem dX11_led_32 : decode cX11_led 32 = .ok (.iload_n 1, 1) := by decide +kernel
theorem dX11_led_33 : decode cX11_led 33 = .ok (.aaload, 1) := by decide +kernel
theorem dX11_led_34 : decode cX11_led 34 = .ok (.aload_n 0, 1) := by decide +kernel
theorem dX11_led_35 : decode cX11_led 35 = .ok (.getfield 79, 3) := by decide +kernel
theorem dX11_led_38 : decode cX11_led 38 = .ok (.invokevirtual 351, 3) := by decide +kernel
theorem dX11_led_41 : decode cX11_led 41 = .ok (.aload_n 0, 1) := by decide +kernel
theorem dX11_led_42 : decode cX11_led 42 = .ok (.aload_n 0, 1) := by decide +kernel
theorem dX11_led_43 : decode cX11_led 43 = .ok (.getfield 89, 3) := by decide +kernel
theorem dX11_led_46 : decode cX11_led 46 = .ok (.getfield 354, 3) := by decide +kernel
theorem dX11_led_49 : decode cX11_led 49 = .ok (.invokevirtual 176, 3) := by decide +kernel
theorem dX11_led_52 : decode cX11_led 52 = .ok (.ireturn, 1) := by decide +kernel
noncomputable def f_X11_led (v1 : Int32) (v2 : Int32) (v3 : Int32) (v4 : Int32) (σ : am_H) : Option (Int32 × am_H) :=
  (f_X11_whyNoGauge v1 v2 v3 v4 true σ).bind fun p1 =>
  if p1.1 = 0 then
   ((am_ix 2 v1).bind fun j3 =>
   (am_rr 3 (p1.2.2.2 1205 0 j3)).bind fun a4 =>
   (f_X0_findWheel a4 0 p1.2).bind fun p5 =>
   (f_X11_answer (p5.1 0 0 9) p5).bind fun p6 =>
   some (p6.1, p6.2))
  else
  (f_X11_none p1.1 p1.2).bind fun p7 =>
  some (p7.1, p7.2)
set_option maxRecDepth 100000 in
set_option maxHeartbeats 4000000 in
theorem q_X11_led {X : am_X} (hX : am_wC X) {Q : Option Value → am_H → Prop} (v1 : Int32) (v2 : Int32) (v3 : Int32) (v4 : Int32) (σ : am_H) {o : Int32 × am_H} (hf : f_X11_led v1 v2 v3 v4 σ = some o) (hk : Q (some (.int o.1)) o.2) : am_G X gm_X11_led Q 0 [(0, .ref (am_ad X 11 0)), (1, .int v1), (2, .int v2), (3, .int v3), (4, .int v4)] [] σ := by
  unfold f_X11_led at hf
  refine g_aload_n (pc := 0) 0 rfl dX11_led_0 rfl ?_
  refine g_iload_n (pc := 1) 1 rfl dX11_led_1 rfl ?_
  refine g_iload_n (pc := 2) 2 rfl dX11_led_2 rfl ?_
  refine g_iload_n (pc := 3) 3 rfl dX11_led_3 rfl ?_
  refine g_iload (pc := 4) 4 rfl dX11_led_4 ?_
  refine g_iconst (pc := 6) (v := 1) dX11_led_6 (by decide) ?_
  obtain ⟨p1, hp1, hf⟩ := am_bd hf
  refine g_cV (pc := 7) (As := [.int v1, .int v2, .int v3, .int v4, .int (am_b true)]) (st := []) (st1 := [.int p1.1]) (in_11 hX.1 (by omega)) kk_11 mV_X11_whyNoGauge ln_X11_323 rfl (Nat.le_of_ble_eq_true rfl) (Nat.le_of_ble_eq_true rfl) (k_X11_whyNoGauge hX v1 v2 v3 v4 true σ hp1) dX11_led_7 rfl rfl ?_
  refine g_istore (pc := 10) [(5, .int p1.1), (0, .ref (am_ad X 11 0)), (1, .int v1), (2, .int v2), (3, .int v3), (4, .int v4)] dX11_led_10 (Nat.le_of_ble_eq_true rfl) rfl ?_
  refine g_iload (pc := 12) 0 rfl dX11_led_12 ?_
  refine bz_eq (pc := 14) 24 dX11_led_14 rfl (fun c2 => ?_) (fun c2 => ?_)
  · replace hf := am_ifT c2 hf
    refine g_aload_n (pc := 24) 1 rfl dX11_led_24 rfl ?_
    refine g_getC (pc := 25) (e := 0) (in_11 hX.1 (by omega)) fr_X11_89 dX11_led_25 rfl ?_
    refine g_aload_n (pc := 28) 1 rfl dX11_led_28 rfl ?_
    refine g_getC (pc := 29) (e := 0) (in_11 hX.1 (by omega)) fr_X11_36 dX11_led_29 rfl ?_
    refine g_iload_n (pc := 32) 2 rfl dX11_led_32 rfl ?_
    obtain ⟨j3, hj3, hf⟩ := am_bd hf
    have gj3 := am_ix_lt hj3
    obtain ⟨a4, ha4, hf⟩ := am_bd hf
    obtain ⟨ha4, ga4⟩ := am_rr_in ha4
    refine g_aM (pc := 33) (in_1205 hX.1 (by omega)) ak_1205 hj3 ha4 dX11_led_33 ?_
    refine g_aload_n (pc := 34) 1 rfl dX11_led_34 rfl ?_
    refine g_getC (pc := 35) (e := 0) (in_11 hX.1 (by omega)) fr_X11_79 dX11_led_35 rfl ?_
    obtain ⟨p5, hp5, hf⟩ := am_bd hf
    refine g_cV (pc := 38) (As := [.ref (am_ad X 3 a4), .ref (am_ad X 1 0)]) (st := []) (st1 := []) (in_0 hX.1 (by omega)) kk_0 mV_X0_findWheel ln_X11_351 rfl (Nat.le_of_ble_eq_true rfl) (Nat.le_of_ble_eq_true rfl) (k_X0_findWheel hX a4 0 (by omega) (by omega) p1.2 hp5) dX11_led_38 rfl rfl ?_
    refine g_aload_n (pc := 41) 1 rfl dX11_led_41 rfl ?_
    refine g_aload_n (pc := 42) 1 rfl dX11_led_42 rfl ?_
    refine g_getC (pc := 43) (e := 0) (in_11 hX.1 (by omega)) fr_X11_89 dX11_led_43 rfl ?_
    refine g_getI (pc := 46) (in_0 hX.1 (by omega)) fr_X11_354 dX11_led_46 ?_
    obtain ⟨p6, hp6, hf⟩ := am_bd hf
    refine g_cV (pc := 49) (As := [.int (p5.1 0 0 9)]) (st := []) (st1 := [.int p6.1]) (in_11 hX.1 (by omega)) kk_11 mV_X11_answer ln_X11_176 rfl (Nat.le_of_ble_eq_true rfl) (Nat.le_of_ble_eq_true rfl) (k_X11_answer hX (p5.1 0 0 9) p5 hp6) dX11_led_49 rfl rfl ?_
    have ho := Option.some.inj hf
    subst ho
    exact g_ireturn (pc := 52) (st := []) rfl dX11_led_52 hk
  replace hf := am_ifF c2 hf
  refine g_aload_n (pc := 17) 1 rfl dX11_led_17 rfl ?_
  refine g_iload (pc := 18) 0 rfl dX11_led_18 ?_
  obtain ⟨p7, hp7, hf⟩ := am_bd hf
  refine g_cV (pc := 20) (As := [.int p1.1]) (st := []) (st1 := [.int p7.1]) (in_11 hX.1 (by omega)) kk_11 mV_X11_none ln_X11_124 rfl (Nat.le_of_ble_eq_true rfl) (Nat.le_of_ble_eq_true rfl) (k_X11_none hX p1.1 p1.2 hp7) dX11_led_20 rfl rfl ?_
  have ho := Option.some.inj hf
  subst ho
  exact g_ireturn (pc := 23) (st := []) rfl dX11_led_23 hk
theorem k_X11_led {X : am_X} (hX : am_wC X) (v1 : Int32) (v2 : Int32) (v3 : Int32) (v4 : Int32) (σ : am_H) {o : Int32 × am_H} (hf : f_X11_led v1 v2 v3 v4 σ = some o) : am_C X gm_X11_led [.ref (am_ad X 11 0), .int v1, .int v2, .int v3, .int v4] σ (am_is (some (.int o.1)) o.2) :=
  am_ofG rfl (Nat.le_of_ble_eq_true rfl) rfl (q_X11_led hX v1 v2 v3 v4 σ hf ⟨rfl, rfl⟩)
theorem dX11_wheel_0 : decode cX11_wheel 0 = .ok (.iload_n 1, 1) := by decide +kernel
theorem dX11_wheel_1 : decode cX11_wheel 1 = .ok (.iconst 0, 1) := by decide +kernel
theorem dX11_wheel_2 : decode cX11_wheel 2 = .ok (.iconst 1, 1) := by decide +kernel
theorem dX11_wheel_3 : decode cX11_wheel 3 = .ok (.invokestatic 222, 3) := by decide +kernel
theorem dX11_wheel_6 : decode cX11_wheel 6 = .ok (.ifCond .ne 9, 3) := by decide +kernel
theorem dX11_wheel_9 : decode cX11_wheel 9 = .ok (.aload_n 0, 1) := by decide +kernel
theorem dX11_wheel_10 : decode cX11_wheel 10 = .ok (.iconst 5, 1) := by decide +kernel
theorem dX11_wheel_11 : decode cX11_wheel 11 = .ok (.invokevirtual 124, 3) := by decide +kernel
theorem dX11_wheel_14 : decode cX11_wheel 14 = .ok (.ireturn, 1) := by decide +kernel
theorem dX11_wheel_15 : decode cX11_wheel 15 = .ok (.aload_n 0, 1) := by decide +kernel
theorem dX11_wheel_16 : decode cX11_wheel 16 = .ok (.getfield 89, 3) := by decide +kernel
theorem dX11_wheel_19 : decode cX11_wheel 19 = .ok (.getfield 354, 3) := by decide +kernel
theorem dX11_wheel_22 : decode cX11_wheel 22 = .ok (.iconst (-1), 1) := by decide +kernel
theorem dX11_wheel_23 : decode cX11_wheel 23 = .ok (.if_icmp .ne 10, 3) := by decide +kernel
theorem dX11_wheel_26 : decode cX11_wheel 26 = .ok (.aload_n 0, 1) := by decide +kernel
theorem dX11_wheel_27 : decode cX11_wheel 27 = .ok (.bipush 8, 2) := by decide +kernel
theorem dX11_wheel_29 : decode cX11_wheel 29 = .ok (.invokevirtual 124, 3) := by decide +kernel
theorem dX11_wheel_32 : decode cX11_wheel 32 = .ok (.ireturn, 1) := by decide +kernel
theorem dX11_wheel_33 : decode cX11_wheel 33 = .ok (.iload_n 1, 1) := by decide +kernel
theorem dX11_wheel_34 : decode cX11_wheel 34 = .ok (.ifCond .ne 15, 3) := by decide +kernel
theorem dX11_wheel_37 : decode cX11_wheel 37 = .ok (.aload_n 0, 1) := by decide +kernel
theorem dX11_wheel_38 : decode cX11_wheel 38 = .ok (.aload_n 0, 1) := by decide +kernel
theorem dX11_wheel_39 : decode cX11_wheel 39 = .ok (.getfield 89, 3) := by decide +kernel
theorem dX11_wheel_42 : decode cX11_wheel 42 = .ok (.getfield 357, 3) := by decide +kernel
theorem dX11_wheel_45 : decode cX11_wheel 45 = .ok (.invokevirtual 176, 3) := by decide +kernel
theorem dX11_wheel_48 : decode cX11_wheel 48 = .ok (.ireturn, 1) := by decide +kernel
theorem dX11_wheel_49 : decode cX11_wheel 49 = .ok (.aload_n 0, 1) := by decide +kernel
theorem dX11_wheel_50 : decode cX11_wheel 50 = .ok (.aload_n 0, 1) := by decide +kernel
theorem dX11_wheel_51 : decode cX11_wheel 51 = .ok (.getfield 89, 3) := by decide +kernel
theorem dX11_wheel_54 : decode cX11_wheel 54 = .ok (.getfield 360, 3) := by decide +kernel
theorem dX11_wheel_57 : decode cX11_wheel 57 = .ok (.ifCond .eq 7, 3) := by decide +kernel
theorem dX11_wheel_60 : decode cX11_wheel 60 = .ok (.iconst 1, 1) := by decide +kernel
theorem dX11_wheel_61 : decode cX11_wheel 61 = .ok (.goto 4, 3) := by decide +kernel
theorem dX11_wheel_64 : decode cX11_wheel 64 = .ok (.iconst 0, 1) := by decide +kernel
theorem dX11_wheel_65 : decode cX11_wheel 65 = .ok (.invokevirtual 176, 3) := by decide +kernel
theorem dX11_wheel_68 : decode cX11_wheel 68 = .ok (.ireturn, 1) := by decide +kernel
noncomputable def f_X11_wheel_65 (k1 : Bool) (σ : am_H) : Option (Int32 × am_H) :=
  (f_X11_answer (am_b k1) σ).bind fun p1 =>
  some (p1.1, p1.2)
set_option maxRecDepth 100000 in
set_option maxHeartbeats 4000000 in
theorem q_X11_wheel_65 {X : am_X} (hX : am_wC X) {Q : Option Value → am_H → Prop} (k1 : Bool) (σ : am_H) {o : Int32 × am_H} (hf : f_X11_wheel_65 k1 σ = some o) (hk : Q (some (.int o.1)) o.2) : am_G X gm_X11_wheel Q 65 [] [.int (am_b k1), .ref (am_ad X 11 0)] σ := by
  unfold f_X11_wheel_65 at hf
  obtain ⟨p1, hp1, hf⟩ := am_bd hf
  refine g_cV (pc := 65) (As := [.int (am_b k1)]) (st := []) (st1 := [.int p1.1]) (in_11 hX.1 (by omega)) kk_11 mV_X11_answer ln_X11_176 rfl (Nat.le_of_ble_eq_true rfl) (Nat.le_of_ble_eq_true rfl) (k_X11_answer hX (am_b k1) σ hp1) dX11_wheel_65 rfl rfl ?_
  have ho := Option.some.inj hf
  subst ho
  exact g_ireturn (pc := 68) (st := []) rfl dX11_wheel_68 hk
noncomputable def f_X11_wheel (v1 : Int32) (σ : am_H) : Option (Int32 × am_H) :=
  (f_X11_isWithin v1 0 1 σ).bind fun p1 =>
  if p1 = true then
   (if (σ.1 0 0 9) = (-1) then
    ((f_X11_none 8 σ).bind fun p4 =>
    some (p4.1, p4.2))
   else
   if v1 = 0 then
    ((f_X11_answer (σ.1 0 0 10) σ).bind fun p6 =>
    some (p6.1, p6.2))
   else
   if (σ.1 0 0 11) = 0 then
    (f_X11_wheel_65 false σ)
   else
   f_X11_wheel_65 true σ)
  else
  (f_X11_none 5 σ).bind fun p8 =>
  some (p8.1, p8.2)
set_option maxRecDepth 100000 in
set_option maxHeartbeats 4000000 in
theorem q_X11_wheel {X : am_X} (hX : am_wC X) {Q : Option Value → am_H → Prop} (v1 : Int32) (σ : am_H) {o : Int32 × am_H} (hf : f_X11_wheel v1 σ = some o) (hk : Q (some (.int o.1)) o.2) : am_G X gm_X11_wheel Q 0 [(0, .ref (am_ad X 11 0)), (1, .int v1)] [] σ := by
  unfold f_X11_wheel at hf
  refine g_iload_n (pc := 0) 1 rfl dX11_wheel_0 rfl ?_
  refine g_iconst (pc := 1) (v := 0) dX11_wheel_1 (by decide) ?_
  refine g_iconst (pc := 2) (v := 1) dX11_wheel_2 (by decide) ?_
  obtain ⟨p1, hp1, hf⟩ := am_bd hf
  refine g_cS (pc := 3) (As := [.int v1, .int 0, .int 1]) (st := []) (st1 := [.int (am_b p1)]) mS_X11_isWithin ln_X11_222 rfl (Nat.le_of_ble_eq_true rfl) (Nat.le_of_ble_eq_true rfl) (k_X11_isWithin hX v1 0 1 σ hp1) dX11_wheel_3 rfl rfl ?_
  refine bt_ne (pc := 6) 15 dX11_wheel_6 rfl (fun c2 => ?_) (fun c2 => ?_)
  · replace hf := am_ifT c2 hf
    refine g_aload_n (pc := 15) 0 rfl dX11_wheel_15 rfl ?_
    refine g_getC (pc := 16) (e := 0) (in_11 hX.1 (by omega)) fr_X11_89 dX11_wheel_16 rfl ?_
    refine g_getI (pc := 19) (in_0 hX.1 (by omega)) fr_X11_354 dX11_wheel_19 ?_
    refine g_iconst (pc := 22) (v := (-1)) dX11_wheel_22 (by decide) ?_
    refine bi_ne (pc := 23) 33 dX11_wheel_23 rfl (fun c3 => ?_) (fun c3 => ?_)
    · replace hf := am_ifT c3 hf
      refine g_aload_n (pc := 26) 0 rfl dX11_wheel_26 rfl ?_
      refine g_bipush (pc := 27) (v := 8) dX11_wheel_27 (by decide) ?_
      obtain ⟨p4, hp4, hf⟩ := am_bd hf
      refine g_cV (pc := 29) (As := [.int 8]) (st := []) (st1 := [.int p4.1]) (in_11 hX.1 (by omega)) kk_11 mV_X11_none ln_X11_124 rfl (Nat.le_of_ble_eq_true rfl) (Nat.le_of_ble_eq_true rfl) (k_X11_none hX 8 σ hp4) dX11_wheel_29 rfl rfl ?_
      have ho := Option.some.inj hf
      subst ho
      exact g_ireturn (pc := 32) (st := []) rfl dX11_wheel_32 hk
    replace hf := am_ifF c3 hf
    refine g_iload_n (pc := 33) 1 rfl dX11_wheel_33 rfl ?_
    refine bz_ne (pc := 34) 49 dX11_wheel_34 rfl (fun c5 => ?_) (fun c5 => ?_)
    · replace hf := am_ifT c5 hf
      refine g_aload_n (pc := 37) 0 rfl dX11_wheel_37 rfl ?_
      refine g_aload_n (pc := 38) 0 rfl dX11_wheel_38 rfl ?_
      refine g_getC (pc := 39) (e := 0) (in_11 hX.1 (by omega)) fr_X11_89 dX11_wheel_39 rfl ?_
      refine g_getI (pc := 42) (in_0 hX.1 (by omega)) fr_X11_357 dX11_wheel_42 ?_
      obtain ⟨p6, hp6, hf⟩ := am_bd hf
      refine g_cV (pc := 45) (As := [.int (σ.1 0 0 10)]) (st := []) (st1 := [.int p6.1]) (in_11 hX.1 (by omega)) kk_11 mV_X11_answer ln_X11_176 rfl (Nat.le_of_ble_eq_true rfl) (Nat.le_of_ble_eq_true rfl) (k_X11_answer hX (σ.1 0 0 10) σ hp6) dX11_wheel_45 rfl rfl ?_
      have ho := Option.some.inj hf
      subst ho
      exact g_ireturn (pc := 48) (st := []) rfl dX11_wheel_48 hk
    replace hf := am_ifF c5 hf
    refine g_aload_n (pc := 49) 0 rfl dX11_wheel_49 rfl ?_
    refine g_aload_n (pc := 50) 0 rfl dX11_wheel_50 rfl ?_
    refine g_getC (pc := 51) (e := 0) (in_11 hX.1 (by omega)) fr_X11_89 dX11_wheel_51 rfl ?_
    refine g_getZ (pc := 54) (in_0 hX.1 (by omega)) fr_X11_360 dX11_wheel_54 ?_
    refine bz_eq (pc := 57) 64 dX11_wheel_57 rfl (fun c7 => ?_) (fun c7 => ?_)
    · replace hf := am_ifT c7 hf
      refine g_iconst (pc := 64) (v := 0) dX11_wheel_64 (by decide) ?_
      exact am_sub [] rfl (q_X11_wheel_65 hX false σ hf hk)
    replace hf := am_ifF c7 hf
    refine g_iconst (pc := 60) (v := 1) dX11_wheel_60 (by decide) ?_
    refine g_goto (pc := 61) 65 dX11_wheel_61 rfl ?_
    exact am_sub [] rfl (q_X11_wheel_65 hX true σ hf hk)
  replace hf := am_ifF c2 hf
  refine g_aload_n (pc := 9) 0 rfl dX11_wheel_9 rfl ?_
  refine g_iconst (pc := 10) (v := 5) dX11_wheel_10 (by decide) ?_
  obtain ⟨p8, hp8, hf⟩ := am_bd hf
  refine g_cV (pc := 11) (As := [.int 5]) (st := []) (st1 := [.int p8.1]) (in_11 hX.1 (by omega)) kk_11 mV_X11_none ln_X11_124 rfl (Nat.le_of_ble_eq_true rfl) (Nat.le_of_ble_eq_true rfl) (k_X11_none hX 5 σ hp8) dX11_wheel_11 rfl rfl ?_
  have ho := Option.some.inj hf
  subst ho
  exact g_ireturn (pc := 14) (st := []) rfl dX11_wheel_14 hk
theorem k_X11_wheel {X : am_X} (hX : am_wC X) (v1 : Int32) (σ : am_H) {o : Int32 × am_H} (hf : f_X11_wheel v1 σ = some o) : am_C X gm_X11_wheel [.ref (am_ad X 11 0), .int v1] σ (am_is (some (.int o.1)) o.2) :=
  am_ofG rfl (Nat.le_of_ble_eq_true rfl) rfl (q_X11_wheel hX v1 σ hf ⟨rfl, rfl⟩)
theorem dX11_extreme_0 : decode cX11_extreme 0 = .ok (.aload_n 0, 1) := by decide +kernel
theorem dX11_extreme_1 : decode cX11_extreme 1 = .ok (.iload_n 1, 1) := by decide +kernel
theorem dX11_extreme_2 : decode cX11_extreme 2 = .ok (.invokevirtual 159, 3) := by decide +kernel
theorem dX11_extreme_5 : decode cX11_extreme 5 = .ok (.astore 6, 2) := by decide +kernel
theorem dX11_extreme_7 : decode cX11_extreme 7 = .ok (.aload 6, 2) := by decide +kernel
theorem dX11_extreme_9 : decode cX11_extreme 9 = .ok (.ifnonnull 9, 3) := by decide +kernel
theorem dX11_extreme_12 : decode cX11_extreme 12 = .ok (.aload_n 0, 1) := by decide +kernel
theorem dX11_extreme_13 : decode cX11_extreme 13 = .ok (.iconst 2, 1) := by decide +kernel
theorem dX11_extreme_14 : decode cX11_extreme 14 = .ok (.invokevirtual 124, 3) := by decide +kernel
theorem dX11_extreme_17 : decode cX11_extreme 17 = .ok (.ireturn, 1) := by decide +kernel
theorem dX11_extreme_18 : decode cX11_extreme 18 = .ok (.iload_n 2, 1) := by decide +kernel
theorem dX11_extreme_19 : decode cX11_extreme 19 = .ok (.iload_n 3, 1) := by decide +kernel
theorem dX11_extreme_20 : decode cX11_extreme 20 = .ok (.sipush 2000, 3) := by decide +kernel
theorem dX11_extreme_23 : decode cX11_extreme 23 = .ok (.invokestatic 236, 3) := by decide +kernel
theorem dX11_extreme_26 : decode cX11_extreme 26 = .ok (.ifCond .ne 9, 3) := by decide +kernel
theorem dX11_extreme_29 : decode cX11_extreme 29 = .ok (.aload_n 0, 1) := by decide +kernel
theorem dX11_extreme_30 : decode cX11_extreme 30 = .ok (.iconst 5, 1) := by decide +kernel
theorem dX11_extreme_31 : decode cX11_extreme 31 = .ok (.invokevirtual 124, 3) := by decide +kernel
theorem dX11_extreme_34 : decode cX11_extreme 34 = .ok (.ireturn, 1) := by decide +kernel
theorem dX11_extreme_35 : decode cX11_extreme 35 = .ok (.aload_n 0, 1) := by decide +kernel
theorem dX11_extreme_36 : decode cX11_extreme 36 = .ok (.aload 6, 2) := by decide +kernel
theorem dX11_extreme_38 : decode cX11_extreme 38 = .ok (.iload_n 2, 1) := by decide +kernel
theorem dX11_extreme_39 : decode cX11_extreme 39 = .ok (.iload_n 3, 1) := by decide +kernel
theorem dX11_extreme_40 : decode cX11_extreme 40 = .ok (.iload 4, 2) := by decide +kernel
theorem dX11_extreme_42 : decode cX11_extreme 42 = .ok (.iload 5, 2) := by decide +kernel
theorem dX11_extreme_44 : decode cX11_extreme 44 = .ok (.invokevirtual 363, 3) := by decide +kernel
theorem dX11_extreme_47 : decode cX11_extreme 47 = .ok (.invokevirtual 176, 3) := by decide +kernel
theorem dX11_extreme_50 : decode cX11_extreme 50 = .ok (.ireturn, 1) := by decide +kernel
noncomputable def f_X11_extreme (v1 : Int32) (v2 : Int32) (v3 : Int32) (v4 : Bool) (v5 : Bool) (σ : am_H) : Option (Int32 × am_H) :=
  (f_X11_machineOf v1 σ).bind fun p1 =>
  am_nn 3 p1
   ((f_X11_none 2 σ).bind fun p3 =>
   some (p3.1, p3.2))
   (fun a2 =>
   (f_X11_isSpan v2 v3 2000 σ).bind fun p4 =>
   if p4 = true then
    ((f_X3_extremeHour a2 v2 v3 v4 v5 σ).bind fun p6 =>
    (f_X11_answer p6 σ).bind fun p7 =>
    some (p7.1, p7.2))
   else
   (f_X11_none 5 σ).bind fun p8 =>
   some (p8.1, p8.2))
set_option maxRecDepth 100000 in
set_option maxHeartbeats 4000000 in
theorem q_X11_extreme {X : am_X} (hX : am_wC X) {Q : Option Value → am_H → Prop} (v1 : Int32) (v2 : Int32) (v3 : Int32) (v4 : Bool) (v5 : Bool) (σ : am_H) {o : Int32 × am_H} (hf : f_X11_extreme v1 v2 v3 v4 v5 σ = some o) (hk : Q (some (.int o.1)) o.2) : am_G X gm_X11_extreme Q 0 [(0, .ref (am_ad X 11 0)), (1, .int v1), (2, .int v2), (3, .int v3), (4, .int (am_b v4)), (5, .int (am_b v5))] [] σ := by
  unfold f_X11_extreme at hf
  refine g_aload_n (pc := 0) 0 rfl dX11_extreme_0 rfl ?_
  refine g_iload_n (pc := 1) 1 rfl dX11_extreme_1 rfl ?_
  obtain ⟨p1, hp1, hf⟩ := am_bd hf
  have hq := am_nn_c hf
  clear hf
  rcases hq with ⟨ep1, hf⟩ | ⟨a2, ep1, ga2, hf⟩
  · subst ep1
    refine g_cV (pc := 2) (As := [.int v1]) (st := []) (st1 := [.null]) (in_11 hX.1 (by omega)) kk_11 mV_X11_machineOf ln_X11_159 rfl (Nat.le_of_ble_eq_true rfl) (Nat.le_of_ble_eq_true rfl) (k_X11_machineOf hX v1 σ hp1) dX11_extreme_2 rfl rfl ?_
    refine g_astoreN (pc := 5) [(6, .null), (0, .ref (am_ad X 11 0)), (1, .int v1), (2, .int v2), (3, .int v3), (4, .int (am_b v4)), (5, .int (am_b v5))] dX11_extreme_5 (Nat.le_of_ble_eq_true rfl) rfl ?_
    refine g_aloadN (pc := 7) 0 rfl dX11_extreme_7 ?_
    refine g_ifnonnullN (pc := 9) dX11_extreme_9 ?_
    refine g_aload_n (pc := 12) 1 rfl dX11_extreme_12 rfl ?_
    refine g_iconst (pc := 13) (v := 2) dX11_extreme_13 (by decide) ?_
    obtain ⟨p3, hp3, hf⟩ := am_bd hf
    refine g_cV (pc := 14) (As := [.int 2]) (st := []) (st1 := [.int p3.1]) (in_11 hX.1 (by omega)) kk_11 mV_X11_none ln_X11_124 rfl (Nat.le_of_ble_eq_true rfl) (Nat.le_of_ble_eq_true rfl) (k_X11_none hX 2 σ hp3) dX11_extreme_14 rfl rfl ?_
    have ho := Option.some.inj hf
    subst ho
    exact g_ireturn (pc := 17) (st := []) rfl dX11_extreme_17 hk
  · subst ep1
    refine g_cV (pc := 2) (As := [.int v1]) (st := []) (st1 := [.ref (am_ad X 3 a2)]) (in_11 hX.1 (by omega)) kk_11 mV_X11_machineOf ln_X11_159 rfl (Nat.le_of_ble_eq_true rfl) (Nat.le_of_ble_eq_true rfl) (k_X11_machineOf hX v1 σ hp1) dX11_extreme_2 rfl rfl ?_
    refine g_astore (pc := 5) [(6, .ref (am_ad X 3 a2)), (0, .ref (am_ad X 11 0)), (1, .int v1), (2, .int v2), (3, .int v3), (4, .int (am_b v4)), (5, .int (am_b v5))] dX11_extreme_5 (Nat.le_of_ble_eq_true rfl) rfl ?_
    refine g_aload (pc := 7) 0 rfl dX11_extreme_7 ?_
    refine g_ifnonnull (pc := 9) 18 dX11_extreme_9 rfl ?_
    refine g_iload_n (pc := 18) 3 rfl dX11_extreme_18 rfl ?_
    refine g_iload_n (pc := 19) 4 rfl dX11_extreme_19 rfl ?_
    refine g_sipush (pc := 20) (v := 2000) dX11_extreme_20 (by decide) ?_
    obtain ⟨p4, hp4, hf⟩ := am_bd hf
    refine g_cS (pc := 23) (As := [.int v2, .int v3, .int 2000]) (st := []) (st1 := [.int (am_b p4)]) mS_X11_isSpan ln_X11_236 rfl (Nat.le_of_ble_eq_true rfl) (Nat.le_of_ble_eq_true rfl) (k_X11_isSpan hX v2 v3 2000 σ hp4) dX11_extreme_23 rfl rfl ?_
    refine bt_ne (pc := 26) 35 dX11_extreme_26 rfl (fun c5 => ?_) (fun c5 => ?_)
    · replace hf := am_ifT c5 hf
      refine g_aload_n (pc := 35) 1 rfl dX11_extreme_35 rfl ?_
      refine g_aload (pc := 36) 0 rfl dX11_extreme_36 ?_
      refine g_iload_n (pc := 38) 3 rfl dX11_extreme_38 rfl ?_
      refine g_iload_n (pc := 39) 4 rfl dX11_extreme_39 rfl ?_
      refine g_iload (pc := 40) 5 rfl dX11_extreme_40 ?_
      refine g_iload (pc := 42) 6 rfl dX11_extreme_42 ?_
      obtain ⟨p6, hp6, hf⟩ := am_bd hf
      refine g_cV (pc := 44) (As := [.int v2, .int v3, .int (am_b v4), .int (am_b v5)]) (st := [.ref (am_ad X 11 0)]) (st1 := [.int p6, .ref (am_ad X 11 0)]) (in_3 hX.1 (by omega)) kk_3 mV_X3_extremeHour ln_X11_363 rfl (Nat.le_of_ble_eq_true rfl) (Nat.le_of_ble_eq_true rfl) (k_X3_extremeHour hX a2 v2 v3 v4 v5 (by omega) σ hp6) dX11_extreme_44 rfl rfl ?_
      obtain ⟨p7, hp7, hf⟩ := am_bd hf
      refine g_cV (pc := 47) (As := [.int p6]) (st := []) (st1 := [.int p7.1]) (in_11 hX.1 (by omega)) kk_11 mV_X11_answer ln_X11_176 rfl (Nat.le_of_ble_eq_true rfl) (Nat.le_of_ble_eq_true rfl) (k_X11_answer hX p6 σ hp7) dX11_extreme_47 rfl rfl ?_
      have ho := Option.some.inj hf
      subst ho
      exact g_ireturn (pc := 50) (st := []) rfl dX11_extreme_50 hk
    replace hf := am_ifF c5 hf
    refine g_aload_n (pc := 29) 1 rfl dX11_extreme_29 rfl ?_
    refine g_iconst (pc := 30) (v := 5) dX11_extreme_30 (by decide) ?_
    obtain ⟨p8, hp8, hf⟩ := am_bd hf
    refine g_cV (pc := 31) (As := [.int 5]) (st := []) (st1 := [.int p8.1]) (in_11 hX.1 (by omega)) kk_11 mV_X11_none ln_X11_124 rfl (Nat.le_of_ble_eq_true rfl) (Nat.le_of_ble_eq_true rfl) (k_X11_none hX 5 σ hp8) dX11_extreme_31 rfl rfl ?_
    have ho := Option.some.inj hf
    subst ho
    exact g_ireturn (pc := 34) (st := []) rfl dX11_extreme_34 hk
theorem k_X11_extreme {X : am_X} (hX : am_wC X) (v1 : Int32) (v2 : Int32) (v3 : Int32) (v4 : Bool) (v5 : Bool) (σ : am_H) {o : Int32 × am_H} (hf : f_X11_extreme v1 v2 v3 v4 v5 σ = some o) : am_C X gm_X11_extreme [.ref (am_ad X 11 0), .int v1, .int v2, .int v3, .int (am_b v4), .int (am_b v5)] σ (am_is (some (.int o.1)) o.2) :=
  am_ofG rfl (Nat.le_of_ble_eq_true rfl) rfl (q_X11_extreme hX v1 v2 v3 v4 v5 σ hf ⟨rfl, rfl⟩)
theorem dX11_bounds_0 : decode cX11_bounds 0 = .ok (.aload_n 0, 1) := by decide +kernel
theorem dX11_bounds_1 : decode cX11_bounds 1 = .ok (.iload_n 1, 1) := by decide +kernel
theorem dX11_bounds_2 : decode cX11_bounds 2 = .ok (.invokevirtual 159, 3) := by decide +kernel
theorem dX11_bounds_5 : decode cX11_bounds 5 = .ok (.astore 5, 2) := by decide +kernel
theorem dX11_bounds_7 : decode cX11_bounds 7 = .ok (.aload 5, 2) := by decide +kernel
theorem dX11_bounds_9 : decode cX11_bounds 9 = .ok (.ifnonnull 9, 3) := by decide +kernel
theorem dX11_bounds_12 : decode cX11_bounds 12 = .ok (.aload_n 0, 1) := by decide +kernel
theorem dX11_bounds_13 : decode cX11_bounds 13 = .ok (.iconst 2, 1) := by decide +kernel
theorem dX11_bounds_14 : decode cX11_bounds 14 = .ok (.invokevirtual 124, 3) := by decide +kernel
theorem dX11_bounds_17 : decode cX11_bounds 17 = .ok (.ireturn, 1) := by decide +kernel
theorem dX11_bounds_18 : decode cX11_bounds 18 = .ok (.iload_n 2, 1) := by decide +kernel
theorem dX11_bounds_19 : decode cX11_bounds 19 = .ok (.invokestatic 226, 3) := by decide +kernel
theorem dX11_bounds_22 : decode cX11_bounds 22 = .ok (.ifCond .eq 22, 3) := by decide +kernel
theorem dX11_bounds_25 : decode cX11_bounds 25 = .ok (.iload_n 3, 1) := by decide +kernel
theorem dX11_bounds_26 : decode cX11_bounds 26 = .ok (.iconst 0, 1) := by decide +kernel
theorem dX11_bounds_27 : decode cX11_bounds 27 = .ok (.iconst 5, 1) := by decide +kernel
theorem dX11_bounds_28 : decode cX11_bounds 28 = .ok (.invokestatic 222, 3) := by decide +kernel
theorem dX11_bounds_31 : decode cX11_bounds 31 = .ok (.ifCond .eq 13, 3) := by decide +kernel
theorem dX11_bounds_34 : decode cX11_bounds 34 = .ok (.iload 4, 2) := by decide +kernel
theorem dX11_bounds_36 : decode cX11_bounds 36 = .ok (.iconst 0, 1) := by decide +kernel
theorem dX11_bounds_37 : decode cX11_bounds 37 = .ok (.iconst 1, 1) := by decide +kernel
theorem dX11_bounds_38 : decode cX11_bounds 38 = .ok (.invokestatic 222, 3) := by decide +kernel
theorem dX11_bounds_41 : decode cX11_bounds 41 = .ok (.ifCond .ne 9, 3) := by decide +kernel
theorem dX11_bounds_44 : decode cX11_bounds 44 = .ok (.aload_n 0, 1) := by decide +kernel
theorem dX11_bounds_45 : decode cX11_bounds 45 = .ok (.iconst 5, 1) := by decide +kernel
theorem dX11_bounds_46 : decode cX11_bounds 46 = .ok (.invokevirtual 124, 3) := by decide +kernel
theorem dX11_bounds_49 : decode cX11_bounds 49 = .ok (.ireturn, 1) := by decide +kernel
theorem dX11_bounds_50 : decode cX11_bounds 50 = .ok (.aload_n 0, 1) := by decide +kernel
theorem dX11_bounds_51 : decode cX11_bounds 51 = .ok (.aload 5, 2) := by decide +kernel
theorem dX11_bounds_53 : decode cX11_bounds 53 = .ok (.iload_n 2, 1) := by decide +kernel
theorem dX11_bounds_54 : decode cX11_bounds 54 = .ok (.i2l, 1) := by decide +kernel
theorem dX11_bounds_55 : decode cX11_bounds 55 = .ok (.iload_n 3, 1) := by decide +kernel
theorem dX11_bounds_56 : decode cX11_bounds 56 = .ok (.iload 4, 2) := by decide +kernel
theorem dX11_bounds_58 : decode cX11_bounds 58 = .ok (.iconst 1, 1) := by decide +kernel
theorem dX11_bounds_59 : decode cX11_bounds 59 = .ok (.if_icmp .ne 7, 3) := by decide +kernel
theorem dX11_bounds_62 : decode cX11_bounds 62 = .ok (.iconst 1, 1) := by decide +kernel
theorem dX11_bounds_63 : decode cX11_bounds 63 = .ok (.goto 4, 3) := by decide +kernel
theorem dX11_bounds_66 : decode cX11_bounds 66 = .ok (.iconst 0, 1) := by decide +kernel
theorem dX11_bounds_67 : decode cX11_bounds 67 = .ok (.invokevirtual 367, 3) := by decide +kernel
theorem dX11_bounds_70 : decode cX11_bounds 70 = .ok (.invokevirtual 176, 3) := by decide +kernel
theorem dX11_bounds_73 : decode cX11_bounds 73 = .ok (.ireturn, 1) := by decide +kernel
noncomputable def f_X11_bounds_67 (k1 : Nat) (k2 : Int64) (k3 : Int32) (k4 : Bool) (σ : am_H) : Option (Int32 × am_H) :=
  (f_X3_boundAt k1 k2 k3 k4 σ).bind fun p1 =>
  (f_X11_answer p1 σ).bind fun p2 =>
  some (p2.1, p2.2)
set_option maxRecDepth 100000 in
set_option maxHeartbeats 4000000 in
theorem q_X11_bounds_67 {X : am_X} (hX : am_wC X) {Q : Option Value → am_H → Prop} (k1 : Nat) (k2 : Int64) (k3 : Int32) (k4 : Bool) (hk1 : k1 < 3) (σ : am_H) {o : Int32 × am_H} (hf : f_X11_bounds_67 k1 k2 k3 k4 σ = some o) (hk : Q (some (.int o.1)) o.2) : am_G X gm_X11_bounds Q 67 [] [.int (am_b k4), .int k3, .long k2, .ref (am_ad X 3 k1), .ref (am_ad X 11 0)] σ := by
  unfold f_X11_bounds_67 at hf
  obtain ⟨p1, hp1, hf⟩ := am_bd hf
  refine g_cV (pc := 67) (As := [.long k2, .int k3, .int (am_b k4)]) (st := [.ref (am_ad X 11 0)]) (st1 := [.int p1, .ref (am_ad X 11 0)]) (in_3 hX.1 (by omega)) kk_3 mV_X3_boundAt ln_X11_367 rfl (Nat.le_of_ble_eq_true rfl) (Nat.le_of_ble_eq_true rfl) (k_X3_boundAt hX k1 k2 k3 k4 (by omega) σ hp1) dX11_bounds_67 rfl rfl ?_
  obtain ⟨p2, hp2, hf⟩ := am_bd hf
  refine g_cV (pc := 70) (As := [.int p1]) (st := []) (st1 := [.int p2.1]) (in_11 hX.1 (by omega)) kk_11 mV_X11_answer ln_X11_176 rfl (Nat.le_of_ble_eq_true rfl) (Nat.le_of_ble_eq_true rfl) (k_X11_answer hX p1 σ hp2) dX11_bounds_70 rfl rfl ?_
  have ho := Option.some.inj hf
  subst ho
  exact g_ireturn (pc := 73) (st := []) rfl dX11_bounds_73 hk
noncomputable def f_X11_bounds_44 (σ : am_H) : Option (Int32 × am_H) :=
  (f_X11_none 5 σ).bind fun p1 =>
  some (p1.1, p1.2)
set_option maxRecDepth 100000 in
set_option maxHeartbeats 4000000 in
theorem q_X11_bounds_44 {X : am_X} (hX : am_wC X) {Q : Option Value → am_H → Prop} (σ : am_H) {o : Int32 × am_H} (hf : f_X11_bounds_44 σ = some o) (hk : Q (some (.int o.1)) o.2) : am_G X gm_X11_bounds Q 44 [(0, .ref (am_ad X 11 0))] [] σ := by
  unfold f_X11_bounds_44 at hf
  refine g_aload_n (pc := 44) 0 rfl dX11_bounds_44 rfl ?_
  refine g_iconst (pc := 45) (v := 5) dX11_bounds_45 (by decide) ?_
  obtain ⟨p1, hp1, hf⟩ := am_bd hf
  refine g_cV (pc := 46) (As := [.int 5]) (st := []) (st1 := [.int p1.1]) (in_11 hX.1 (by omega)) kk_11 mV_X11_none ln_X11_124 rfl (Nat.le_of_ble_eq_true rfl) (Nat.le_of_ble_eq_true rfl) (k_X11_none hX 5 σ hp1) dX11_bounds_46 rfl rfl ?_
  have ho := Option.some.inj hf
  subst ho
  exact g_ireturn (pc := 49) (st := []) rfl dX11_bounds_49 hk
noncomputable def f_X11_bounds (v1 : Int32) (v2 : Int32) (v3 : Int32) (v4 : Int32) (σ : am_H) : Option (Int32 × am_H) :=
  (f_X11_machineOf v1 σ).bind fun p1 =>
  am_nn 3 p1
   ((f_X11_none 2 σ).bind fun p3 =>
   some (p3.1, p3.2))
   (fun a2 =>
   (f_X11_isHour v2 σ).bind fun p4 =>
   if p4 = true then
    ((f_X11_isWithin v3 0 5 σ).bind fun p6 =>
    if p6 = true then
     ((f_X11_isWithin v4 0 1 σ).bind fun p8 =>
     if p8 = true then
      (if v4 = 1 then
       (f_X11_bounds_67 a2 (Int32.toInt64 v2) v3 true σ)
      else
      f_X11_bounds_67 a2 (Int32.toInt64 v2) v3 false σ)
     else
     f_X11_bounds_44 σ)
    else
    f_X11_bounds_44 σ)
   else
   f_X11_bounds_44 σ)
set_option maxRecDepth 100000 in
set_option maxHeartbeats 4000000 in
theorem q_X11_bounds {X : am_X} (hX : am_wC X) {Q : Option Value → am_H → Prop} (v1 : Int32) (v2 : Int32) (v3 : Int32) (v4 : Int32) (σ : am_H) {o : Int32 × am_H} (hf : f_X11_bounds v1 v2 v3 v4 σ = some o) (hk : Q (some (.int o.1)) o.2) : am_G X gm_X11_bounds Q 0 [(0, .ref (am_ad X 11 0)), (1, .int v1), (2, .int v2), (3, .int v3), (4, .int v4)] [] σ := by
  unfold f_X11_bounds at hf
  refine g_aload_n (pc := 0) 0 rfl dX11_bounds_0 rfl ?_
  refine g_iload_n (pc := 1) 1 rfl dX11_bounds_1 rfl ?_
  obtain ⟨p1, hp1, hf⟩ := am_bd hf
  have hq := am_nn_c hf
  clear hf
  rcases hq with ⟨ep1, hf⟩ | ⟨a2, ep1, ga2, hf⟩
  · subst ep1
    refine g_cV (pc := 2) (As := [.int v1]) (st := []) (st1 := [.null]) (in_11 hX.1 (by omega)) kk_11 mV_X11_machineOf ln_X11_159 rfl (Nat.le_of_ble_eq_true rfl) (Nat.le_of_ble_eq_true rfl) (k_X11_machineOf hX v1 σ hp1) dX11_bounds_2 rfl rfl ?_
    refine g_astoreN (pc := 5) [(5, .null), (0, .ref (am_ad X 11 0)), (1, .int v1), (2, .int v2), (3, .int v3), (4, .int v4)] dX11_bounds_5 (Nat.le_of_ble_eq_true rfl) rfl ?_
    refine g_aloadN (pc := 7) 0 rfl dX11_bounds_7 ?_
    refine g_ifnonnullN (pc := 9) dX11_bounds_9 ?_
    refine g_aload_n (pc := 12) 1 rfl dX11_bounds_12 rfl ?_
    refine g_iconst (pc := 13) (v := 2) dX11_bounds_13 (by decide) ?_
    obtain ⟨p3, hp3, hf⟩ := am_bd hf
    refine g_cV (pc := 14) (As := [.int 2]) (st := []) (st1 := [.int p3.1]) (in_11 hX.1 (by omega)) kk_11 mV_X11_none ln_X11_124 rfl (Nat.le_of_ble_eq_true rfl) (Nat.le_of_ble_eq_true rfl) (k_X11_none hX 2 σ hp3) dX11_bounds_14 rfl rfl ?_
    have ho := Option.some.inj hf
    subst ho
    exact g_ireturn (pc := 17) (st := []) rfl dX11_bounds_17 hk
  · subst ep1
    refine g_cV (pc := 2) (As := [.int v1]) (st := []) (st1 := [.ref (am_ad X 3 a2)]) (in_11 hX.1 (by omega)) kk_11 mV_X11_machineOf ln_X11_159 rfl (Nat.le_of_ble_eq_true rfl) (Nat.le_of_ble_eq_true rfl) (k_X11_machineOf hX v1 σ hp1) dX11_bounds_2 rfl rfl ?_
    refine g_astore (pc := 5) [(5, .ref (am_ad X 3 a2)), (0, .ref (am_ad X 11 0)), (1, .int v1), (2, .int v2), (3, .int v3), (4, .int v4)] dX11_bounds_5 (Nat.le_of_ble_eq_true rfl) rfl ?_
    refine g_aload (pc := 7) 0 rfl dX11_bounds_7 ?_
    refine g_ifnonnull (pc := 9) 18 dX11_bounds_9 rfl ?_
    refine g_iload_n (pc := 18) 3 rfl dX11_bounds_18 rfl ?_
    obtain ⟨p4, hp4, hf⟩ := am_bd hf
    refine g_cS (pc := 19) (As := [.int v2]) (st := []) (st1 := [.int (am_b p4)]) mS_X11_isHour ln_X11_226 rfl (Nat.le_of_ble_eq_true rfl) (Nat.le_of_ble_eq_true rfl) (k_X11_isHour hX v2 σ hp4) dX11_bounds_19 rfl rfl ?_
    refine bt_eq (pc := 22) 44 dX11_bounds_22 rfl (fun c5 => ?_) (fun c5 => ?_)
    · replace hf := am_ifT c5 hf
      refine g_iload_n (pc := 25) 4 rfl dX11_bounds_25 rfl ?_
      refine g_iconst (pc := 26) (v := 0) dX11_bounds_26 (by decide) ?_
      refine g_iconst (pc := 27) (v := 5) dX11_bounds_27 (by decide) ?_
      obtain ⟨p6, hp6, hf⟩ := am_bd hf
      refine g_cS (pc := 28) (As := [.int v3, .int 0, .int 5]) (st := []) (st1 := [.int (am_b p6)]) mS_X11_isWithin ln_X11_222 rfl (Nat.le_of_ble_eq_true rfl) (Nat.le_of_ble_eq_true rfl) (k_X11_isWithin hX v3 0 5 σ hp6) dX11_bounds_28 rfl rfl ?_
      refine bt_eq (pc := 31) 44 dX11_bounds_31 rfl (fun c7 => ?_) (fun c7 => ?_)
      · replace hf := am_ifT c7 hf
        refine g_iload (pc := 34) 5 rfl dX11_bounds_34 ?_
        refine g_iconst (pc := 36) (v := 0) dX11_bounds_36 (by decide) ?_
        refine g_iconst (pc := 37) (v := 1) dX11_bounds_37 (by decide) ?_
        obtain ⟨p8, hp8, hf⟩ := am_bd hf
        refine g_cS (pc := 38) (As := [.int v4, .int 0, .int 1]) (st := []) (st1 := [.int (am_b p8)]) mS_X11_isWithin ln_X11_222 rfl (Nat.le_of_ble_eq_true rfl) (Nat.le_of_ble_eq_true rfl) (k_X11_isWithin hX v4 0 1 σ hp8) dX11_bounds_38 rfl rfl ?_
        refine bt_ne (pc := 41) 50 dX11_bounds_41 rfl (fun c9 => ?_) (fun c9 => ?_)
        · replace hf := am_ifT c9 hf
          refine g_aload_n (pc := 50) 1 rfl dX11_bounds_50 rfl ?_
          refine g_aload (pc := 51) 0 rfl dX11_bounds_51 ?_
          refine g_iload_n (pc := 53) 3 rfl dX11_bounds_53 rfl ?_
          refine g_i2l (pc := 54) dX11_bounds_54 ?_
          refine g_iload_n (pc := 55) 4 rfl dX11_bounds_55 rfl ?_
          refine g_iload (pc := 56) 5 rfl dX11_bounds_56 ?_
          refine g_iconst (pc := 58) (v := 1) dX11_bounds_58 (by decide) ?_
          refine bi_ne (pc := 59) 66 dX11_bounds_59 rfl (fun c10 => ?_) (fun c10 => ?_)
          · replace hf := am_ifT c10 hf
            refine g_iconst (pc := 62) (v := 1) dX11_bounds_62 (by decide) ?_
            refine g_goto (pc := 63) 67 dX11_bounds_63 rfl ?_
            exact am_sub [] rfl (q_X11_bounds_67 hX a2 (Int32.toInt64 v2) v3 true (by omega) σ hf hk)
          replace hf := am_ifF c10 hf
          refine g_iconst (pc := 66) (v := 0) dX11_bounds_66 (by decide) ?_
          exact am_sub [] rfl (q_X11_bounds_67 hX a2 (Int32.toInt64 v2) v3 false (by omega) σ hf hk)
        replace hf := am_ifF c9 hf
        exact am_sub [1] rfl (q_X11_bounds_44 hX σ hf hk)
      replace hf := am_ifF c7 hf
      exact am_sub [1] rfl (q_X11_bounds_44 hX σ hf hk)
    replace hf := am_ifF c5 hf
    exact am_sub [1] rfl (q_X11_bounds_44 hX σ hf hk)
theorem k_X11_bounds {X : am_X} (hX : am_wC X) (v1 : Int32) (v2 : Int32) (v3 : Int32) (v4 : Int32) (σ : am_H) {o : Int32 × am_H} (hf : f_X11_bounds v1 v2 v3 v4 σ = some o) : am_C X gm_X11_bounds [.ref (am_ad X 11 0), .int v1, .int v2, .int v3, .int v4] σ (am_is (some (.int o.1)) o.2) :=
  am_ofG rfl (Nat.le_of_ble_eq_true rfl) rfl (q_X11_bounds hX v1 v2 v3 v4 σ hf ⟨rfl, rfl⟩)
