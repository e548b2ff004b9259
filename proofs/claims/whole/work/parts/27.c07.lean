theorem dX11_pour_0 : decode cX11_pour 0 = .ok (.aload_n 0, 1) := by decide +kernel
theorem dX11_pour_1 : decode cX11_pour 1 = .ok (.iload_n 1, 1) := by decide +kernel
theorem dX11_pour_2 : decode cX11_pour 2 = .ok (.invokevirtual 100, 3) := by decide +kernel
theorem dX11_pour_5 : decode cX11_pour 5 = .ok (.astore 6, 2) := by decide +kernel
theorem dX11_pour_7 : decode cX11_pour 7 = .ok (.aload_n 0, 1) := by decide +kernel
theorem dX11_pour_8 : decode cX11_pour 8 = .ok (.iload_n 3, 1) := by decide +kernel
theorem dX11_pour_9 : decode cX11_pour 9 = .ok (.invokevirtual 100, 3) := by decide +kernel
theorem dX11_pour_12 : decode cX11_pour 12 = .ok (.astore 7, 2) := by decide +kernel
theorem dX11_pour_14 : decode cX11_pour 14 = .ok (.aload 6, 2) := by decide +kernel
theorem dX11_pour_16 : decode cX11_pour 16 = .ok (.ifnull 8, 3) := by decide +kernel
theorem dX11_pour_19 : decode cX11_pour 19 = .ok (.aload 7, 2) := by decide +kernel
theorem dX11_pour_21 : decode cX11_pour 21 = .ok (.ifnonnull 9, 3) := by decide +kernel
theorem dX11_pour_24 : decode cX11_pour 24 = .ok (.aload_n 0, 1) := by decide +kernel
theorem dX11_pour_25 : decode cX11_pour 25 = .ok (.iconst 1, 1) := by decide +kernel
theorem dX11_pour_26 : decode cX11_pour 26 = .ok (.invokevirtual 104, 3) := by decide +kernel
theorem dX11_pour_29 : decode cX11_pour 29 = .ok (.ireturn, 1) := by decide +kernel
theorem dX11_pour_30 : decode cX11_pour 30 = .ok (.aload 6, 2) := by decide +kernel
theorem dX11_pour_32 : decode cX11_pour 32 = .ok (.invokevirtual 132, 3) := by decide +kernel
theorem dX11_pour_35 : decode cX11_pour 35 = .ok (.ifCond .ne 11, 3) := by decide +kernel
theorem dX11_pour_38 : decode cX11_pour 38 = .ok (.aload 7, 2) := by decide +kernel
theorem dX11_pour_40 : decode cX11_pour 40 = .ok (.invokevirtual 132, 3) := by decide +kernel
theorem dX11_pour_43 : decode cX11_pour 43 = .ok (.ifCond .eq 9, 3) := by decide +kernel
theorem dX11_pour_46 : decode cX11_pour 46 = .ok (.aload_n 0, 1) := by decide +kernel
theorem dX11_pour_47 : decode cX11_pour 47 = .ok (.iconst 3, 1) := by decide +kernel
theorem dX11_pour_48 : decode cX11_pour 48 = .ok (.invokevirtual 104, 3) := by decide +kernel
theorem dX11_pour_51 : decode cX11_pour 51 = .ok (.ireturn, 1) := by decide +kernel
theorem dX11_pour_52 : decode cX11_pour 52 = .ok (.aload 6, 2) := by decide +kernel
theorem dX11_pour_54 : decode cX11_pour 54 = .ok (.getfield 135, 3) := by decide +kernel
theorem dX11_pour_57 : decode cX11_pour 57 = .ok (.aload 7, 2) := by decide +kernel
theorem dX11_pour_59 : decode cX11_pour 59 = .ok (.getfield 135, 3) := by decide +kernel
theorem dX11_pour_62 : decode cX11_pour 62 = .ok (.if_icmp .eq 10, 3) := by decide +kernel
theorem dX11_pour_65 : decode cX11_pour 65 = .ok (.aload_n 0, 1) := by decide +kernel
theorem dX11_pour_66 : decode cX11_pour 66 = .ok (.bipush 11, 2) := by decide +kernel
theorem dX11_pour_68 : decode cX11_pour 68 = .ok (.invokevirtual 104, 3) := by decide +kernel
theorem dX11_pour_71 : decode cX11_pour 71 = .ok (.ireturn, 1) := by decide +kernel
theorem dX11_pour_72 : decode cX11_pour 72 = .ok (.iload 5, 2) := by decide +kernel
theorem dX11_pour_74 : decode cX11_pour 74 = .ok (.ifCond .ge 10, 3) := by decide +kernel
theorem dX11_pour_77 : decode cX11_pour 77 = .ok (.aload_n 0, 1) := by decide +kernel
theorem dX11_pour_78 : decode cX11_pour 78 = .ok (.bipush 6, 2) := by decide +kernel
theorem dX11_pour_80 : decode cX11_pour 80 = .ok (.invokevirtual 104, 3) := by decide +kernel
theorem dX11_pour_83 : decode cX11_pour 83 = .ok (.ireturn, 1) := by decide +kernel
theorem dX11_pour_84 : decode cX11_pour 84 = .ok (.aload 6, 2) := by decide +kernel
theorem dX11_pour_86 : decode cX11_pour 86 = .ok (.iload_n 2, 1) := by decide +kernel
theorem dX11_pour_87 : decode cX11_pour 87 = .ok (.iload 5, 2) := by decide +kernel
theorem dX11_pour_89 : decode cX11_pour 89 = .ok (.invokevirtual 138, 3) := by decide +kernel
theorem dX11_pour_92 : decode cX11_pour 92 = .ok (.ifCond .eq 15, 3) := by decide +kernel
theorem dX11_pour_95 : decode cX11_pour 95 = .ok (.aload 7, 2) := by decide +kernel
theorem dX11_pour_97 : decode cX11_pour 97 = .ok (.iload 4, 2) := by decide +kernel
theorem dX11_pour_99 : decode cX11_pour 99 = .ok (.iload 5, 2) := by decide +kernel
theorem dX11_pour_101 : decode cX11_pour 101 = .ok (.invokevirtual 138, 3) := by decide +kernel
theorem dX11_pour_104 : decode cX11_pour 104 = .ok (.ifCond .ne 9, 3) := by decide +kernel
theorem dX11_pour_107 : decode cX11_pour 107 = .ok (.aload_n 0, 1) := by decide +kernel
theorem dX11_pour_108 : decode cX11_pour 108 = .ok (.iconst 4, 1) := by decide +kernel
theorem dX11_pour_109 : decode cX11_pour 109 = .ok (.invokevirtual 104, 3) := by decide +kernel
theorem dX11_pour_112 : decode cX11_pour 112 = .ok (.ireturn, 1) := by decide +kernel
theorem dX11_pour_113 : decode cX11_pour 113 = .ok (.aload 6, 2) := by decide +kernel
theorem dX11_pour_115 : decode cX11_pour 115 = .ok (.getfield 142, 3) := by decide +kernel
theorem dX11_pour_118 : decode cX11_pour 118 = .ok (.iload_n 2, 1) := by decide +kernel
theorem dX11_pour_119 : decode cX11_pour 119 = .ok (.aload 7, 2) := by decide +kernel
theorem dX11_pour_121 : decode cX11_pour 121 = .ok (.getfield 142, 3) := by decide +kernel
theorem dX11_pour_124 : decode cX11_pour 124 = .ok (.iload 4, 2) := by decide +kernel
theorem dX11_pour_126 : decode cX11_pour 126 = .ok (.iload 5, 2) := by decide +kernel
theorem dX11_pour_128 : decode cX11_pour 128 = .ok (.invokestatic 146, 3) := by decide +kernel
theorem dX11_pour_131 : decode cX11_pour 131 = .ok (.aload_n 0, 1) := by decide +kernel
theorem dX11_pour_132 : decode cX11_pour 132 = .ok (.invokevirtual 112, 3) := by decide +kernel
theorem dX11_pour_135 : decode cX11_pour 135 = .ok (.ireturn, 1) := by decide +kernel
noncomputable def f_X11_pour_24 (σ : am_H) : Option (Bool × am_H) :=
  (f_X11_no 1 σ).bind fun p1 =>
  some (p1.1, p1.2)
set_option maxRecDepth 100000 in
set_option maxHeartbeats 4000000 in
theorem q_X11_pour_24 {X : am_X} (hX : am_wC X) {Q : Option Value → am_H → Prop} (σ : am_H) {o : Bool × am_H} (hf : f_X11_pour_24 σ = some o) (hk : Q (some (.int (am_b o.1))) o.2) : am_G X gm_X11_pour Q 24 [(0, .ref (am_ad X 11 0))] [] σ := by
  unfold f_X11_pour_24 at hf
  refine g_aload_n (pc := 24) 0 rfl dX11_pour_24 rfl ?_
  refine g_iconst (pc := 25) (v := 1) dX11_pour_25 (by decide) ?_
  obtain ⟨p1, hp1, hf⟩ := am_bd hf
  refine g_cV (pc := 26) (As := [.int 1]) (st := []) (st1 := [.int (am_b p1.1)]) (in_11 hX.1 (by omega)) kk_11 mV_X11_no ln_X11_104 rfl (Nat.le_of_ble_eq_true rfl) (Nat.le_of_ble_eq_true rfl) (k_X11_no hX 1 σ hp1) dX11_pour_26 rfl rfl ?_
  have ho := Option.some.inj hf
  subst ho
  exact g_zreturn (pc := 29) (st := []) (x := p1.1) rfl dX11_pour_29 hk
noncomputable def f_X11_pour_46 (σ : am_H) : Option (Bool × am_H) :=
  (f_X11_no 3 σ).bind fun p1 =>
  some (p1.1, p1.2)
set_option maxRecDepth 100000 in
set_option maxHeartbeats 4000000 in
theorem q_X11_pour_46 {X : am_X} (hX : am_wC X) {Q : Option Value → am_H → Prop} (σ : am_H) {o : Bool × am_H} (hf : f_X11_pour_46 σ = some o) (hk : Q (some (.int (am_b o.1))) o.2) : am_G X gm_X11_pour Q 46 [(0, .ref (am_ad X 11 0))] [] σ := by
  unfold f_X11_pour_46 at hf
  refine g_aload_n (pc := 46) 0 rfl dX11_pour_46 rfl ?_
  refine g_iconst (pc := 47) (v := 3) dX11_pour_47 (by decide) ?_
  obtain ⟨p1, hp1, hf⟩ := am_bd hf
  refine g_cV (pc := 48) (As := [.int 3]) (st := []) (st1 := [.int (am_b p1.1)]) (in_11 hX.1 (by omega)) kk_11 mV_X11_no ln_X11_104 rfl (Nat.le_of_ble_eq_true rfl) (Nat.le_of_ble_eq_true rfl) (k_X11_no hX 3 σ hp1) dX11_pour_48 rfl rfl ?_
  have ho := Option.some.inj hf
  subst ho
  exact g_zreturn (pc := 51) (st := []) (x := p1.1) rfl dX11_pour_51 hk
noncomputable def f_X11_pour_107 (σ : am_H) : Option (Bool × am_H) :=
  (f_X11_no 4 σ).bind fun p1 =>
  some (p1.1, p1.2)
set_option maxRecDepth 100000 in
set_option maxHeartbeats 4000000 in
theorem q_X11_pour_107 {X : am_X} (hX : am_wC X) {Q : Option Value → am_H → Prop} (σ : am_H) {o : Bool × am_H} (hf : f_X11_pour_107 σ = some o) (hk : Q (some (.int (am_b o.1))) o.2) : am_G X gm_X11_pour Q 107 [(0, .ref (am_ad X 11 0))] [] σ := by
  unfold f_X11_pour_107 at hf
  refine g_aload_n (pc := 107) 0 rfl dX11_pour_107 rfl ?_
  refine g_iconst (pc := 108) (v := 4) dX11_pour_108 (by decide) ?_
  obtain ⟨p1, hp1, hf⟩ := am_bd hf
  refine g_cV (pc := 109) (As := [.int 4]) (st := []) (st1 := [.int (am_b p1.1)]) (in_11 hX.1 (by omega)) kk_11 mV_X11_no ln_X11_104 rfl (Nat.le_of_ble_eq_true rfl) (Nat.le_of_ble_eq_true rfl) (k_X11_no hX 4 σ hp1) dX11_pour_109 rfl rfl ?_
  have ho := Option.some.inj hf
  subst ho
  exact g_zreturn (pc := 112) (st := []) (x := p1.1) rfl dX11_pour_112 hk
noncomputable def f_X11_pour (v1 : Int32) (v2 : Int32) (v3 : Int32) (v4 : Int32) (v5 : Int32) (σ : am_H) : Option (Bool × am_H) :=
  (f_X11_trayOf v1 σ).bind fun p1 =>
  am_nn 5 p1
   ((f_X11_trayOf v3 σ).bind fun p3 =>
   am_nn 5 p3
    (f_X11_pour_24 σ)
    (fun a4 =>
    f_X11_pour_24 σ))
   (fun a2 =>
   (f_X11_trayOf v3 σ).bind fun p5 =>
   am_nn 5 p5
    (f_X11_pour_24 σ)
    (fun a6 =>
    (f_X8_isMissing a2 σ).bind fun p7 =>
    if p7 = true then
     (f_X11_pour_46 σ)
    else
    (f_X8_isMissing a6 σ).bind fun p9 =>
    if p9 = true then
     (f_X11_pour_46 σ)
    else
    if (σ.1 8 a2 0) = (σ.1 8 a6 0) then
     (if v5 < 0 then
      ((f_X11_no 6 σ).bind fun p13 =>
      some (p13.1, p13.2))
     else
     (f_X8_hasRun a2 v2 v5 σ).bind fun p14 =>
     if p14 = true then
      ((f_X8_hasRun a6 v4 v5 σ).bind fun p16 =>
      if p16 = true then
       ((am_cp 60 σ 902 a2 v2 a6 v4 v5).bind fun s18 =>
       (f_X11_yes s18).bind fun p19 =>
       some (p19.1, p19.2))
      else
      f_X11_pour_107 σ)
     else
     f_X11_pour_107 σ)
    else
    (f_X11_no 11 σ).bind fun p20 =>
    some (p20.1, p20.2)))
set_option maxRecDepth 100000 in
set_option maxHeartbeats 4000000 in
theorem q_X11_pour {X : am_X} (hX : am_wC X) {Q : Option Value → am_H → Prop} (v1 : Int32) (v2 : Int32) (v3 : Int32) (v4 : Int32) (v5 : Int32) (σ : am_H) {o : Bool × am_H} (hf : f_X11_pour v1 v2 v3 v4 v5 σ = some o) (hk : Q (some (.int (am_b o.1))) o.2) : am_G X gm_X11_pour Q 0 [(0, .ref (am_ad X 11 0)), (1, .int v1), (2, .int v2), (3, .int v3), (4, .int v4), (5, .int v5)] [] σ := by
  unfold f_X11_pour at hf
  refine g_aload_n (pc := 0) 0 rfl dX11_pour_0 rfl ?_
  refine g_iload_n (pc := 1) 1 rfl dX11_pour_1 rfl ?_
  obtain ⟨p1, hp1, hf⟩ := am_bd hf
  have hq := am_nn_c hf
  clear hf
  rcases hq with ⟨ep1, hf⟩ | ⟨a2, ep1, ga2, hf⟩
  · subst ep1
    refine g_cV (pc := 2) (As := [.int v1]) (st := []) (st1 := [.null]) (in_11 hX.1 (by omega)) kk_11 mV_X11_trayOf ln_X11_100 rfl (Nat.le_of_ble_eq_true rfl) (Nat.le_of_ble_eq_true rfl) (k_X11_trayOf hX v1 σ hp1) dX11_pour_2 rfl rfl ?_
    refine g_astoreN (pc := 5) [(6, .null), (0, .ref (am_ad X 11 0)), (1, .int v1), (2, .int v2), (3, .int v3), (4, .int v4), (5, .int v5)] dX11_pour_5 (Nat.le_of_ble_eq_true rfl) rfl ?_
    refine g_aload_n (pc := 7) 1 rfl dX11_pour_7 rfl ?_
    refine g_iload_n (pc := 8) 4 rfl dX11_pour_8 rfl ?_
    obtain ⟨p3, hp3, hf⟩ := am_bd hf
    have hq := am_nn_c hf
    clear hf
    rcases hq with ⟨ep3, hf⟩ | ⟨a4, ep3, ga4, hf⟩
    · subst ep3
      refine g_cV (pc := 9) (As := [.int v3]) (st := []) (st1 := [.null]) (in_11 hX.1 (by omega)) kk_11 mV_X11_trayOf ln_X11_100 rfl (Nat.le_of_ble_eq_true rfl) (Nat.le_of_ble_eq_true rfl) (k_X11_trayOf hX v3 σ hp3) dX11_pour_9 rfl rfl ?_
      refine g_astoreN (pc := 12) [(7, .null), (6, .null), (0, .ref (am_ad X 11 0)), (1, .int v1), (2, .int v2), (3, .int v3), (4, .int v4), (5, .int v5)] dX11_pour_12 (Nat.le_of_ble_eq_true rfl) rfl ?_
      refine g_aloadN (pc := 14) 1 rfl dX11_pour_14 ?_
      refine g_ifnullN (pc := 16) 24 dX11_pour_16 rfl ?_
      exact am_sub [2] rfl (q_X11_pour_24 hX σ hf hk)
    · subst ep3
      refine g_cV (pc := 9) (As := [.int v3]) (st := []) (st1 := [.ref (am_ad X 8 a4)]) (in_11 hX.1 (by omega)) kk_11 mV_X11_trayOf ln_X11_100 rfl (Nat.le_of_ble_eq_true rfl) (Nat.le_of_ble_eq_true rfl) (k_X11_trayOf hX v3 σ hp3) dX11_pour_9 rfl rfl ?_
      refine g_astore (pc := 12) [(7, .ref (am_ad X 8 a4)), (6, .null), (0, .ref (am_ad X 11 0)), (1, .int v1), (2, .int v2), (3, .int v3), (4, .int v4), (5, .int v5)] dX11_pour_12 (Nat.le_of_ble_eq_true rfl) rfl ?_
      refine g_aloadN (pc := 14) 1 rfl dX11_pour_14 ?_
      refine g_ifnullN (pc := 16) 24 dX11_pour_16 rfl ?_
      exact am_sub [2] rfl (q_X11_pour_24 hX σ hf hk)
  · subst ep1
    refine g_cV (pc := 2) (As := [.int v1]) (st := []) (st1 := [.ref (am_ad X 8 a2)]) (in_11 hX.1 (by omega)) kk_11 mV_X11_trayOf ln_X11_100 rfl (Nat.le_of_ble_eq_true rfl) (Nat.le_of_ble_eq_true rfl) (k_X11_trayOf hX v1 σ hp1) dX11_pour_2 rfl rfl ?_
    refine g_astore (pc := 5) [(6, .ref (am_ad X 8 a2)), (0, .ref (am_ad X 11 0)), (1, .int v1), (2, .int v2), (3, .int v3), (4, .int v4), (5, .int v5)] dX11_pour_5 (Nat.le_of_ble_eq_true rfl) rfl ?_
    refine g_aload_n (pc := 7) 1 rfl dX11_pour_7 rfl ?_
    refine g_iload_n (pc := 8) 4 rfl dX11_pour_8 rfl ?_
    obtain ⟨p5, hp5, hf⟩ := am_bd hf
    have hq := am_nn_c hf
    clear hf
    rcases hq with ⟨ep5, hf⟩ | ⟨a6, ep5, ga6, hf⟩
    · subst ep5
      refine g_cV (pc := 9) (As := [.int v3]) (st := []) (st1 := [.null]) (in_11 hX.1 (by omega)) kk_11 mV_X11_trayOf ln_X11_100 rfl (Nat.le_of_ble_eq_true rfl) (Nat.le_of_ble_eq_true rfl) (k_X11_trayOf hX v3 σ hp5) dX11_pour_9 rfl rfl ?_
      refine g_astoreN (pc := 12) [(7, .null), (6, .ref (am_ad X 8 a2)), (0, .ref (am_ad X 11 0)), (1, .int v1), (2, .int v2), (3, .int v3), (4, .int v4), (5, .int v5)] dX11_pour_12 (Nat.le_of_ble_eq_true rfl) rfl ?_
      refine g_aload (pc := 14) 1 rfl dX11_pour_14 ?_
      refine g_ifnull (pc := 16) dX11_pour_16 ?_
      refine g_aloadN (pc := 19) 0 rfl dX11_pour_19 ?_
      refine g_ifnonnullN (pc := 21) dX11_pour_21 ?_
      exact am_sub [2] rfl (q_X11_pour_24 hX σ hf hk)
    · subst ep5
      refine g_cV (pc := 9) (As := [.int v3]) (st := []) (st1 := [.ref (am_ad X 8 a6)]) (in_11 hX.1 (by omega)) kk_11 mV_X11_trayOf ln_X11_100 rfl (Nat.le_of_ble_eq_true rfl) (Nat.le_of_ble_eq_true rfl) (k_X11_trayOf hX v3 σ hp5) dX11_pour_9 rfl rfl ?_
      refine g_astore (pc := 12) [(7, .ref (am_ad X 8 a6)), (6, .ref (am_ad X 8 a2)), (0, .ref (am_ad X 11 0)), (1, .int v1), (2, .int v2), (3, .int v3), (4, .int v4), (5, .int v5)] dX11_pour_12 (Nat.le_of_ble_eq_true rfl) rfl ?_
      refine g_aload (pc := 14) 1 rfl dX11_pour_14 ?_
      refine g_ifnull (pc := 16) dX11_pour_16 ?_
      refine g_aload (pc := 19) 0 rfl dX11_pour_19 ?_
      refine g_ifnonnull (pc := 21) 30 dX11_pour_21 rfl ?_
      refine g_aload (pc := 30) 1 rfl dX11_pour_30 ?_
      obtain ⟨p7, hp7, hf⟩ := am_bd hf
      refine g_cV (pc := 32) (As := []) (st := []) (st1 := [.int (am_b p7)]) (in_8 hX.1 (by omega)) kk_8 mV_X8_isMissing ln_X11_132 rfl (Nat.le_of_ble_eq_true rfl) (Nat.le_of_ble_eq_true rfl) (k_X8_isMissing hX a2 (by omega) σ hp7) dX11_pour_32 rfl rfl ?_
      refine bt_ne (pc := 35) 46 dX11_pour_35 rfl (fun c8 => ?_) (fun c8 => ?_)
      · replace hf := am_ifT c8 hf
        exact am_sub [2] rfl (q_X11_pour_46 hX σ hf hk)
      replace hf := am_ifF c8 hf
      refine g_aload (pc := 38) 0 rfl dX11_pour_38 ?_
      obtain ⟨p9, hp9, hf⟩ := am_bd hf
      refine g_cV (pc := 40) (As := []) (st := []) (st1 := [.int (am_b p9)]) (in_8 hX.1 (by omega)) kk_8 mV_X8_isMissing ln_X11_132 rfl (Nat.le_of_ble_eq_true rfl) (Nat.le_of_ble_eq_true rfl) (k_X8_isMissing hX a6 (by omega) σ hp9) dX11_pour_40 rfl rfl ?_
      refine bt_eq (pc := 43) 52 dX11_pour_43 rfl (fun c10 => ?_) (fun c10 => ?_)
      · replace hf := am_ifT c10 hf
        exact am_sub [2] rfl (q_X11_pour_46 hX σ hf hk)
      replace hf := am_ifF c10 hf
      refine g_aload (pc := 52) 1 rfl dX11_pour_52 ?_
      refine g_getI (pc := 54) (in_8 hX.1 (by omega)) fr_X11_135 dX11_pour_54 ?_
      refine g_aload (pc := 57) 0 rfl dX11_pour_57 ?_
      refine g_getI (pc := 59) (in_8 hX.1 (by omega)) fr_X11_135 dX11_pour_59 ?_
      refine bi_eq (pc := 62) 72 dX11_pour_62 rfl (fun c11 => ?_) (fun c11 => ?_)
      · replace hf := am_ifT c11 hf
        refine g_iload (pc := 72) 7 rfl dX11_pour_72 ?_
        refine bz_ge (pc := 74) 84 dX11_pour_74 rfl (fun c12 => ?_) (fun c12 => ?_)
        · replace hf := am_ifT c12 hf
          refine g_aload_n (pc := 77) 2 rfl dX11_pour_77 rfl ?_
          refine g_bipush (pc := 78) (v := 6) dX11_pour_78 (by decide) ?_
          obtain ⟨p13, hp13, hf⟩ := am_bd hf
          refine g_cV (pc := 80) (As := [.int 6]) (st := []) (st1 := [.int (am_b p13.1)]) (in_11 hX.1 (by omega)) kk_11 mV_X11_no ln_X11_104 rfl (Nat.le_of_ble_eq_true rfl) (Nat.le_of_ble_eq_true rfl) (k_X11_no hX 6 σ hp13) dX11_pour_80 rfl rfl ?_
          have ho := Option.some.inj hf
          subst ho
          exact g_zreturn (pc := 83) (st := []) (x := p13.1) rfl dX11_pour_83 hk
        replace hf := am_ifF c12 hf
        refine g_aload (pc := 84) 1 rfl dX11_pour_84 ?_
        refine g_iload_n (pc := 86) 4 rfl dX11_pour_86 rfl ?_
        refine g_iload (pc := 87) 7 rfl dX11_pour_87 ?_
        obtain ⟨p14, hp14, hf⟩ := am_bd hf
        refine g_cV (pc := 89) (As := [.int v2, .int v5]) (st := []) (st1 := [.int (am_b p14)]) (in_8 hX.1 (by omega)) kk_8 mV_X8_hasRun ln_X11_138 rfl (Nat.le_of_ble_eq_true rfl) (Nat.le_of_ble_eq_true rfl) (k_X8_hasRun hX a2 v2 v5 (by omega) σ hp14) dX11_pour_89 rfl rfl ?_
        refine bt_eq (pc := 92) 107 dX11_pour_92 rfl (fun c15 => ?_) (fun c15 => ?_)
        · replace hf := am_ifT c15 hf
          refine g_aload (pc := 95) 0 rfl dX11_pour_95 ?_
          refine g_iload (pc := 97) 6 rfl dX11_pour_97 ?_
          refine g_iload (pc := 99) 7 rfl dX11_pour_99 ?_
          obtain ⟨p16, hp16, hf⟩ := am_bd hf
          refine g_cV (pc := 101) (As := [.int v4, .int v5]) (st := []) (st1 := [.int (am_b p16)]) (in_8 hX.1 (by omega)) kk_8 mV_X8_hasRun ln_X11_138 rfl (Nat.le_of_ble_eq_true rfl) (Nat.le_of_ble_eq_true rfl) (k_X8_hasRun hX a6 v4 v5 (by omega) σ hp16) dX11_pour_101 rfl rfl ?_
          refine bt_ne (pc := 104) 113 dX11_pour_104 rfl (fun c17 => ?_) (fun c17 => ?_)
          · replace hf := am_ifT c17 hf
            refine g_aload (pc := 113) 1 rfl dX11_pour_113 ?_
            refine g_getC (pc := 115) (e := a2) (in_8 hX.1 (by omega)) fr_X11_142 dX11_pour_115 rfl ?_
            refine g_iload_n (pc := 118) 4 rfl dX11_pour_118 rfl ?_
            refine g_aload (pc := 119) 0 rfl dX11_pour_119 ?_
            refine g_getC (pc := 121) (e := a6) (in_8 hX.1 (by omega)) fr_X11_142 dX11_pour_121 rfl ?_
            refine g_iload (pc := 124) 6 rfl dX11_pour_124 ?_
            refine g_iload (pc := 126) 7 rfl dX11_pour_126 ?_
            obtain ⟨s18, hs18, hf⟩ := am_bd hf
            refine g_acp (pc := 128) (in_902 hX.1 (by omega)) (in_902 hX.1 (by omega)) ak_902 (Nat.le_of_ble_eq_true rfl) (Nat.le_of_ble_eq_true rfl) sp_X11_146 hs18 dX11_pour_128 ?_
            refine g_aload_n (pc := 131) 2 rfl dX11_pour_131 rfl ?_
            obtain ⟨p19, hp19, hf⟩ := am_bd hf
            refine g_cV (pc := 132) (As := []) (st := []) (st1 := [.int (am_b p19.1)]) (in_11 hX.1 (by omega)) kk_11 mV_X11_yes ln_X11_112 rfl (Nat.le_of_ble_eq_true rfl) (Nat.le_of_ble_eq_true rfl) (k_X11_yes hX s18 hp19) dX11_pour_132 rfl rfl ?_
            have ho := Option.some.inj hf
            subst ho
            exact g_zreturn (pc := 135) (st := []) (x := p19.1) rfl dX11_pour_135 hk
          replace hf := am_ifF c17 hf
          exact am_sub [2] rfl (q_X11_pour_107 hX σ hf hk)
        replace hf := am_ifF c15 hf
        exact am_sub [2] rfl (q_X11_pour_107 hX σ hf hk)
      replace hf := am_ifF c11 hf
      refine g_aload_n (pc := 65) 2 rfl dX11_pour_65 rfl ?_
      refine g_bipush (pc := 66) (v := 11) dX11_pour_66 (by decide) ?_
      obtain ⟨p20, hp20, hf⟩ := am_bd hf
      refine g_cV (pc := 68) (As := [.int 11]) (st := []) (st1 := [.int (am_b p20.1)]) (in_11 hX.1 (by omega)) kk_11 mV_X11_no ln_X11_104 rfl (Nat.le_of_ble_eq_true rfl) (Nat.le_of_ble_eq_true rfl) (k_X11_no hX 11 σ hp20) dX11_pour_68 rfl rfl ?_
      have ho := Option.some.inj hf
      subst ho
      exact g_zreturn (pc := 71) (st := []) (x := p20.1) rfl dX11_pour_71 hk
theorem k_X11_pour {X : am_X} (hX : am_wC X) (v1 : Int32) (v2 : Int32) (v3 : Int32) (v4 : Int32) (v5 : Int32) (σ : am_H) {o : Bool × am_H} (hf : f_X11_pour v1 v2 v3 v4 v5 σ = some o) : am_C X gm_X11_pour [.ref (am_ad X 11 0), .int v1, .int v2, .int v3, .int v4, .int v5] σ (am_is (some (.int (am_b o.1))) o.2) :=
  am_ofG rfl (Nat.le_of_ble_eq_true rfl) rfl (q_X11_pour hX v1 v2 v3 v4 v5 σ hf ⟨rfl, rfl⟩)
theorem dX11_feed_0 : decode cX11_feed 0 = .ok (.aload_n 0, 1) := by decide +kernel
theorem dX11_feed_1 : decode cX11_feed 1 = .ok (.getfield 23, 3) := by decide +kernel
theorem dX11_feed_4 : decode cX11_feed 4 = .ok (.getfield 152, 3) := by decide +kernel
theorem dX11_feed_7 : decode cX11_feed 7 = .ok (.bipush 20, 2) := by decide +kernel
theorem dX11_feed_9 : decode cX11_feed 9 = .ok (.iadd, 1) := by decide +kernel
theorem dX11_feed_10 : decode cX11_feed 10 = .ok (.sipush 600, 3) := by decide +kernel
theorem dX11_feed_13 : decode cX11_feed 13 = .ok (.if_icmp .le 5, 3) := by decide +kernel
theorem dX11_feed_16 : decode cX11_feed 16 = .ok (.iconst (-1), 1) := by decide +kernel
theorem dX11_feed_17 : decode cX11_feed 17 = .ok (.ireturn, 1) := by decide +kernel
theorem dX11_feed_18 : decode cX11_feed 18 = .ok (.aload_n 0, 1) := by decide +kernel
theorem dX11_feed_19 : decode cX11_feed 19 = .ok (.getfield 23, 3) := by decide +kernel
theorem dX11_feed_22 : decode cX11_feed 22 = .ok (.iload_n 1, 1) := by decide +kernel
theorem dX11_feed_23 : decode cX11_feed 23 = .ok (.invokevirtual 155, 3) := by decide +kernel
theorem dX11_feed_26 : decode cX11_feed 26 = .ok (.aload_n 0, 1) := by decide +kernel
theorem dX11_feed_27 : decode cX11_feed 27 = .ok (.getfield 23, 3) := by decide +kernel
theorem dX11_feed_30 : decode cX11_feed 30 = .ok (.iload_n 2, 1) := by decide +kernel
theorem dX11_feed_31 : decode cX11_feed 31 = .ok (.invokevirtual 155, 3) := by decide +kernel
theorem dX11_feed_34 : decode cX11_feed 34 = .ok (.aload_n 0, 1) := by decide +kernel
theorem dX11_feed_35 : decode cX11_feed 35 = .ok (.getfield 23, 3) := by decide +kernel
theorem dX11_feed_38 : decode cX11_feed 38 = .ok (.iload_n 3, 1) := by decide +kernel
theorem dX11_feed_39 : decode cX11_feed 39 = .ok (.invokevirtual 155, 3) := by decide +kernel
theorem dX11_feed_42 : decode cX11_feed 42 = .ok (.aload_n 0, 1) := by decide +kernel
theorem dX11_feed_43 : decode cX11_feed 43 = .ok (.getfield 23, 3) := by decide +kernel
theorem dX11_feed_46 : decode cX11_feed 46 = .ok (.iload 4, 2) := by decide +kernel
theorem dX11_feed_48 : decode cX11_feed 48 = .ok (.invokevirtual 155, 3) := by decide +kernel
theorem dX11_feed_51 : decode cX11_feed 51 = .ok (.aload_n 0, 1) := by decide +kernel
theorem dX11_feed_52 : decode cX11_feed 52 = .ok (.getfield 23, 3) := by decide +kernel
theorem dX11_feed_55 : decode cX11_feed 55 = .ok (.iload 5, 2) := by decide +kernel
theorem dX11_feed_57 : decode cX11_feed 57 = .ok (.invokevirtual 155, 3) := by decide +kernel
theorem dX11_feed_60 : decode cX11_feed 60 = .ok (.aload_n 0, 1) := by decide +kernel
theorem dX11_feed_61 : decode cX11_feed 61 = .ok (.getfield 23, 3) := by decide +kernel
theorem dX11_feed_64 : decode cX11_feed 64 = .ok (.getfield 152, 3) := by decide +kernel
theorem dX11_feed_67 : decode cX11_feed 67 = .ok (.ireturn, 1) := by decide +kernel
noncomputable def f_X11_feed (v1 : Int32) (v2 : Int32) (v3 : Int32) (v4 : Int32) (v5 : Int32) (σ : am_H) : Option (Int32 × am_H) :=
  if 600 < ((σ.1 5 0 1) + 20) then
   (some ((-1), σ))
  else
  (f_X5_append v1 σ).bind fun p2 =>
  (f_X5_append v2 p2).bind fun p3 =>
  (f_X5_append v3 p3).bind fun p4 =>
  (f_X5_append v4 p4).bind fun p5 =>
  (f_X5_append v5 p5).bind fun p6 =>
  some ((p6.1 5 0 1), p6)
set_option maxRecDepth 100000 in
set_option maxHeartbeats 4000000 in
theorem q_X11_feed {X : am_X} (hX : am_wC X) {Q : Option Value → am_H → Prop} (v1 : Int32) (v2 : Int32) (v3 : Int32) (v4 : Int32) (v5 : Int32) (σ : am_H) {o : Int32 × am_H} (hf : f_X11_feed v1 v2 v3 v4 v5 σ = some o) (hk : Q (some (.int o.1)) o.2) : am_G X gm_X11_feed Q 0 [(0, .ref (am_ad X 11 0)), (1, .int v1), (2, .int v2), (3, .int v3), (4, .int v4), (5, .int v5)] [] σ := by
  unfold f_X11_feed at hf
  refine g_aload_n (pc := 0) 0 rfl dX11_feed_0 rfl ?_
  refine g_getC (pc := 1) (e := 0) (in_11 hX.1 (by omega)) fr_X11_23 dX11_feed_1 rfl ?_
  refine g_getI (pc := 4) (in_5 hX.1 (by omega)) fr_X11_152 dX11_feed_4 ?_
  refine g_bipush (pc := 7) (v := 20) dX11_feed_7 (by decide) ?_
  refine g_iadd (pc := 9) dX11_feed_9 ?_
  refine g_sipush (pc := 10) (v := 600) dX11_feed_10 (by decide) ?_
  refine bi_le (pc := 13) 18 dX11_feed_13 rfl (fun c1 => ?_) (fun c1 => ?_)
  · replace hf := am_ifT c1 hf
    refine g_iconst (pc := 16) (v := (-1)) dX11_feed_16 (by decide) ?_
    have ho := Option.some.inj hf
    subst ho
    exact g_ireturn (pc := 17) (st := []) rfl dX11_feed_17 hk
  replace hf := am_ifF c1 hf
  refine g_aload_n (pc := 18) 0 rfl dX11_feed_18 rfl ?_
  refine g_getC (pc := 19) (e := 0) (in_11 hX.1 (by omega)) fr_X11_23 dX11_feed_19 rfl ?_
  refine g_iload_n (pc := 22) 1 rfl dX11_feed_22 rfl ?_
  obtain ⟨p2, hp2, hf⟩ := am_bd hf
  refine g_cV (pc := 23) (As := [.int v1]) (st := []) (st1 := []) (in_5 hX.1 (by omega)) kk_5 mV_X5_append ln_X11_155 rfl (Nat.le_of_ble_eq_true rfl) (Nat.le_of_ble_eq_true rfl) (k_X5_append hX v1 σ hp2) dX11_feed_23 rfl rfl ?_
  refine g_aload_n (pc := 26) 0 rfl dX11_feed_26 rfl ?_
  refine g_getC (pc := 27) (e := 0) (in_11 hX.1 (by omega)) fr_X11_23 dX11_feed_27 rfl ?_
  refine g_iload_n (pc := 30) 2 rfl dX11_feed_30 rfl ?_
  obtain ⟨p3, hp3, hf⟩ := am_bd hf
  refine g_cV (pc := 31) (As := [.int v2]) (st := []) (st1 := []) (in_5 hX.1 (by omega)) kk_5 mV_X5_append ln_X11_155 rfl (Nat.le_of_ble_eq_true rfl) (Nat.le_of_ble_eq_true rfl) (k_X5_append hX v2 p2 hp3) dX11_feed_31 rfl rfl ?_
  refine g_aload_n (pc := 34) 0 rfl dX11_feed_34 rfl ?_
  refine g_getC (pc := 35) (e := 0) (in_11 hX.1 (by omega)) fr_X11_23 dX11_feed_35 rfl ?_
  refine g_iload_n (pc := 38) 3 rfl dX11_feed_38 rfl ?_
  obtain ⟨p4, hp4, hf⟩ := am_bd hf
  refine g_cV (pc := 39) (As := [.int v3]) (st := []) (st1 := []) (in_5 hX.1 (by omega)) kk_5 mV_X5_append ln_X11_155 rfl (Nat.le_of_ble_eq_true rfl) (Nat.le_of_ble_eq_true rfl) (k_X5_append hX v3 p3 hp4) dX11_feed_39 rfl rfl ?_
  refine g_aload_n (pc := 42) 0 rfl dX11_feed_42 rfl ?_
  refine g_getC (pc := 43) (e := 0) (in_11 hX.1 (by omega)) fr_X11_23 dX11_feed_43 rfl ?_
  refine g_iload (pc := 46) 4 rfl dX11_feed_46 ?_
  obtain ⟨p5, hp5, hf⟩ := am_bd hf
  refine g_cV (pc := 48) (As := [.int v4]) (st := []) (st1 := []) (in_5 hX.1 (by omega)) kk_5 mV_X5_append ln_X11_155 rfl (Nat.le_of_ble_eq_true rfl) (Nat.le_of_ble_eq_true rfl) (k_X5_append hX v4 p4 hp5) dX11_feed_48 rfl rfl ?_
  refine g_aload_n (pc := 51) 0 rfl dX11_feed_51 rfl ?_
  refine g_getC (pc := 52) (e := 0) (in_11 hX.1 (by omega)) fr_X11_23 dX11_feed_52 rfl ?_
  refine g_iload (pc := 55) 5 rfl dX11_feed_55 ?_
  obtain ⟨p6, hp6, hf⟩ := am_bd hf
  refine g_cV (pc := 57) (As := [.int v5]) (st := []) (st1 := []) (in_5 hX.1 (by omega)) kk_5 mV_X5_append ln_X11_155 rfl (Nat.le_of_ble_eq_true rfl) (Nat.le_of_ble_eq_true rfl) (k_X5_append hX v5 p5 hp6) dX11_feed_57 rfl rfl ?_
  refine g_aload_n (pc := 60) 0 rfl dX11_feed_60 rfl ?_
  refine g_getC (pc := 61) (e := 0) (in_11 hX.1 (by omega)) fr_X11_23 dX11_feed_61 rfl ?_
  refine g_getI (pc := 64) (in_5 hX.1 (by omega)) fr_X11_152 dX11_feed_64 ?_
  have ho := Option.some.inj hf
  subst ho
  exact g_ireturn (pc := 67) (st := []) rfl dX11_feed_67 hk
theorem k_X11_feed {X : am_X} (hX : am_wC X) (v1 : Int32) (v2 : Int32) (v3 : Int32) (v4 : Int32) (v5 : Int32) (σ : am_H) {o : Int32 × am_H} (hf : f_X11_feed v1 v2 v3 v4 v5 σ = some o) : am_C X gm_X11_feed [.ref (am_ad X 11 0), .int v1, .int v2, .int v3, .int v4, .int v5] σ (am_is (some (.int o.1)) o.2) :=
  am_ofG rfl (Nat.le_of_ble_eq_true rfl) rfl (q_X11_feed hX v1 v2 v3 v4 v5 σ hf ⟨rfl, rfl⟩)
theorem dX11_machineOf_0 : decode cX11_machineOf 0 = .ok (.iload_n 1, 1) := by decide +kernel
theorem dX11_machineOf_1 : decode cX11_machineOf 1 = .ok (.ifCond .lt 8, 3) := by decide +kernel
theorem dX11_machineOf_4 : decode cX11_machineOf 4 = .ok (.iload_n 1, 1) := by decide +kernel
theorem dX11_machineOf_5 : decode cX11_machineOf 5 = .ok (.iconst 1, 1) := by decide +kernel
theorem dX11_machineOf_6 : decode cX11_machineOf 6 = .ok (.if_icmp .le 7, 3) := by decide +kernel
theorem dX11_machineOf_9 : decode cX11_machineOf 9 = .ok (.aconst_null, 1) := by decide +kernel
theorem dX11_machineOf_10 : decode cX11_machineOf 10 = .ok (.goto 9, 3) := by decide +kernel
theorem dX11_machineOf_13 : decode cX11_machineOf 13 = .ok (.aload_n 0, 1) := by decide +kernel
theorem dX11_machineOf_14 : decode cX11_machineOf 14 = .ok (.getfield 36, 3) := by decide +kernel
theorem dX11_machineOf_17 : decode cX11_machineOf 17 = .ok (.iload_n 1, 1) := by decide +kernel
theorem dX11_machineOf_18 : decode cX11_machineOf 18 = .ok (.aaload, 1) := by decide +kernel
theorem dX11_machineOf_19 : decode cX11_machineOf 19 = .ok (.areturn, 1) := by decide +kernel
noncomputable def f_X11_machineOf (v1 : Int32) (σ : am_H) : Option (Option Nat) :=
  if v1 < 0 then
   (some none)
  else
  if 1 < v1 then
   (some none)
  else
  (am_ix 2 v1).bind fun j3 =>
  (am_rr 3 (σ.2.2 1205 0 j3)).bind fun a4 =>
  some (some a4)
set_option maxRecDepth 100000 in
set_option maxHeartbeats 4000000 in
theorem q_X11_machineOf {X : am_X} (hX : am_wC X) {Q : Option Value → am_H → Prop} (v1 : Int32) (σ : am_H) {o : Option Nat} (hf : f_X11_machineOf v1 σ = some o) (hk : Q (some (va_rf (o.map (am_ad X 3)))) σ) : am_G X gm_X11_machineOf Q 0 [(0, .ref (am_ad X 11 0)), (1, .int v1)] [] σ := by
  unfold f_X11_machineOf at hf
  refine g_iload_n (pc := 0) 1 rfl dX11_machineOf_0 rfl ?_
  refine bz_lt (pc := 1) 9 dX11_machineOf_1 rfl (fun c1 => ?_) (fun c1 => ?_)
  · replace hf := am_ifT c1 hf
    refine g_null (pc := 9) dX11_machineOf_9 ?_
    refine g_goto (pc := 10) 19 dX11_machineOf_10 rfl ?_
    have ho := Option.some.inj hf
    subst ho
    exact g_areturn (pc := 19) (st := []) rfl (Or.inl rfl) dX11_machineOf_19 hk
  replace hf := am_ifF c1 hf
  refine g_iload_n (pc := 4) 1 rfl dX11_machineOf_4 rfl ?_
  refine g_iconst (pc := 5) (v := 1) dX11_machineOf_5 (by decide) ?_
  refine bi_le (pc := 6) 13 dX11_machineOf_6 rfl (fun c2 => ?_) (fun c2 => ?_)
  · replace hf := am_ifT c2 hf
    refine g_null (pc := 9) dX11_machineOf_9 ?_
    refine g_goto (pc := 10) 19 dX11_machineOf_10 rfl ?_
    have ho := Option.some.inj hf
    subst ho
    exact g_areturn (pc := 19) (st := []) rfl (Or.inl rfl) dX11_machineOf_19 hk
  replace hf := am_ifF c2 hf
  refine g_aload_n (pc := 13) 0 rfl dX11_machineOf_13 rfl ?_
  refine g_getC (pc := 14) (e := 0) (in_11 hX.1 (by omega)) fr_X11_36 dX11_machineOf_14 rfl ?_
  refine g_iload_n (pc := 17) 1 rfl dX11_machineOf_17 rfl ?_
  obtain ⟨j3, hj3, hf⟩ := am_bd hf
  have gj3 := am_ix_lt hj3
  obtain ⟨a4, ha4, hf⟩ := am_bd hf
  obtain ⟨ha4, ga4⟩ := am_rr_in ha4
  refine g_aM (pc := 18) (in_1205 hX.1 (by omega)) ak_1205 hj3 ha4 dX11_machineOf_18 ?_
  have ho := Option.some.inj hf
  subst ho
  exact g_areturn (pc := 19) (st := []) rfl (Or.inr ⟨_, rfl⟩) dX11_machineOf_19 hk
theorem k_X11_machineOf {X : am_X} (hX : am_wC X) (v1 : Int32) (σ : am_H) {o : Option Nat} (hf : f_X11_machineOf v1 σ = some o) : am_C X gm_X11_machineOf [.ref (am_ad X 11 0), .int v1] σ (am_is (some (va_rf (o.map (am_ad X 3)))) σ) :=
  am_ofG rfl (Nat.le_of_ble_eq_true rfl) rfl (q_X11_machineOf hX v1 σ hf ⟨rfl, rfl⟩)
theorem dX11_answer_0 : decode cX11_answer 0 = .ok (.aload_n 0, 1) := by decide +kernel
theorem dX11_answer_1 : decode cX11_answer 1 = .ok (.iconst 0, 1) := by decide +kernel
theorem dX11_answer_2 : decode cX11_answer 2 = .ok (.putfield 9, 3) := by decide +kernel
theorem dX11_answer_5 : decode cX11_answer 5 = .ok (.iload_n 1, 1) := by decide +kernel
theorem dX11_answer_6 : decode cX11_answer 6 = .ok (.ireturn, 1) := by decide +kernel
noncomputable def f_X11_answer (v1 : Int32) (σ : am_H) : Option (Int32 × am_H) :=
  (some (am_wI σ 11 0 0 0)).bind fun s1 =>
  some (v1, s1)
set_option maxRecDepth 100000 in
set_option maxHeartbeats 4000000 in
theorem q_X11_answer {X : am_X} (hX : am_wC X) {Q : Option Value → am_H → Prop} (v1 : Int32) (σ : am_H) {o : Int32 × am_H} (hf : f_X11_answer v1 σ = some o) (hk : Q (some (.int o.1)) o.2) : am_G X gm_X11_answer Q 0 [(0, .ref (am_ad X 11 0)), (1, .int v1)] [] σ := by
  unfold f_X11_answer at hf
  refine g_aload_n (pc := 0) 0 rfl dX11_answer_0 rfl ?_
  refine g_iconst (pc := 1) (v := 0) dX11_answer_1 (by decide) ?_
  obtain ⟨s1, hs1, hf⟩ := am_bd hf
  refine g_setI (pc := 2) (in_11 hX.1 (by omega)) fr_X11_9 dX11_answer_2 (Option.some.inj hs1) ?_
  refine g_iload_n (pc := 5) 1 rfl dX11_answer_5 rfl ?_
  have ho := Option.some.inj hf
  subst ho
  exact g_ireturn (pc := 6) (st := []) rfl dX11_answer_6 hk
theorem k_X11_answer {X : am_X} (hX : am_wC X) (v1 : Int32) (σ : am_H) {o : Int32 × am_H} (hf : f_X11_answer v1 σ = some o) : am_C X gm_X11_answer [.ref (am_ad X 11 0), .int v1] σ (am_is (some (.int o.1)) o.2) :=
  am_ofG rfl (Nat.le_of_ble_eq_true rfl) rfl (q_X11_answer hX v1 σ hf ⟨rfl, rfl⟩)
theorem dX11_machine_0 : decode cX11_machine 0 = .ok (.aload_n 0, 1) := by decide +kernel
theorem dX11_machine_1 : decode cX11_machine 1 = .ok (.iload_n 1, 1) := by decide +kernel
theorem dX11_machine_2 : decode cX11_machine 2 = .ok (.invokevirtual 159, 3) := by decide +kernel
theorem dX11_machine_5 : decode cX11_machine 5 = .ok (.ifnonnull 9, 3) := by decide +kernel
theorem dX11_machine_8 : decode cX11_machine 8 = .ok (.aload_n 0, 1) := by decide +kernel
theorem dX11_machine_9 : decode cX11_machine 9 = .ok (.iconst 2, 1) := by decide +kernel
theorem dX11_machine_10 : decode cX11_machine 10 = .ok (.invokevirtual 124, 3) := by decide +kernel
theorem dX11_machine_13 : decode cX11_machine 13 = .ok (.ireturn, 1) := by decide +kernel
theorem dX11_machine_14 : decode cX11_machine 14 = .ok (.iload_n 2, 1) := by decide +kernel
theorem dX11_machine_15 : decode cX11_machine 15 = .ok (.ifCond .lt 14, 3) := by decide +kernel
theorem dX11_machine_18 : decode cX11_machine 18 = .ok (.iload_n 2, 1) := by decide +kernel
theorem dX11_machine_19 : decode cX11_machine 19 = .ok (.aload_n 0, 1) := by decide +kernel
theorem dX11_machine_20 : decode cX11_machine 20 = .ok (.getfield 23, 3) := by decide +kernel
theorem dX11_machine_23 : decode cX11_machine 23 = .ok (.getfield 152, 3) := by decide +kernel
theorem dX11_machine_26 : decode cX11_machine 26 = .ok (.if_icmp .le 9, 3) := by decide +kernel
theorem dX11_machine_29 : decode cX11_machine 29 = .ok (.aload_n 0, 1) := by decide +kernel
theorem dX11_machine_30 : decode cX11_machine 30 = .ok (.iconst 5, 1) := by decide +kernel
theorem dX11_machine_31 : decode cX11_machine 31 = .ok (.invokevirtual 124, 3) := by decide +kernel
theorem dX11_machine_34 : decode cX11_machine 34 = .ok (.ireturn, 1) := by decide +kernel
theorem dX11_machine_35 : decode cX11_machine 35 = .ok (.aload_n 0, 1) := by decide +kernel
theorem dX11_machine_36 : decode cX11_machine 36 = .ok (.getfield 23, 3) := by decide +kernel
theorem dX11_machine_39 : decode cX11_machine 39 = .ok (.iload_n 2, 1) := by decide +kernel
theorem dX11_machine_40 : decode cX11_machine 40 = .ok (.invokevirtual 163, 3) := by decide +kernel
theorem dX11_machine_43 : decode cX11_machine 43 = .ok (.aload_n 0, 1) := by decide +kernel
theorem dX11_machine_44 : decode cX11_machine 44 = .ok (.getfield 41, 3) := by decide +kernel
theorem dX11_machine_47 : decode cX11_machine 47 = .ok (.aload_n 0, 1) := by decide +kernel
theorem dX11_machine_48 : decode cX11_machine 48 = .ok (.getfield 23, 3) := by decide +kernel
theorem dX11_machine_51 : decode cX11_machine 51 = .ok (.invokevirtual 166, 3) := by decide +kernel
theorem dX11_machine_54 : decode cX11_machine 54 = .ok (.istore_n 3, 1) := by decide +kernel
theorem dX11_machine_55 : decode cX11_machine 55 = .ok (.aload_n 0, 1) := by decide +kernel
theorem dX11_machine_56 : decode cX11_machine 56 = .ok (.getfield 23, 3) := by decide +kernel
theorem dX11_machine_59 : decode cX11_machine 59 = .ok (.invokevirtual 170, 3) := by decide +kernel
theorem dX11_machine_62 : decode cX11_machine 62 = .ok (.iload_n 3, 1) := by decide +kernel
theorem dX11_machine_63 : decode cX11_machine 63 = .ok (.ifCond .ne 10, 3) := by decide +kernel
theorem dX11_machine_66 : decode cX11_machine 66 = .ok (.aload_n 0, 1) := by decide +kernel
theorem dX11_machine_67 : decode cX11_machine 67 = .ok (.bipush 10, 2) := by decide +kernel
theorem dX11_machine_69 : decode cX11_machine 69 = .ok (.invokevirtual 124, 3) := by decide +kernel
theorem dX11_machine_72 : decode cX11_machine 72 = .ok (.ireturn, 1) := by decide +kernel
theorem dX11_machine_73 : decode cX11_machine 73 = .ok (.aload_n 0, 1) := by decide +kernel
theorem dX11_machine_74 : decode cX11_machine 74 = .ok (.getfield 36, 3) := by decide +kernel
theorem dX11_machine_77 : decode cX11_machine 77 = .ok (.iload_n 1, 1) := by decide +kernel
theorem dX11_machine_78 : decode cX11_machine 78 = .ok (.aaload, 1) := by decide +kernel
theorem dX11_machine_79 : decode cX11_machine 79 = .ok (.astore 4, 2) := by decide +kernel
theorem dX11_machine_81 : decode cX11_machine 81 = .ok (.aload_n 0, 1) := by decide +kernel
theorem dX11_machine_82 : decode cX11_machine 82 = .ok (.getfield 36, 3) := by decide +kernel
theorem dX11_machine_85 : decode cX11_machine 85 = .ok (.iload_n 1, 1) := by decide +kernel
theorem dX11_machine_86 : decode cX11_machine 86 = .ok (.aload_n 0, 1) := by decide +kernel
theorem dX11_machine_87 : decode cX11_machine 87 = .ok (.getfield 41, 3) := by decide +kernel
theorem dX11_machine_90 : decode cX11_machine 90 = .ok (.aastore, 1) := by decide +kernel
theorem dX11_machine_91 : decode cX11_machine 91 = .ok (.aload_n 0, 1) := by decide +kernel
theorem dX11_machine_92 : decode cX11_machine 92 = .ok (.aload 4, 2) := by decide +kernel
theorem dX11_machine_94 : decode cX11_machine 94 = .ok (.putfield 41, 3) := by decide +kernel
theorem dX11_machine_97 : decode cX11_machine 97 = .ok (.aload_n 0, 1) := by decide +kernel
theorem dX11_machine_98 : decode cX11_machine 98 = .ok (.aload_n 0, 1) := by decide +kernel
theorem dX11_machine_99 : decode cX11_machine 99 = .ok (.getfield 36, 3) := by decide +kernel
theorem dX11_machine_102 : decode cX11_machine 102 = .ok (.iload_n 1, 1) := by decide +kernel
theorem dX11_machine_103 : decode cX11_machine 103 = .ok (.aaload, 1) := by decide +kernel
theorem dX11_machine_104 : decode cX11_machine 104 = .ok (.getfield 173, 3) := by decide +kernel
theorem dX11_machine_107 : decode cX11_machine 107 = .ok (.invokevirtual 176, 3) := by decide +kernel
theorem dX11_machine_110 : decode cX11_machine 110 = .ok (.ireturn, 1) := by decide +kernel
noncomputable def f_X11_machine_29 (σ : am_H) : Option (Int32 × am_H) :=
  (f_X11_none 5 σ).bind fun p1 =>
  some (p1.1, p1.2)
set_option maxRecDepth 100000 in
set_option maxHeartbeats 4000000 in
theorem q_X11_machine_29 {X : am_X} (hX : am_wC X) {Q : Option Value → am_H → Prop} (σ : am_H) {o : Int32 × am_H} (hf : f_X11_machine_29 σ = some o) (hk : Q (some (.int o.1)) o.2) : am_G X gm_X11_machine Q 29 [(0, .ref (am_ad X 11 0))] [] σ := by
  unfold f_X11_machine_29 at hf
  refine g_aload_n (pc := 29) 0 rfl dX11_machine_29 rfl ?_
  refine g_iconst (pc := 30) (v := 5) dX11_machine_30 (by decide) ?_
  obtain ⟨p1, hp1, hf⟩ := am_bd hf
  refine g_cV (pc := 31) (As := [.int 5]) (st := []) (st1 := [.int p1.1]) (in_11 hX.1 (by omega)) kk_11 mV_X11_none ln_X11_124 rfl (Nat.le_of_ble_eq_true rfl) (Nat.le_of_ble_eq_true rfl) (k_X11_none hX 5 σ hp1) dX11_machine_31 rfl rfl ?_
  have ho := Option.some.inj hf
  subst ho
  exact g_ireturn (pc := 34) (st := []) rfl dX11_machine_34 hk
noncomputable def f_X11_machine (v1 : Int32) (v2 : Int32) (σ : am_H) : Option (Int32 × am_H) :=
  (f_X11_machineOf v1 σ).bind fun p1 =>
  am_nn 3 p1
   ((f_X11_none 2 σ).bind fun p3 =>
   some (p3.1, p3.2))
   (fun a2 =>
   if v2 < 0 then
    (f_X11_machine_29 σ)
   else
   if (σ.1 5 0 1) < v2 then
    (f_X11_machine_29 σ)
   else
   (f_X5_begin v2 σ).bind fun p6 =>
   (am_rr 3 (p6.2.2 11 0 6)).bind fun a7 =>
   (f_X3_readFrom a7 p6).bind fun p8 =>
   (f_X5_empty p8.2).bind fun p9 =>
   if p8.1 = true then
    ((am_ix 2 v1).bind fun j11 =>
    (am_rr 3 (p9.2.2 1205 0 j11)).bind fun a12 =>
    (am_rr 3 (p9.2.2 11 0 6)).bind fun a13 =>
    (am_ix 2 v1).bind fun j14 =>
    (some (am_wR p9 1205 0 j14 (some a13))).bind fun s15 =>
    (some (am_wR s15 11 0 6 (some a12))).bind fun s16 =>
    (am_ix 2 v1).bind fun j17 =>
    (am_rr 3 (s16.2.2 1205 0 j17)).bind fun a18 =>
    (f_X11_answer (s16.1 3 a18 1) s16).bind fun p19 =>
    some (p19.1, p19.2))
   else
   (f_X11_none 10 p9).bind fun p20 =>
   some (p20.1, p20.2))
set_option maxRecDepth 100000 in
set_option maxHeartbeats 4000000 in
theorem q_X11_machine {X : am_X} (hX : am_wC X) {Q : Option Value → am_H → Prop} (v1 : Int32) (v2 : Int32) (σ : am_H) {o : Int32 × am_H} (hf : f_X11_machine v1 v2 σ = some o) (hk : Q (some (.int o.1)) o.2) : am_G X gm_X11_machine Q 0 [(0, .ref (am_ad X 11 0)), (1, .int v1), (2, .int v2)] [] σ := by
  unfold f_X11_machine at hf
  refine g_aload_n (pc := 0) 0 rfl dX11_machine_0 rfl ?_
  refine g_iload_n (pc := 1) 1 rfl dX11_machine_1 rfl ?_
  obtain ⟨p1, hp1, hf⟩ := am_bd hf
  have hq := am_nn_c hf
  clear hf
  rcases hq with ⟨ep1, hf⟩ | ⟨a2, ep1, ga2, hf⟩
  · subst ep1
    refine g_cV (pc := 2) (As := [.int v1]) (st := []) (st1 := [.null]) (in_11 hX.1 (by omega)) kk_11 mV_X11_machineOf ln_X11_159 rfl (Nat.le_of_ble_eq_true rfl) (Nat.le_of_ble_eq_true rfl) (k_X11_machineOf hX v1 σ hp1) dX11_machine_2 rfl rfl ?_
    refine g_ifnonnullN (pc := 5) dX11_machine_5 ?_
    refine g_aload_n (pc := 8) 0 rfl dX11_machine_8 rfl ?_
    refine g_iconst (pc := 9) (v := 2) dX11_machine_9 (by decide) ?_
    obtain ⟨p3, hp3, hf⟩ := am_bd hf
    refine g_cV (pc := 10) (As := [.int 2]) (st := []) (st1 := [.int p3.1]) (in_11 hX.1 (by omega)) kk_11 mV_X11_none ln_X11_124 rfl (Nat.le_of_ble_eq_true rfl) (Nat.le_of_ble_eq_true rfl) (k_X11_none hX 2 σ hp3) dX11_machine_10 rfl rfl ?_
    have ho := Option.some.inj hf
    subst ho
    exact g_ireturn (pc := 13) (st := []) rfl dX11_machine_13 hk
  · subst ep1
    refine g_cV (pc := 2) (As := [.int v1]) (st := []) (st1 := [.ref (am_ad X 3 a2)]) (in_11 hX.1 (by omega)) kk_11 mV_X11_machineOf ln_X11_159 rfl (Nat.le_of_ble_eq_true rfl) (Nat.le_of_ble_eq_true rfl) (k_X11_machineOf hX v1 σ hp1) dX11_machine_2 rfl rfl ?_
    refine g_ifnonnull (pc := 5) 14 dX11_machine_5 rfl ?_
    refine g_iload_n (pc := 14) 2 rfl dX11_machine_14 rfl ?_
    refine bz_lt (pc := 15) 29 dX11_machine_15 rfl (fun c4 => ?_) (fun c4 => ?_)
    · replace hf := am_ifT c4 hf
      exact am_sub [0] rfl (q_X11_machine_29 hX σ hf hk)
    replace hf := am_ifF c4 hf
    refine g_iload_n (pc := 18) 2 rfl dX11_machine_18 rfl ?_
    refine g_aload_n (pc := 19) 0 rfl dX11_machine_19 rfl ?_
    refine g_getC (pc := 20) (e := 0) (in_11 hX.1 (by omega)) fr_X11_23 dX11_machine_20 rfl ?_
    refine g_getI (pc := 23) (in_5 hX.1 (by omega)) fr_X11_152 dX11_machine_23 ?_
    refine bi_le (pc := 26) 35 dX11_machine_26 rfl (fun c5 => ?_) (fun c5 => ?_)
    · replace hf := am_ifT c5 hf
      exact am_sub [0] rfl (q_X11_machine_29 hX σ hf hk)
    replace hf := am_ifF c5 hf
    refine g_aload_n (pc := 35) 0 rfl dX11_machine_35 rfl ?_
    refine g_getC (pc := 36) (e := 0) (in_11 hX.1 (by omega)) fr_X11_23 dX11_machine_36 rfl ?_
    refine g_iload_n (pc := 39) 2 rfl dX11_machine_39 rfl ?_
    obtain ⟨p6, hp6, hf⟩ := am_bd hf
    refine g_cV (pc := 40) (As := [.int v2]) (st := []) (st1 := []) (in_5 hX.1 (by omega)) kk_5 mV_X5_begin ln_X11_163 rfl (Nat.le_of_ble_eq_true rfl) (Nat.le_of_ble_eq_true rfl) (k_X5_begin hX v2 σ hp6) dX11_machine_40 rfl rfl ?_
    refine g_aload_n (pc := 43) 0 rfl dX11_machine_43 rfl ?_
    obtain ⟨a7, ha7, hf⟩ := am_bd hf
    obtain ⟨ha7, ga7⟩ := am_rr_in ha7
    refine g_getM (pc := 44) (in_11 hX.1 (by omega)) fr_X11_41 ha7 dX11_machine_44 ?_
    refine g_aload_n (pc := 47) 0 rfl dX11_machine_47 rfl ?_
    refine g_getC (pc := 48) (e := 0) (in_11 hX.1 (by omega)) fr_X11_23 dX11_machine_48 rfl ?_
    obtain ⟨p8, hp8, hf⟩ := am_bd hf
    refine g_cV (pc := 51) (As := [.ref (am_ad X 5 0)]) (st := []) (st1 := [.int (am_b p8.1)]) (in_3 hX.1 (by omega)) kk_3 mV_X3_readFrom ln_X11_166 rfl (Nat.le_of_ble_eq_true rfl) (Nat.le_of_ble_eq_true rfl) (k_X3_readFrom hX a7 (by omega) p6 hp8) dX11_machine_51 rfl rfl ?_
    refine g_istore_n (pc := 54) [(3, .int (am_b p8.1)), (0, .ref (am_ad X 11 0)), (1, .int v1), (2, .int v2)] dX11_machine_54 rfl (Nat.le_of_ble_eq_true rfl) rfl ?_
    refine g_aload_n (pc := 55) 1 rfl dX11_machine_55 rfl ?_
    refine g_getC (pc := 56) (e := 0) (in_11 hX.1 (by omega)) fr_X11_23 dX11_machine_56 rfl ?_
    obtain ⟨p9, hp9, hf⟩ := am_bd hf
    refine g_cV (pc := 59) (As := []) (st := []) (st1 := []) (in_5 hX.1 (by omega)) kk_5 mV_X5_empty ln_X11_170 rfl (Nat.le_of_ble_eq_true rfl) (Nat.le_of_ble_eq_true rfl) (k_X5_empty hX p8.2 hp9) dX11_machine_59 rfl rfl ?_
    refine g_iload_n (pc := 62) 0 rfl dX11_machine_62 rfl ?_
    refine bt_ne (pc := 63) 73 dX11_machine_63 rfl (fun c10 => ?_) (fun c10 => ?_)
    · replace hf := am_ifT c10 hf
      refine g_aload_n (pc := 73) 1 rfl dX11_machine_73 rfl ?_
      refine g_getC (pc := 74) (e := 0) (in_11 hX.1 (by omega)) fr_X11_36 dX11_machine_74 rfl ?_
      refine g_iload_n (pc := 77) 2 rfl dX11_machine_77 rfl ?_
      obtain ⟨j11, hj11, hf⟩ := am_bd hf
      have gj11 := am_ix_lt hj11
      obtain ⟨a12, ha12, hf⟩ := am_bd hf
      obtain ⟨ha12, ga12⟩ := am_rr_in ha12
      refine g_aM (pc := 78) (in_1205 hX.1 (by omega)) ak_1205 hj11 ha12 dX11_machine_78 ?_
      refine g_astore (pc := 79) [(4, .ref (am_ad X 3 a12)), (3, .int (am_b p8.1)), (0, .ref (am_ad X 11 0)), (1, .int v1), (2, .int v2)] dX11_machine_79 (Nat.le_of_ble_eq_true rfl) rfl ?_
      refine g_aload_n (pc := 81) 2 rfl dX11_machine_81 rfl ?_
      refine g_getC (pc := 82) (e := 0) (in_11 hX.1 (by omega)) fr_X11_36 dX11_machine_82 rfl ?_
      refine g_iload_n (pc := 85) 3 rfl dX11_machine_85 rfl ?_
      refine g_aload_n (pc := 86) 2 rfl dX11_machine_86 rfl ?_
      obtain ⟨a13, ha13, hf⟩ := am_bd hf
      obtain ⟨ha13, ga13⟩ := am_rr_in ha13
      refine g_getM (pc := 87) (in_11 hX.1 (by omega)) fr_X11_41 ha13 dX11_machine_87 ?_
      obtain ⟨j14, hj14, hf⟩ := am_bd hf
      have gj14 := am_ix_lt hj14
      obtain ⟨s15, hs15, hf⟩ := am_bd hf
      refine g_sM (pc := 90) (in_1205 hX.1 (by omega)) ak_1205 kk_3 (in_3 hX.1 (by omega)) hj14 dX11_machine_90 (Option.some.inj hs15) ?_
      refine g_aload_n (pc := 91) 2 rfl dX11_machine_91 rfl ?_
      refine g_aload (pc := 92) 0 rfl dX11_machine_92 ?_
      obtain ⟨s16, hs16, hf⟩ := am_bd hf
      refine g_setM (pc := 94) (in_11 hX.1 (by omega)) fr_X11_41 dX11_machine_94 (Option.some.inj hs16) ?_
      refine g_aload_n (pc := 97) 2 rfl dX11_machine_97 rfl ?_
      refine g_aload_n (pc := 98) 2 rfl dX11_machine_98 rfl ?_
      refine g_getC (pc := 99) (e := 0) (in_11 hX.1 (by omega)) fr_X11_36 dX11_machine_99 rfl ?_
      refine g_iload_n (pc := 102) 3 rfl dX11_machine_102 rfl ?_
      obtain ⟨j17, hj17, hf⟩ := am_bd hf
      have gj17 := am_ix_lt hj17
      obtain ⟨a18, ha18, hf⟩ := am_bd hf
      obtain ⟨ha18, ga18⟩ := am_rr_in ha18
      refine g_aM (pc := 103) (in_1205 hX.1 (by omega)) ak_1205 hj17 ha18 dX11_machine_103 ?_
      refine g_getI (pc := 104) (in_3 hX.1 (by omega)) fr_X11_173 dX11_machine_104 ?_
      obtain ⟨p19, hp19, hf⟩ := am_bd hf
      refine g_cV (pc := 107) (As := [.int (s16.1 3 a18 1)]) (st := []) (st1 := [.int p19.1]) (in_11 hX.1 (by omega)) kk_11 mV_X11_answer ln_X11_176 rfl (Nat.le_of_ble_eq_true rfl) (Nat.le_of_ble_eq_true rfl) (k_X11_answer hX (s16.1 3 a18 1) s16 hp19) dX11_machine_107 rfl rfl ?_
      have ho := Option.some.inj hf
      subst ho
      exact g_ireturn (pc := 110) (st := []) rfl dX11_machine_110 hk
    replace hf := am_ifF c10 hf
    refine g_aload_n (pc := 66) 1 rfl dX11_machine_66 rfl ?_
    refine g_bipush (pc := 67) (v := 10) dX11_machine_67 (by decide) ?_
    obtain ⟨p20, hp20, hf⟩ := am_bd hf
    refine g_cV (pc := 69) (As := [.int 10]) (st := []) (st1 := [.int p20.1]) (in_11 hX.1 (by omega)) kk_11 mV_X11_none ln_X11_124 rfl (Nat.le_of_ble_eq_true rfl) (Nat.le_of_ble_eq_true rfl) (k_X11_none hX 10 p9 hp20) dX11_machine_69 rfl rfl ?_
    have ho := Option.some.inj hf
    subst ho
    exact g_ireturn (pc := 72) (st := []) rfl dX11_machine_72 hk
theorem k_X11_machine {X : am_X} (hX : am_wC X) (v1 : Int32) (v2 : Int32) (σ : am_H) {o : Int32 × am_H} (hf : f_X11_machine v1 v2 σ = some o) : am_C X gm_X11_machine [.ref (am_ad X 11 0), .int v1, .int v2] σ (am_is (some (.int o.1)) o.2) :=
  am_ofG rfl (Nat.le_of_ble_eq_true rfl) rfl (q_X11_machine hX v1 v2 σ hf ⟨rfl, rfl⟩)
theorem dX11_fault_0 : decode cX11_fault 0 = .ok (.iload_n 1, 1) := by decide +kernel
theorem dX11_fault_1 : decode cX11_fault 1 = .ok (.ifCond .ne 11, 3) := by decide +kernel
theorem dX11_fault_4 : decode cX11_fault 4 = .ok (.aload_n 0, 1) := by decide +kernel
theorem dX11_fault_5 : decode cX11_fault 5 = .ok (.getfield 23, 3) := by decide +kernel
theorem dX11_fault_8 : decode cX11_fault 8 = .ok (.getfield 179, 3) := by decide +kernel
theorem dX11_fault_11 : decode cX11_fault 11 = .ok (.ireturn, 1) := by decide +kernel
theorem dX11_fault_12 : decode cX11_fault 12 = .ok (.iload_n 1, 1) := by decide +kernel
theorem dX11_fault_13 : decode cX11_fault 13 = .ok (.iconst 1, 1) := by decide +kernel
theorem dX11_fault_14 : decode cX11_fault 14 = .ok (.if_icmp .ne 13, 3) := by decide +kernel
theorem dX11_fault_17 : decode cX11_fault 17 = .ok (.aload_n 0, 1) := by decide +kernel
theorem dX11_fault_18 : decode cX11_fault 18 = .ok (.getfield 23, 3) := by decide +kernel
theorem dX11_fault_21 : decode cX11_fault 21 = .ok (.getfield 182, 3) := by decide +kernel
theorem dX11_fault_24 : decode cX11_fault 24 = .ok (.goto 4, 3) := by decide +kernel
theorem dX11_fault_27 : decode cX11_fault 27 = .ok (.iconst (-1), 1) := by decide +kernel
theorem dX11_fault_28 : decode cX11_fault 28 = .ok (.ireturn, 1) := by decide +kernel
noncomputable def f_X11_fault (v1 : Int32) (σ : am_H) : Option (Int32) :=
  if v1 = 0 then
   (some (σ.1 5 0 7))
  else
  if v1 = 1 then
   (some (σ.1 5 0 8))
  else
  some (-1)
set_option maxRecDepth 100000 in
set_option maxHeartbeats 4000000 in
theorem q_X11_fault {X : am_X} (hX : am_wC X) {Q : Option Value → am_H → Prop} (v1 : Int32) (σ : am_H) {o : Int32} (hf : f_X11_fault v1 σ = some o) (hk : Q (some (.int o)) σ) : am_G X gm_X11_fault Q 0 [(0, .ref (am_ad X 11 0)), (1, .int v1)] [] σ := by
  unfold f_X11_fault at hf
  refine g_iload_n (pc := 0) 1 rfl dX11_fault_0 rfl ?_
  refine bz_ne (pc := 1) 12 dX11_fault_1 rfl (fun c1 => ?_) (fun c1 => ?_)
  · replace hf := am_ifT c1 hf
    refine g_aload_n (pc := 4) 0 rfl dX11_fault_4 rfl ?_
    refine g_getC (pc := 5) (e := 0) (in_11 hX.1 (by omega)) fr_X11_23 dX11_fault_5 rfl ?_
    refine g_getI (pc := 8) (in_5 hX.1 (by omega)) fr_X11_179 dX11_fault_8 ?_
    have ho := Option.some.inj hf
    subst ho
    exact g_ireturn (pc := 11) (st := []) rfl dX11_fault_11 hk
  replace hf := am_ifF c1 hf
  refine g_iload_n (pc := 12) 1 rfl dX11_fault_12 rfl ?_
  refine g_iconst (pc := 13) (v := 1) dX11_fault_13 (by decide) ?_
  refine bi_ne (pc := 14) 27 dX11_fault_14 rfl (fun c2 => ?_) (fun c2 => ?_)
  · replace hf := am_ifT c2 hf
    refine g_aload_n (pc := 17) 0 rfl dX11_fault_17 rfl ?_
    refine g_getC (pc := 18) (e := 0) (in_11 hX.1 (by omega)) fr_X11_23 dX11_fault_18 rfl ?_
    refine g_getI (pc := 21) (in_5 hX.1 (by omega)) fr_X11_182 dX11_fault_21 ?_
    refine g_goto (pc := 24) 28 dX11_fault_24 rfl ?_
    have ho := Option.some.inj hf
    subst ho
    exact g_ireturn (pc := 28) (st := []) rfl dX11_fault_28 hk
  replace hf := am_ifF c2 hf
  refine g_iconst (pc := 27) (v := (-1)) dX11_fault_27 (by decide) ?_
  have ho := Option.some.inj hf
  subst ho
  exact g_ireturn (pc := 28) (st := []) rfl dX11_fault_28 hk
theorem k_X11_fault {X : am_X} (hX : am_wC X) (v1 : Int32) (σ : am_H) {o : Int32} (hf : f_X11_fault v1 σ = some o) : am_C X gm_X11_fault [.ref (am_ad X 11 0), .int v1] σ (am_is (some (.int o)) σ) :=
  am_ofG rfl (Nat.le_of_ble_eq_true rfl) rfl (q_X11_fault hX v1 σ hf ⟨rfl, rfl⟩)
theorem dX11_told_0 : decode cX11_told 0 = .ok (.aload_n 0, 1) := by decide +kernel
theorem dX11_told_1 : decode cX11_told 1 = .ok (.iload_n 1, 1) := by decide +kernel
theorem dX11_told_2 : decode cX11_told 2 = .ok (.invokevirtual 159, 3) := by decide +kernel
theorem dX11_told_5 : decode cX11_told 5 = .ok (.astore_n 3, 1) := by decide +kernel
theorem dX11_told_6 : decode cX11_told 6 = .ok (.aload_n 3, 1) := by decide +kernel
theorem dX11_told_7 : decode cX11_told 7 = .ok (.ifnonnull 9, 3) := by decide +kernel
theorem dX11_told_10 : decode cX11_told 10 = .ok (.aload_n 0, 1) := by decide +kernel
theorem dX11_told_11 : decode cX11_told 11 = .ok (.iconst 2, 1) := by decide +kernel
theorem dX11_told_12 : decode cX11_told 12 = .ok (.invokevirtual 124, 3) := by decide +kernel
theorem dX11_told_15 : decode cX11_told 15 = .ok (.ireturn, 1) := by decide +kernel
theorem dX11_told_16 : decode cX11_told 16 = .ok (.iload_n 2, 1) := by decide +kernel
theorem dX11_told_17 : decode cX11_told 17 = .ok (.tableswitch 75 0 3 #[31, 40, 49, 62], 31) := by decide +kernel
theorem dX11_told_48 : decode cX11_told 48 = .ok (.aload_n 0, 1) := by decide +kernel
theorem dX11_told_49 : decode cX11_told 49 = .ok (.aload_n 3, 1) := by decide +kernel
theorem dX11_told_50 : decode cX11_told 50 = .ok (.getfield 173, 3) := by decide +kernel
theorem dX11_told_53 : decode cX11_told 53 = .ok (.invokevirtual 176, 3) := by decide +kernel
theorem dX11_told_56 : decode cX11_told 56 = .ok (.ireturn, 1) := by decide +kernel
theorem dX11_told_57 : decode cX11_told 57 = .ok (.aload_n 0, 1) := by decide +kernel
theorem dX11_told_58 : decode cX11_told 58 = .ok (.aload_n 3, 1) := by decide +kernel
theorem dX11_told_59 : decode cX11_told 59 = .ok (.getfield 185, 3) := by decide +kernel
theorem dX11_told_62 : decode cX11_told 62 = .ok (.invokevirtual 176, 3) := by decide +kernel
theorem dX11_told_65 : decode cX11_told 65 = .ok (.ireturn, 1) := by decide +kernel
theorem dX11_told_66 : decode cX11_told 66 = .ok (.aload_n 0, 1) := by decide +kernel
theorem dX11_told_67 : decode cX11_told 67 = .ok (.aload_n 3, 1) := by decide +kernel
theorem dX11_told_68 : decode cX11_told 68 = .ok (.getfield 188, 3) := by decide +kernel
theorem dX11_told_71 : decode cX11_told 71 = .ok (.iconst 0, 1) := by decide +kernel
theorem dX11_told_72 : decode cX11_told 72 = .ok (.invokestatic 191, 3) := by decide +kernel
theorem dX11_told_75 : decode cX11_told 75 = .ok (.invokevirtual 176, 3) := by decide +kernel
theorem dX11_told_78 : decode cX11_told 78 = .ok (.ireturn, 1) := by decide +kernel
theorem dX11_told_79 : decode cX11_told 79 = .ok (.aload_n 0, 1) := by decide +kernel
theorem dX11_told_80 : decode cX11_told 80 = .ok (.aload_n 3, 1) := by decide +kernel
theorem dX11_told_81 : decode cX11_told 81 = .ok (.getfield 196, 3) := by decide +kernel
theorem dX11_told_84 : decode cX11_told 84 = .ok (.iconst 0, 1) := by decide +kernel
theorem dX11_told_85 : decode cX11_told 85 = .ok (.invokestatic 191, 3) := by decide +kernel
theorem dX11_told_88 : decode cX11_told 88 = .ok (.invokevirtual 176, 3) := by decide +kernel
theorem dX11_told_91 : decode cX11_told 91 = .ok (.ireturn, 1) := by decide +kernel
theorem dX11_told_92 : decode cX11_told 92 = .ok (.aload_n 0, 1) := by decide +kernel
theorem dX11_told_93 : decode cX11_told 93 = .ok (.iconst 5, 1) := by decide +kernel
theorem dX11_told_94 : decode cX11_told 94 = .ok (.invokevirtual 124, 3) := by decide +kernel
theorem dX11_told_97 : decode cX11_told 97 = .ok (.ireturn, 1) := by decide +kernel
noncomputable def f_X11_told (v1 : Int32) (v2 : Int32) (σ : am_H) : Option (Int32 × am_H) :=
  (f_X11_machineOf v1 σ).bind fun p1 =>
  am_nn 3 p1
   ((f_X11_none 2 σ).bind fun p3 =>
   some (p3.1, p3.2))
   (fun a2 =>
   if v2 = 0 then
    ((f_X11_answer (σ.1 3 a2 1) σ).bind fun p5 =>
    some (p5.1, p5.2))
   else
   if v2 = 1 then
    ((f_X11_answer (σ.1 3 a2 4) σ).bind fun p7 =>
    some (p7.1, p7.2))
   else
   if v2 = 2 then
    ((f_X11_answer (am_mx (σ.1 3 a2 5) 0) σ).bind fun p9 =>
    some (p9.1, p9.2))
   else
   if v2 = 3 then
    ((f_X11_answer (am_mx (σ.1 3 a2 6) 0) σ).bind fun p11 =>
    some (p11.1, p11.2))
   else
   (f_X11_none 5 σ).bind fun p12 =>
   some (p12.1, p12.2))
set_option maxRecDepth 100000 in
set_option maxHeartbeats 4000000 in
theorem q_X11_told {X : am_X} (hX : am_wC X) {Q : Option Value → am_H → Prop} (v1 : Int32) (v2 : Int32) (σ : am_H) {o : Int32 × am_H} (hf : f_X11_told v1 v2 σ = some o) (hk : Q (some (.int o.1)) o.2) : am_G X gm_X11_told Q 0 [(0, .ref (am_ad X 11 0)), (1, .int v1), (2, .int v2)] [] σ := by
  unfold f_X11_told at hf
  refine g_aload_n (pc := 0) 0 rfl dX11_told_0 rfl ?_
  refine g_iload_n (pc := 1) 1 rfl dX11_told_1 rfl ?_
  obtain ⟨p1, hp1, hf⟩ := am_bd hf
  have hq := am_nn_c hf
  clear hf
  rcases hq with ⟨ep1, hf⟩ | ⟨a2, ep1, ga2, hf⟩
  · subst ep1
    refine g_cV (pc := 2) (As := [.int v1]) (st := []) (st1 := [.null]) (in_11 hX.1 (by omega)) kk_11 mV_X11_machineOf ln_X11_159 rfl (Nat.le_of_ble_eq_true rfl) (Nat.le_of_ble_eq_true rfl) (k_X11_machineOf hX v1 σ hp1) dX11_told_2 rfl rfl ?_
    refine g_astoreN_n (pc := 5) [(3, .null), (0, .ref (am_ad X 11 0)), (1, .int v1), (2, .int v2)] dX11_told_5 rfl (Nat.le_of_ble_eq_true rfl) rfl ?_
    refine g_aloadN_n (pc := 6) 0 rfl dX11_told_6 rfl ?_
    refine g_ifnonnullN (pc := 7) dX11_told_7 ?_
    refine g_aload_n (pc := 10) 1 rfl dX11_told_10 rfl ?_
    refine g_iconst (pc := 11) (v := 2) dX11_told_11 (by decide) ?_
    obtain ⟨p3, hp3, hf⟩ := am_bd hf
    refine g_cV (pc := 12) (As := [.int 2]) (st := []) (st1 := [.int p3.1]) (in_11 hX.1 (by omega)) kk_11 mV_X11_none ln_X11_124 rfl (Nat.le_of_ble_eq_true rfl) (Nat.le_of_ble_eq_true rfl) (k_X11_none hX 2 σ hp3) dX11_told_12 rfl rfl ?_
    have ho := Option.some.inj hf
    subst ho
    exact g_ireturn (pc := 15) (st := []) rfl dX11_told_15 hk
  · subst ep1
    refine g_cV (pc := 2) (As := [.int v1]) (st := []) (st1 := [.ref (am_ad X 3 a2)]) (in_11 hX.1 (by omega)) kk_11 mV_X11_machineOf ln_X11_159 rfl (Nat.le_of_ble_eq_true rfl) (Nat.le_of_ble_eq_true rfl) (k_X11_machineOf hX v1 σ hp1) dX11_told_2 rfl rfl ?_
    refine g_astore_n (pc := 5) [(3, .ref (am_ad X 3 a2)), (0, .ref (am_ad X 11 0)), (1, .int v1), (2, .int v2)] dX11_told_5 rfl (Nat.le_of_ble_eq_true rfl) rfl ?_
    refine g_aload_n (pc := 6) 0 rfl dX11_told_6 rfl ?_
    refine g_ifnonnull (pc := 7) 16 dX11_told_7 rfl ?_
    refine g_iload_n (pc := 16) 3 rfl dX11_told_16 rfl ?_
    by_cases c4 : v2 = 0
    · replace hf := am_ifT c4 hf
      refine g_swE (pc := 17) 48 c4 dX11_told_17 (by decide) (by decide) rfl rfl ?_
      refine g_aload_n (pc := 48) 1 rfl dX11_told_48 rfl ?_
      refine g_aload_n (pc := 49) 0 rfl dX11_told_49 rfl ?_
      refine g_getI (pc := 50) (in_3 hX.1 (by omega)) fr_X11_173 dX11_told_50 ?_
      obtain ⟨p5, hp5, hf⟩ := am_bd hf
      refine g_cV (pc := 53) (As := [.int (σ.1 3 a2 1)]) (st := []) (st1 := [.int p5.1]) (in_11 hX.1 (by omega)) kk_11 mV_X11_answer ln_X11_176 rfl (Nat.le_of_ble_eq_true rfl) (Nat.le_of_ble_eq_true rfl) (k_X11_answer hX (σ.1 3 a2 1) σ hp5) dX11_told_53 rfl rfl ?_
      have ho := Option.some.inj hf
      subst ho
      exact g_ireturn (pc := 56) (st := []) rfl dX11_told_56 hk
    replace hf := am_ifF c4 hf
    by_cases c6 : v2 = 1
    · replace hf := am_ifT c6 hf
      refine g_swE (pc := 17) 57 c6 dX11_told_17 (by decide) (by decide) rfl rfl ?_
      refine g_aload_n (pc := 57) 1 rfl dX11_told_57 rfl ?_
      refine g_aload_n (pc := 58) 0 rfl dX11_told_58 rfl ?_
      refine g_getI (pc := 59) (in_3 hX.1 (by omega)) fr_X11_185 dX11_told_59 ?_
      obtain ⟨p7, hp7, hf⟩ := am_bd hf
      refine g_cV (pc := 62) (As := [.int (σ.1 3 a2 4)]) (st := []) (st1 := [.int p7.1]) (in_11 hX.1 (by omega)) kk_11 mV_X11_answer ln_X11_176 rfl (Nat.le_of_ble_eq_true rfl) (Nat.le_of_ble_eq_true rfl) (k_X11_answer hX (σ.1 3 a2 4) σ hp7) dX11_told_62 rfl rfl ?_
      have ho := Option.some.inj hf
      subst ho
      exact g_ireturn (pc := 65) (st := []) rfl dX11_told_65 hk
    replace hf := am_ifF c6 hf
    by_cases c8 : v2 = 2
    · replace hf := am_ifT c8 hf
      refine g_swE (pc := 17) 66 c8 dX11_told_17 (by decide) (by decide) rfl rfl ?_
      refine g_aload_n (pc := 66) 1 rfl dX11_told_66 rfl ?_
      refine g_aload_n (pc := 67) 0 rfl dX11_told_67 rfl ?_
      refine g_getI (pc := 68) (in_3 hX.1 (by omega)) fr_X11_188 dX11_told_68 ?_
      refine g_iconst (pc := 71) (v := 0) dX11_told_71 (by decide) ?_
      refine g_mmax (pc := 72) (Nat.le_of_ble_eq_true rfl) (Nat.le_of_ble_eq_true rfl) sp_X11_191 dX11_told_72 ?_
      obtain ⟨p9, hp9, hf⟩ := am_bd hf
      refine g_cV (pc := 75) (As := [.int (am_mx (σ.1 3 a2 5) 0)]) (st := []) (st1 := [.int p9.1]) (in_11 hX.1 (by omega)) kk_11 mV_X11_answer ln_X11_176 rfl (Nat.le_of_ble_eq_true rfl) (Nat.le_of_ble_eq_true rfl) (k_X11_answer hX (am_mx (σ.1 3 a2 5) 0) σ hp9) dX11_told_75 rfl rfl ?_
      have ho := Option.some.inj hf
      subst ho
      exact g_ireturn (pc := 78) (st := []) rfl dX11_told_78 hk
    replace hf := am_ifF c8 hf
    by_cases c10 : v2 = 3
    · replace hf := am_ifT c10 hf
      refine g_swE (pc := 17) 79 c10 dX11_told_17 (by decide) (by decide) rfl rfl ?_
      refine g_aload_n (pc := 79) 1 rfl dX11_told_79 rfl ?_
      refine g_aload_n (pc := 80) 0 rfl dX11_told_80 rfl ?_
      refine g_getI (pc := 81) (in_3 hX.1 (by omega)) fr_X11_196 dX11_told_81 ?_
      refine g_iconst (pc := 84) (v := 0) dX11_told_84 (by decide) ?_
      refine g_mmax (pc := 85) (Nat.le_of_ble_eq_true rfl) (Nat.le_of_ble_eq_true rfl) sp_X11_191 dX11_told_85 ?_
      obtain ⟨p11, hp11, hf⟩ := am_bd hf
      refine g_cV (pc := 88) (As := [.int (am_mx (σ.1 3 a2 6) 0)]) (st := []) (st1 := [.int p11.1]) (in_11 hX.1 (by omega)) kk_11 mV_X11_answer ln_X11_176 rfl (Nat.le_of_ble_eq_true rfl) (Nat.le_of_ble_eq_true rfl) (k_X11_answer hX (am_mx (σ.1 3 a2 6) 0) σ hp11) dX11_told_88 rfl rfl ?_
      have ho := Option.some.inj hf
      subst ho
      exact g_ireturn (pc := 91) (st := []) rfl dX11_told_91 hk
    replace hf := am_ifF c10 hf
    refine g_tabO (pc := 17) 92 dX11_told_17 (am_sw_out 4 (by decide) ?_) rfl ?_
    · intro k hk
      rcases (by omega : k = 0 ∨ k = 1 ∨ k = 2 ∨ k = 3) with rfl | rfl | rfl | rfl
      · exact c4
      · exact c6
      · exact c8
      · exact c10
    refine g_aload_n (pc := 92) 1 rfl dX11_told_92 rfl ?_
    refine g_iconst (pc := 93) (v := 5) dX11_told_93 (by decide) ?_
    obtain ⟨p12, hp12, hf⟩ := am_bd hf
    refine g_cV (pc := 94) (As := [.int 5]) (st := []) (st1 := [.int p12.1]) (in_11 hX.1 (by omega)) kk_11 mV_X11_none ln_X11_124 rfl (Nat.le_of_ble_eq_true rfl) (Nat.le_of_ble_eq_true rfl) (k_X11_none hX 5 σ hp12) dX11_told_94 rfl rfl ?_
    have ho := Option.some.inj hf
    subst ho
    exact g_ireturn (pc := 97) (st := []) rfl dX11_told_97 hk
theorem k_X11_told {X : am_X} (hX : am_wC X) (v1 : Int32) (v2 : Int32) (σ : am_H) {o : Int32 × am_H} (hf : f_X11_told v1 v2 σ = some o) : am_C X gm_X11_told [.ref (am_ad X 11 0), .int v1, .int v2] σ (am_is (some (.int o.1)) o.2) :=
  am_ofG rfl (Nat.le_of_ble_eq_true rfl) rfl (q_X11_told hX v1 v2 σ hf ⟨rfl, rfl⟩)
theorem dX11_waveOf_0 : decode cX11_waveOf 0 = .ok (.aload_n 0, 1) := by decide +kernel
theorem dX11_waveOf_1 : decode cX11_waveOf 1 = .ok (.iload_n 1, 1) := by decide +kernel
theorem dX11_waveOf_2 : decode cX11_waveOf 2 = .ok (.invokevirtual 159, 3) := by decide +kernel
theorem dX11_waveOf_5 : decode cX11_waveOf 5 = .ok (.astore_n 3, 1) := by decide +kernel
theorem dX11_waveOf_6 : decode cX11_waveOf 6 = .ok (.aload_n 3, 1) := by decide +kernel
theorem dX11_waveOf_7 : decode cX11_waveOf 7 = .ok (.ifnonnull 7, 3) := by decide +kernel
theorem dX11_waveOf_10 : decode cX11_waveOf 10 = .ok (.aconst_null, 1) := by decide +kernel
theorem dX11_waveOf_11 : decode cX11_waveOf 11 = .ok (.goto 8, 3) := by decide +kernel
theorem dX11_waveOf_14 : decode cX11_waveOf 14 = .ok (.aload_n 3, 1) := by decide +kernel
theorem dX11_waveOf_15 : decode cX11_waveOf 15 = .ok (.iload_n 2, 1) := by decide +kernel
theorem dX11_waveOf_16 : decode cX11_waveOf 16 = .ok (.invokevirtual 401, 3) := by decide +kernel
theorem dX11_waveOf_19 : decode cX11_waveOf 19 = .ok (.areturn, 1) := by decide +kernel
noncomputable def f_X11_waveOf (v1 : Int32) (v2 : Int32) (σ : am_H) : Option (Option Nat) :=
  (f_X11_machineOf v1 σ).bind fun p1 =>
  am_nn 3 p1
   (some none)
   (fun a2 =>
   (f_X3_waveAt a2 v2 σ).bind fun p3 =>
   am_nn 18 p3
    (some none)
    (fun a4 =>
    some (some a4)))
set_option maxRecDepth 100000 in
set_option maxHeartbeats 4000000 in
theorem q_X11_waveOf {X : am_X} (hX : am_wC X) {Q : Option Value → am_H → Prop} (v1 : Int32) (v2 : Int32) (σ : am_H) {o : Option Nat} (hf : f_X11_waveOf v1 v2 σ = some o) (hk : Q (some (va_rf (o.map (am_ad X 10)))) σ) : am_G X gm_X11_waveOf Q 0 [(0, .ref (am_ad X 11 0)), (1, .int v1), (2, .int v2)] [] σ := by
  unfold f_X11_waveOf at hf
  refine g_aload_n (pc := 0) 0 rfl dX11_waveOf_0 rfl ?_
  refine g_iload_n (pc := 1) 1 rfl dX11_waveOf_1 rfl ?_
  obtain ⟨p1, hp1, hf⟩ := am_bd hf
  have hq := am_nn_c hf
  clear hf
  rcases hq with ⟨ep1, hf⟩ | ⟨a2, ep1, ga2, hf⟩
  · subst ep1
    refine g_cV (pc := 2) (As := [.int v1]) (st := []) (st1 := [.null]) (in_11 hX.1 (by omega)) kk_11 mV_X11_machineOf ln_X11_159 rfl (Nat.le_of_ble_eq_true rfl) (Nat.le_of_ble_eq_true rfl) (k_X11_machineOf hX v1 σ hp1) dX11_waveOf_2 rfl rfl ?_
    refine g_astoreN_n (pc := 5) [(3, .null), (0, .ref (am_ad X 11 0)), (1, .int v1), (2, .int v2)] dX11_waveOf_5 rfl (Nat.le_of_ble_eq_true rfl) rfl ?_
    refine g_aloadN_n (pc := 6) 0 rfl dX11_waveOf_6 rfl ?_
    refine g_ifnonnullN (pc := 7) dX11_waveOf_7 ?_
    refine g_null (pc := 10) dX11_waveOf_10 ?_
    refine g_goto (pc := 11) 19 dX11_waveOf_11 rfl ?_
    have ho := Option.some.inj hf
    subst ho
    exact g_areturn (pc := 19) (st := []) rfl (Or.inl rfl) dX11_waveOf_19 hk
  · subst ep1
    refine g_cV (pc := 2) (As := [.int v1]) (st := []) (st1 := [.ref (am_ad X 3 a2)]) (in_11 hX.1 (by omega)) kk_11 mV_X11_machineOf ln_X11_159 rfl (Nat.le_of_ble_eq_true rfl) (Nat.le_of_ble_eq_true rfl) (k_X11_machineOf hX v1 σ hp1) dX11_waveOf_2 rfl rfl ?_
    refine g_astore_n (pc := 5) [(3, .ref (am_ad X 3 a2)), (0, .ref (am_ad X 11 0)), (1, .int v1), (2, .int v2)] dX11_waveOf_5 rfl (Nat.le_of_ble_eq_true rfl) rfl ?_
    refine g_aload_n (pc := 6) 0 rfl dX11_waveOf_6 rfl ?_
    refine g_ifnonnull (pc := 7) 14 dX11_waveOf_7 rfl ?_
    refine g_aload_n (pc := 14) 0 rfl dX11_waveOf_14 rfl ?_
    refine g_iload_n (pc := 15) 3 rfl dX11_waveOf_15 rfl ?_
    obtain ⟨p3, hp3, hf⟩ := am_bd hf
    have hq := am_nn_c hf
    clear hf
    rcases hq with ⟨ep3, hf⟩ | ⟨a4, ep3, ga4, hf⟩
    · subst ep3
      refine g_cV (pc := 16) (As := [.int v2]) (st := []) (st1 := [.null]) (in_3 hX.1 (by omega)) kk_3 mV_X3_waveAt ln_X11_401 rfl (Nat.le_of_ble_eq_true rfl) (Nat.le_of_ble_eq_true rfl) (k_X3_waveAt hX a2 v2 (by omega) σ hp3) dX11_waveOf_16 rfl rfl ?_
      have ho := Option.some.inj hf
      subst ho
      exact g_areturn (pc := 19) (st := []) rfl (Or.inl rfl) dX11_waveOf_19 hk
    · subst ep3
      refine g_cV (pc := 16) (As := [.int v2]) (st := []) (st1 := [.ref (am_ad X 10 a4)]) (in_3 hX.1 (by omega)) kk_3 mV_X3_waveAt ln_X11_401 rfl (Nat.le_of_ble_eq_true rfl) (Nat.le_of_ble_eq_true rfl) (k_X3_waveAt hX a2 v2 (by omega) σ hp3) dX11_waveOf_16 rfl rfl ?_
      have ho := Option.some.inj hf
      subst ho
      exact g_areturn (pc := 19) (st := []) rfl (Or.inr ⟨_, rfl⟩) dX11_waveOf_19 hk
theorem k_X11_waveOf {X : am_X} (hX : am_wC X) (v1 : Int32) (v2 : Int32) (σ : am_H) {o : Option Nat} (hf : f_X11_waveOf v1 v2 σ = some o) : am_C X gm_X11_waveOf [.ref (am_ad X 11 0), .int v1, .int v2] σ (am_is (some (va_rf (o.map (am_ad X 10)))) σ) :=
  am_ofG rfl (Nat.le_of_ble_eq_true rfl) rfl (q_X11_waveOf hX v1 v2 σ hf ⟨rfl, rfl⟩)
theorem dX11_wave_0 : decode cX11_wave 0 = .ok (.aload_n 0, 1) := by decide +kernel
theorem dX11_wave_1 : decode cX11_wave 1 = .ok (.iload_n 1, 1) := by decide +kernel
theorem dX11_wave_2 : decode cX11_wave 2 = .ok (.iload_n 2, 1) := by decide +kernel
theorem dX11_wave_3 : decode cX11_wave 3 = .ok (.invokevirtual 199, 3) := by decide +kernel
theorem dX11_wave_6 : decode cX11_wave 6 = .ok (.astore 4, 2) := by decide +kernel
theorem dX11_wave_8 : decode cX11_wave 8 = .ok (.aload 4, 2) := by decide +kernel
theorem dX11_wave_10 : decode cX11_wave 10 = .ok (.ifnonnull 9, 3) := by decide +kernel
theorem dX11_wave_13 : decode cX11_wave 13 = .ok (.aload_n 0, 1) := by decide +kernel
theorem dX11_wave_14 : decode cX11_wave 14 = .ok (.iconst 2, 1) := by decide +kernel
theorem dX11_wave_15 : decode cX11_wave 15 = .ok (.invokevirtual 124, 3) := by decide +kernel
theorem dX11_wave_18 : decode cX11_wave 18 = .ok (.ireturn, 1) := by decide +kernel
theorem dX11_wave_19 : decode cX11_wave 19 = .ok (.iload_n 3, 1) := by decide +kernel
theorem dX11_wave_20 : decode cX11_wave 20 = .ok (.ifCond .lt 9, 3) := by decide +kernel
theorem dX11_wave_23 : decode cX11_wave 23 = .ok (.iload_n 3, 1) := by decide +kernel
theorem dX11_wave_24 : decode cX11_wave 24 = .ok (.bipush 7, 2) := by decide +kernel
theorem dX11_wave_26 : decode cX11_wave 26 = .ok (.if_icmp .le 9, 3) := by decide +kernel
theorem dX11_wave_29 : decode cX11_wave 29 = .ok (.aload_n 0, 1) := by decide +kernel
theorem dX11_wave_30 : decode cX11_wave 30 = .ok (.iconst 5, 1) := by decide +kernel
theorem dX11_wave_31 : decode cX11_wave 31 = .ok (.invokevirtual 124, 3) := by decide +kernel
theorem dX11_wave_34 : decode cX11_wave 34 = .ok (.ireturn, 1) := by decide +kernel
theorem dX11_wave_35 : decode cX11_wave 35 = .ok (.iload_n 3, 1) := by decide +kernel
theorem dX11_wave_36 : decode cX11_wave 36 = .ok (.tableswitch 72 0 3 #[32, 42, 52, 62], 32) := by decide +kernel
theorem dX11_wave_68 : decode cX11_wave 68 = .ok (.aload_n 0, 1) := by decide +kernel
theorem dX11_wave_69 : decode cX11_wave 69 = .ok (.aload 4, 2) := by decide +kernel
theorem dX11_wave_71 : decode cX11_wave 71 = .ok (.getfield 203, 3) := by decide +kernel
theorem dX11_wave_74 : decode cX11_wave 74 = .ok (.invokevirtual 176, 3) := by decide +kernel
theorem dX11_wave_77 : decode cX11_wave 77 = .ok (.ireturn, 1) := by decide +kernel
theorem dX11_wave_78 : decode cX11_wave 78 = .ok (.aload_n 0, 1) := by decide +kernel
theorem dX11_wave_79 : decode cX11_wave 79 = .ok (.aload 4, 2) := by decide +kernel
theorem dX11_wave_81 : decode cX11_wave 81 = .ok (.getfield 208, 3) := by decide +kernel
theorem dX11_wave_84 : decode cX11_wave 84 = .ok (.invokevirtual 176, 3) := by decide +kernel
theorem dX11_wave_87 : decode cX11_wave 87 = .ok (.ireturn, 1) := by decide +kernel
theorem dX11_wave_88 : decode cX11_wave 88 = .ok (.aload_n 0, 1) := by decide +kernel
theorem dX11_wave_89 : decode cX11_wave 89 = .ok (.aload 4, 2) := by decide +kernel
theorem dX11_wave_91 : decode cX11_wave 91 = .ok (.getfield 211, 3) := by decide +kernel
theorem dX11_wave_94 : decode cX11_wave 94 = .ok (.invokevirtual 176, 3) := by decide +kernel
theorem dX11_wave_97 : decode cX11_wave 97 = .ok (.ireturn, 1) := by decide +kernel
theorem dX11_wave_98 : decode cX11_wave 98 = .ok (.aload_n 0, 1) := by decide +kernel
theorem dX11_wave_99 : decode cX11_wave 99 = .ok (.aload 4, 2) := by decide +kernel
theorem dX11_wave_101 : decode cX11_wave 101 = .ok (.getfield 214, 3) := by decide +kernel
theorem dX11_wave_104 : decode cX11_wave 104 = .ok (.invokevirtual 176, 3) := by decide +kernel
theorem dX11_wave_107 : decode cX11_wave 107 = .ok (.ireturn, 1) := by decide +kernel
theorem dX11_wave_108 : decode cX11_wave 108 = .ok (.aload 4, 2) := by decide +kernel
theorem dX11_wave_110 : decode cX11_wave 110 = .ok (.invokevirtual 216, 3) := by decide +kernel
theorem dX11_wave_113 : decode cX11_wave 113 = .ok (.ifCond .eq 18, 3) := by decide +kernel
theorem dX11_wave_116 : decode cX11_wave 116 = .ok (.aload_n 0, 1) := by decide +kernel
theorem dX11_wave_117 : decode cX11_wave 117 = .ok (.aload 4, 2) := by decide +kernel
theorem dX11_wave_119 : decode cX11_wave 119 = .ok (.iload_n 3, 1) := by decide +kernel
theorem dX11_wave_120 : decode cX11_wave 120 = .ok (.iconst 4, 1) := by decide +kernel
theorem dX11_wave_121 : decode cX11_wave 121 = .ok (.isub, 1) := by decide +kernel
theorem dX11_wave_122 : decode cX11_wave 122 = .ok (.invokevirtual 219, 3) := by decide +kernel
theorem dX11_wave_125 : decode cX11_wave 125 = .ok (.invokevirtual 176, 3) := by decide +kernel
theorem dX11_wave_128 : decode cX11_wave 128 = .ok (.goto 9, 3) := by decide +kernel
theorem dX11_wave_131 : decode cX11_wave 131 = .ok (.aload_n 0, 1) := by decide +kernel
theorem dX11_wave_132 : decode cX11_wave 132 = .ok (.bipush 8, 2) := by decide +kernel
theorem dX11_wave_134 : decode cX11_wave 134 = .ok (.invokevirtual 124, 3) := by decide +kernel
theorem dX11_wave_137 : decode cX11_wave 137 = .ok (.ireturn, 1) := by decide +kernel
noncomputable def f_X11_wave_29 (σ : am_H) : Option (Int32 × am_H) :=
  (f_X11_none 5 σ).bind fun p1 =>
  some (p1.1, p1.2)
set_option maxRecDepth 100000 in
set_option maxHeartbeats 4000000 in
theorem q_X11_wave_29 {X : am_X} (hX : am_wC X) {Q : Option Value → am_H → Prop} (σ : am_H) {o : Int32 × am_H} (hf : f_X11_wave_29 σ = some o) (hk : Q (some (.int o.1)) o.2) : am_G X gm_X11_wave Q 29 [(0, .ref (am_ad X 11 0))] [] σ := by
  unfold f_X11_wave_29 at hf
  refine g_aload_n (pc := 29) 0 rfl dX11_wave_29 rfl ?_
  refine g_iconst (pc := 30) (v := 5) dX11_wave_30 (by decide) ?_
  obtain ⟨p1, hp1, hf⟩ := am_bd hf
  refine g_cV (pc := 31) (As := [.int 5]) (st := []) (st1 := [.int p1.1]) (in_11 hX.1 (by omega)) kk_11 mV_X11_none ln_X11_124 rfl (Nat.le_of_ble_eq_true rfl) (Nat.le_of_ble_eq_true rfl) (k_X11_none hX 5 σ hp1) dX11_wave_31 rfl rfl ?_
  have ho := Option.some.inj hf
  subst ho
  exact g_ireturn (pc := 34) (st := []) rfl dX11_wave_34 hk
noncomputable def f_X11_wave (v1 : Int32) (v2 : Int32) (v3 : Int32) (σ : am_H) : Option (Int32 × am_H) :=
  (f_X11_waveOf v1 v2 σ).bind fun p1 =>
  am_nn 18 p1
   ((f_X11_none 2 σ).bind fun p3 =>
   some (p3.1, p3.2))
   (fun a2 =>
   if v3 < 0 then
    (f_X11_wave_29 σ)
   else
   if 7 < v3 then
    (f_X11_wave_29 σ)
   else
   if v3 = 0 then
    ((f_X11_answer (σ.1 10 a2 1) σ).bind fun p7 =>
    some (p7.1, p7.2))
   else
   if v3 = 1 then
    ((f_X11_answer (σ.1 10 a2 2) σ).bind fun p9 =>
    some (p9.1, p9.2))
   else
   if v3 = 2 then
    ((f_X11_answer (σ.1 10 a2 3) σ).bind fun p11 =>
    some (p11.1, p11.2))
   else
   if v3 = 3 then
    ((f_X11_answer (σ.1 10 a2 4) σ).bind fun p13 =>
    some (p13.1, p13.2))
   else
   (f_X10_hasTrain a2 σ).bind fun p14 =>
   if p14 = true then
    ((f_X10_toothed a2 (v3 - 4) σ).bind fun p16 =>
    (f_X11_answer p16 σ).bind fun p17 =>
    some (p17.1, p17.2))
   else
   (f_X11_none 8 σ).bind fun p18 =>
   some (p18.1, p18.2))
set_option maxRecDepth 100000 in
set_option maxHeartbeats 4000000 in
theorem q_X11_wave {X : am_X} (hX : am_wC X) {Q : Option Value → am_H → Prop} (v1 : Int32) (v2 : Int32) (v3 : Int32) (σ : am_H) {o : Int32 × am_H} (hf : f_X11_wave v1 v2 v3 σ = some o) (hk : Q (some (.int o.1)) o.2) : am_G X gm_X11_wave Q 0 [(0, .ref (am_ad X 11 0)), (1, .int v1), (2, .int v2), (3, .int v3)] [] σ := by
  unfold f_X11_wave at hf
  refine g_aload_n (pc := 0) 0 rfl dX11_wave_0 rfl ?_
  refine g_iload_n (pc := 1) 1 rfl dX11_wave_1 rfl ?_
  refine g_iload_n (pc := 2) 2 rfl dX11_wave_2 rfl ?_
  obtain ⟨p1, hp1, hf⟩ := am_bd hf
  have hq := am_nn_c hf
  clear hf
  rcases hq with ⟨ep1, hf⟩ | ⟨a2, ep1, ga2, hf⟩
  · subst ep1
    refine g_cV (pc := 3) (As := [.int v1, .int v2]) (st := []) (st1 := [.null]) (in_11 hX.1 (by omega)) kk_11 mV_X11_waveOf ln_X11_199 rfl (Nat.le_of_ble_eq_true rfl) (Nat.le_of_ble_eq_true rfl) (k_X11_waveOf hX v1 v2 σ hp1) dX11_wave_3 rfl rfl ?_
    refine g_astoreN (pc := 6) [(4, .null), (0, .ref (am_ad X 11 0)), (1, .int v1), (2, .int v2), (3, .int v3)] dX11_wave_6 (Nat.le_of_ble_eq_true rfl) rfl ?_
    refine g_aloadN (pc := 8) 0 rfl dX11_wave_8 ?_
    refine g_ifnonnullN (pc := 10) dX11_wave_10 ?_
    refine g_aload_n (pc := 13) 1 rfl dX11_wave_13 rfl ?_
    refine g_iconst (pc := 14) (v := 2) dX11_wave_14 (by decide) ?_
    obtain ⟨p3, hp3, hf⟩ := am_bd hf
    refine g_cV (pc := 15) (As := [.int 2]) (st := []) (st1 := [.int p3.1]) (in_11 hX.1 (by omega)) kk_11 mV_X11_none ln_X11_124 rfl (Nat.le_of_ble_eq_true rfl) (Nat.le_of_ble_eq_true rfl) (k_X11_none hX 2 σ hp3) dX11_wave_15 rfl rfl ?_
    have ho := Option.some.inj hf
    subst ho
    exact g_ireturn (pc := 18) (st := []) rfl dX11_wave_18 hk
  · subst ep1
    refine g_cV (pc := 3) (As := [.int v1, .int v2]) (st := []) (st1 := [.ref (am_ad X 10 a2)]) (in_11 hX.1 (by omega)) kk_11 mV_X11_waveOf ln_X11_199 rfl (Nat.le_of_ble_eq_true rfl) (Nat.le_of_ble_eq_true rfl) (k_X11_waveOf hX v1 v2 σ hp1) dX11_wave_3 rfl rfl ?_
    refine g_astore (pc := 6) [(4, .ref (am_ad X 10 a2)), (0, .ref (am_ad X 11 0)), (1, .int v1), (2, .int v2), (3, .int v3)] dX11_wave_6 (Nat.le_of_ble_eq_true rfl) rfl ?_
    refine g_aload (pc := 8) 0 rfl dX11_wave_8 ?_
    refine g_ifnonnull (pc := 10) 19 dX11_wave_10 rfl ?_
    refine g_iload_n (pc := 19) 4 rfl dX11_wave_19 rfl ?_
    refine bz_lt (pc := 20) 29 dX11_wave_20 rfl (fun c4 => ?_) (fun c4 => ?_)
    · replace hf := am_ifT c4 hf
      exact am_sub [1] rfl (q_X11_wave_29 hX σ hf hk)
    replace hf := am_ifF c4 hf
    refine g_iload_n (pc := 23) 4 rfl dX11_wave_23 rfl ?_
    refine g_bipush (pc := 24) (v := 7) dX11_wave_24 (by decide) ?_
    refine bi_le (pc := 26) 35 dX11_wave_26 rfl (fun c5 => ?_) (fun c5 => ?_)
    · replace hf := am_ifT c5 hf
      exact am_sub [1] rfl (q_X11_wave_29 hX σ hf hk)
    replace hf := am_ifF c5 hf
    refine g_iload_n (pc := 35) 4 rfl dX11_wave_35 rfl ?_
    by_cases c6 : v3 = 0
    · replace hf := am_ifT c6 hf
      refine g_swE (pc := 36) 68 c6 dX11_wave_36 (by decide) (by decide) rfl rfl ?_
      refine g_aload_n (pc := 68) 1 rfl dX11_wave_68 rfl ?_
      refine g_aload (pc := 69) 0 rfl dX11_wave_69 ?_
      refine g_getI (pc := 71) (in_10 hX.1 (by omega)) fr_X11_203 dX11_wave_71 ?_
      obtain ⟨p7, hp7, hf⟩ := am_bd hf
      refine g_cV (pc := 74) (As := [.int (σ.1 10 a2 1)]) (st := []) (st1 := [.int p7.1]) (in_11 hX.1 (by omega)) kk_11 mV_X11_answer ln_X11_176 rfl (Nat.le_of_ble_eq_true rfl) (Nat.le_of_ble_eq_true rfl) (k_X11_answer hX (σ.1 10 a2 1) σ hp7) dX11_wave_74 rfl rfl ?_
      have ho := Option.some.inj hf
      subst ho
      exact g_ireturn (pc := 77) (st := []) rfl dX11_wave_77 hk
    replace hf := am_ifF c6 hf
    by_cases c8 : v3 = 1
    · replace hf := am_ifT c8 hf
      refine g_swE (pc := 36) 78 c8 dX11_wave_36 (by decide) (by decide) rfl rfl ?_
      refine g_aload_n (pc := 78) 1 rfl dX11_wave_78 rfl ?_
      refine g_aload (pc := 79) 0 rfl dX11_wave_79 ?_
      refine g_getI (pc := 81) (in_10 hX.1 (by omega)) fr_X11_208 dX11_wave_81 ?_
      obtain ⟨p9, hp9, hf⟩ := am_bd hf
      refine g_cV (pc := 84) (As := [.int (σ.1 10 a2 2)]) (st := []) (st1 := [.int p9.1]) (in_11 hX.1 (by omega)) kk_11 mV_X11_answer ln_X11_176 rfl (Nat.le_of_ble_eq_true rfl) (Nat.le_of_ble_eq_true rfl) (k_X11_answer hX (σ.1 10 a2 2) σ hp9) dX11_wave_84 rfl rfl ?_
      have ho := Option.some.inj hf
      subst ho
      exact g_ireturn (pc := 87) (st := []) rfl dX11_wave_87 hk
    replace hf := am_ifF c8 hf
    by_cases c10 : v3 = 2
    · replace hf := am_ifT c10 hf
      refine g_swE (pc := 36) 88 c10 dX11_wave_36 (by decide) (by decide) rfl rfl ?_
      refine g_aload_n (pc := 88) 1 rfl dX11_wave_88 rfl ?_
      refine g_aload (pc := 89) 0 rfl dX11_wave_89 ?_
      refine g_getI (pc := 91) (in_10 hX.1 (by omega)) fr_X11_211 dX11_wave_91 ?_
      obtain ⟨p11, hp11, hf⟩ := am_bd hf
      refine g_cV (pc := 94) (As := [.int (σ.1 10 a2 3)]) (st := []) (st1 := [.int p11.1]) (in_11 hX.1 (by omega)) kk_11 mV_X11_answer ln_X11_176 rfl (Nat.le_of_ble_eq_true rfl) (Nat.le_of_ble_eq_true rfl) (k_X11_answer hX (σ.1 10 a2 3) σ hp11) dX11_wave_94 rfl rfl ?_
      have ho := Option.some.inj hf
      subst ho
      exact g_ireturn (pc := 97) (st := []) rfl dX11_wave_97 hk
    replace hf := am_ifF c10 hf
    by_cases c12 : v3 = 3
    · replace hf := am_ifT c12 hf
      refine g_swE (pc := 36) 98 c12 dX11_wave_36 (by decide) (by decide) rfl rfl ?_
      refine g_aload_n (pc := 98) 1 rfl dX11_wave_98 rfl ?_
      refine g_aload (pc := 99) 0 rfl dX11_wave_99 ?_
      refine g_getI (pc := 101) (in_10 hX.1 (by omega)) fr_X11_214 dX11_wave_101 ?_
      obtain ⟨p13, hp13, hf⟩ := am_bd hf
      refine g_cV (pc := 104) (As := [.int (σ.1 10 a2 4)]) (st := []) (st1 := [.int p13.1]) (in_11 hX.1 (by omega)) kk_11 mV_X11_answer ln_X11_176 rfl (Nat.le_of_ble_eq_true rfl) (Nat.le_of_ble_eq_true rfl) (k_X11_answer hX (σ.1 10 a2 4) σ hp13) dX11_wave_104 rfl rfl ?_
      have ho := Option.some.inj hf
      subst ho
      exact g_ireturn (pc := 107) (st := []) rfl dX11_wave_107 hk
    replace hf := am_ifF c12 hf
    refine g_tabO (pc := 36) 108 dX11_wave_36 (am_sw_out 4 (by decide) ?_) rfl ?_
    · intro k hk
      rcases (by omega : k = 0 ∨ k = 1 ∨ k = 2 ∨ k = 3) with rfl | rfl | rfl | rfl
      · exact c6
      · exact c8
      · exact c10
      · exact c12
    refine g_aload (pc := 108) 0 rfl dX11_wave_108 ?_
    obtain ⟨p14, hp14, hf⟩ := am_bd hf
    refine g_cV (pc := 110) (As := []) (st := []) (st1 := [.int (am_b p14)]) (in_10 hX.1 (by omega)) kk_10 mV_X10_hasTrain ln_X11_216 rfl (Nat.le_of_ble_eq_true rfl) (Nat.le_of_ble_eq_true rfl) (k_X10_hasTrain hX a2 (by omega) σ hp14) dX11_wave_110 rfl rfl ?_
    refine bt_eq (pc := 113) 131 dX11_wave_113 rfl (fun c15 => ?_) (fun c15 => ?_)
    · replace hf := am_ifT c15 hf
      refine g_aload_n (pc := 116) 1 rfl dX11_wave_116 rfl ?_
      refine g_aload (pc := 117) 0 rfl dX11_wave_117 ?_
      refine g_iload_n (pc := 119) 4 rfl dX11_wave_119 rfl ?_
      refine g_iconst (pc := 120) (v := 4) dX11_wave_120 (by decide) ?_
      refine g_isub (pc := 121) dX11_wave_121 ?_
      obtain ⟨p16, hp16, hf⟩ := am_bd hf
      refine g_cV (pc := 122) (As := [.int (v3 - 4)]) (st := [.ref (am_ad X 11 0)]) (st1 := [.int p16, .ref (am_ad X 11 0)]) (in_10 hX.1 (by omega)) kk_10 mV_X10_toothed ln_X11_219 rfl (Nat.le_of_ble_eq_true rfl) (Nat.le_of_ble_eq_true rfl) (k_X10_toothed hX a2 (v3 - 4) (by omega) σ hp16) dX11_wave_122 rfl rfl ?_
      obtain ⟨p17, hp17, hf⟩ := am_bd hf
      refine g_cV (pc := 125) (As := [.int p16]) (st := []) (st1 := [.int p17.1]) (in_11 hX.1 (by omega)) kk_11 mV_X11_answer ln_X11_176 rfl (Nat.le_of_ble_eq_true rfl) (Nat.le_of_ble_eq_true rfl) (k_X11_answer hX p16 σ hp17) dX11_wave_125 rfl rfl ?_
      refine g_goto (pc := 128) 137 dX11_wave_128 rfl ?_
      have ho := Option.some.inj hf
      subst ho
      exact g_ireturn (pc := 137) (st := []) rfl dX11_wave_137 hk
    replace hf := am_ifF c15 hf
    refine g_aload_n (pc := 131) 1 rfl dX11_wave_131 rfl ?_
    refine g_bipush (pc := 132) (v := 8) dX11_wave_132 (by decide) ?_
    obtain ⟨p18, hp18, hf⟩ := am_bd hf
    refine g_cV (pc := 134) (As := [.int 8]) (st := []) (st1 := [.int p18.1]) (in_11 hX.1 (by omega)) kk_11 mV_X11_none ln_X11_124 rfl (Nat.le_of_ble_eq_true rfl) (Nat.le_of_ble_eq_true rfl) (k_X11_none hX 8 σ hp18) dX11_wave_134 rfl rfl ?_
    have ho := Option.some.inj hf
    subst ho
    exact g_ireturn (pc := 137) (st := []) rfl dX11_wave_137 hk
theorem k_X11_wave {X : am_X} (hX : am_wC X) (v1 : Int32) (v2 : Int32) (v3 : Int32) (σ : am_H) {o : Int32 × am_H} (hf : f_X11_wave v1 v2 v3 σ = some o) : am_C X gm_X11_wave [.ref (am_ad X 11 0), .int v1, .int v2, .int v3] σ (am_is (some (.int o.1)) o.2) :=
  am_ofG rfl (Nat.le_of_ble_eq_true rfl) rfl (q_X11_wave hX v1 v2 v3 σ hf ⟨rfl, rfl⟩)
theorem dX11_isWithin_0 : decode cX11_isWithin 0 = .ok (.iload_n 0, 1) := by decide +kernel
theorem dX11_isWithin_1 : decode cX11_isWithin 1 = .ok (.iload_n 1, 1) := by decide +kernel
theorem dX11_isWithin_2 : decode cX11_isWithin 2 = .ok (.if_icmp .lt 12, 3) := by decide +kernel
theorem dX11_isWithin_5 : decode cX11_isWithin 5 = .ok (.iload_n 0, 1) := by decide +kernel
theorem dX11_isWithin_6 : decode cX11_isWithin 6 = .ok (.iload_n 2, 1) := by decide +kernel
theorem dX11_isWithin_7 : decode cX11_isWithin 7 = .ok (.if_icmp .gt 7, 3) := by decide +kernel
theorem dX11_isWithin_10 : decode cX11_isWithin 10 = .ok (.iconst 1, 1) := by decide +kernel
theorem dX11_isWithin_11 : decode cX11_isWithin 11 = .ok (.goto 4, 3) := by decide +kernel
theorem dX11_isWithin_14 : decode cX11_isWithin 14 = .ok (.iconst 0, 1) := by decide +kernel
theorem dX11_isWithin_15 : decode cX11_isWithin 15 = .ok (.ireturn, 1) := by decide +kernel
noncomputable def f_X11_isWithin (v0 : Int32) (v1 : Int32) (v2 : Int32) (σ : am_H) : Option (Bool) :=
  if v0 < v1 then
   (some false)
  else
  if v2 < v0 then
   (some false)
  else
  some true
set_option maxRecDepth 100000 in
set_option maxHeartbeats 4000000 in
theorem q_X11_isWithin {X : am_X} (hX : am_wC X) {Q : Option Value → am_H → Prop} (v0 : Int32) (v1 : Int32) (v2 : Int32) (σ : am_H) {o : Bool} (hf : f_X11_isWithin v0 v1 v2 σ = some o) (hk : Q (some (.int (am_b o))) σ) : am_G X gm_X11_isWithin Q 0 [(0, .int v0), (1, .int v1), (2, .int v2)] [] σ := by
  unfold f_X11_isWithin at hf
  refine g_iload_n (pc := 0) 0 rfl dX11_isWithin_0 rfl ?_
  refine g_iload_n (pc := 1) 1 rfl dX11_isWithin_1 rfl ?_
  refine bi_lt (pc := 2) 14 dX11_isWithin_2 rfl (fun c1 => ?_) (fun c1 => ?_)
  · replace hf := am_ifT c1 hf
    refine g_iconst (pc := 14) (v := 0) dX11_isWithin_14 (by decide) ?_
    have ho := Option.some.inj hf
    subst ho
    exact g_zreturn (pc := 15) (st := []) (x := false) rfl dX11_isWithin_15 hk
  replace hf := am_ifF c1 hf
  refine g_iload_n (pc := 5) 0 rfl dX11_isWithin_5 rfl ?_
  refine g_iload_n (pc := 6) 2 rfl dX11_isWithin_6 rfl ?_
  refine bi_gt (pc := 7) 14 dX11_isWithin_7 rfl (fun c2 => ?_) (fun c2 => ?_)
  · replace hf := am_ifT c2 hf
    refine g_iconst (pc := 14) (v := 0) dX11_isWithin_14 (by decide) ?_
    have ho := Option.some.inj hf
    subst ho
    exact g_zreturn (pc := 15) (st := []) (x := false) rfl dX11_isWithin_15 hk
  replace hf := am_ifF c2 hf
  refine g_iconst (pc := 10) (v := 1) dX11_isWithin_10 (by decide) ?_
  refine g_goto (pc := 11) 15 dX11_isWithin_11 rfl ?_
  have ho := Option.some.inj hf
  subst ho
  exact g_zreturn (pc := 15) (st := []) (x := true) rfl dX11_isWithin_15 hk
theorem k_X11_isWithin {X : am_X} (hX : am_wC X) (v0 : Int32) (v1 : Int32) (v2 : Int32) (σ : am_H) {o : Bool} (hf : f_X11_isWithin v0 v1 v2 σ = some o) : am_C X gm_X11_isWithin [.int v0, .int v1, .int v2] σ (am_is (some (.int (am_b o))) σ) :=
  am_ofG rfl (Nat.le_of_ble_eq_true rfl) rfl (q_X11_isWithin hX v0 v1 v2 σ hf ⟨rfl, rfl⟩)
theorem dX11_set_0 : decode cX11_set 0 = .ok (.aload_n 0, 1) := by decide +kernel
theorem dX11_set_1 : decode cX11_set 1 = .ok (.iload_n 1, 1) := by decide +kernel
theorem dX11_set_2 : decode cX11_set 2 = .ok (.iload_n 2, 1) := by decide +kernel
theorem dX11_set_3 : decode cX11_set 3 = .ok (.invokevirtual 199, 3) := by decide +kernel
theorem dX11_set_6 : decode cX11_set 6 = .ok (.astore 5, 2) := by decide +kernel
theorem dX11_set_8 : decode cX11_set 8 = .ok (.aload 5, 2) := by decide +kernel
theorem dX11_set_10 : decode cX11_set 10 = .ok (.ifnonnull 9, 3) := by decide +kernel
theorem dX11_set_13 : decode cX11_set 13 = .ok (.aload_n 0, 1) := by decide +kernel
theorem dX11_set_14 : decode cX11_set 14 = .ok (.iconst 2, 1) := by decide +kernel
theorem dX11_set_15 : decode cX11_set 15 = .ok (.invokevirtual 104, 3) := by decide +kernel
theorem dX11_set_18 : decode cX11_set 18 = .ok (.ireturn, 1) := by decide +kernel
theorem dX11_set_19 : decode cX11_set 19 = .ok (.iload_n 3, 1) := by decide +kernel
theorem dX11_set_20 : decode cX11_set 20 = .ok (.iconst 0, 1) := by decide +kernel
theorem dX11_set_21 : decode cX11_set 21 = .ok (.bipush 99, 2) := by decide +kernel
theorem dX11_set_23 : decode cX11_set 23 = .ok (.invokestatic 222, 3) := by decide +kernel
theorem dX11_set_26 : decode cX11_set 26 = .ok (.ifCond .eq 14, 3) := by decide +kernel
theorem dX11_set_29 : decode cX11_set 29 = .ok (.iload 4, 2) := by decide +kernel
theorem dX11_set_31 : decode cX11_set 31 = .ok (.iconst 0, 1) := by decide +kernel
theorem dX11_set_32 : decode cX11_set 32 = .ok (.bipush 23, 2) := by decide +kernel
theorem dX11_set_34 : decode cX11_set 34 = .ok (.invokestatic 222, 3) := by decide +kernel
theorem dX11_set_37 : decode cX11_set 37 = .ok (.ifCond .ne 9, 3) := by decide +kernel
theorem dX11_set_40 : decode cX11_set 40 = .ok (.aload_n 0, 1) := by decide +kernel
theorem dX11_set_41 : decode cX11_set 41 = .ok (.iconst 5, 1) := by decide +kernel
theorem dX11_set_42 : decode cX11_set 42 = .ok (.invokevirtual 104, 3) := by decide +kernel
theorem dX11_set_45 : decode cX11_set 45 = .ok (.ireturn, 1) := by decide +kernel
theorem dX11_set_46 : decode cX11_set 46 = .ok (.aload 5, 2) := by decide +kernel
theorem dX11_set_48 : decode cX11_set 48 = .ok (.iload_n 3, 1) := by decide +kernel
theorem dX11_set_49 : decode cX11_set 49 = .ok (.putfield 211, 3) := by decide +kernel
theorem dX11_set_52 : decode cX11_set 52 = .ok (.aload 5, 2) := by decide +kernel
theorem dX11_set_54 : decode cX11_set 54 = .ok (.iload 4, 2) := by decide +kernel
theorem dX11_set_56 : decode cX11_set 56 = .ok (.putfield 214, 3) := by decide +kernel
theorem dX11_set_59 : decode cX11_set 59 = .ok (.aload_n 0, 1) := by decide +kernel
theorem dX11_set_60 : decode cX11_set 60 = .ok (.invokevirtual 112, 3) := by decide +kernel
theorem dX11_set_63 : decode cX11_set 63 = .ok (.ireturn, 1) := by decide +kernel
noncomputable def f_X11_set_40 (σ : am_H) : Option (Bool × am_H) :=
  (f_X11_no 5 σ).bind fun p1 =>
  some (p1.1, p1.2)
set_option maxRecDepth 100000 in
set_option maxHeartbeats 4000000 in
theorem q_X11_set_40 {X : am_X} (hX : am_wC X) {Q : Option Value → am_H → Prop} (σ : am_H) {o : Bool × am_H} (hf : f_X11_set_40 σ = some o) (hk : Q (some (.int (am_b o.1))) o.2) : am_G X gm_X11_set Q 40 [(0, .ref (am_ad X 11 0))] [] σ := by
  unfold f_X11_set_40 at hf
  refine g_aload_n (pc := 40) 0 rfl dX11_set_40 rfl ?_
  refine g_iconst (pc := 41) (v := 5) dX11_set_41 (by decide) ?_
  obtain ⟨p1, hp1, hf⟩ := am_bd hf
  refine g_cV (pc := 42) (As := [.int 5]) (st := []) (st1 := [.int (am_b p1.1)]) (in_11 hX.1 (by omega)) kk_11 mV_X11_no ln_X11_104 rfl (Nat.le_of_ble_eq_true rfl) (Nat.le_of_ble_eq_true rfl) (k_X11_no hX 5 σ hp1) dX11_set_42 rfl rfl ?_
  have ho := Option.some.inj hf
  subst ho
  exact g_zreturn (pc := 45) (st := []) (x := p1.1) rfl dX11_set_45 hk
noncomputable def f_X11_set (v1 : Int32) (v2 : Int32) (v3 : Int32) (v4 : Int32) (σ : am_H) : Option (Bool × am_H) :=
  (f_X11_waveOf v1 v2 σ).bind fun p1 =>
  am_nn 18 p1
   ((f_X11_no 2 σ).bind fun p3 =>
   some (p3.1, p3.2))
   (fun a2 =>
   (f_X11_isWithin v3 0 99 σ).bind fun p4 =>
   if p4 = true then
    ((f_X11_isWithin v4 0 23 σ).bind fun p6 =>
    if p6 = true then
     ((some (am_wI σ 10 a2 3 v3)).bind fun s8 =>
     (some (am_wI s8 10 a2 4 v4)).bind fun s9 =>
     (f_X11_yes s9).bind fun p10 =>
     some (p10.1, p10.2))
    else
    f_X11_set_40 σ)
   else
   f_X11_set_40 σ)
set_option maxRecDepth 100000 in
set_option maxHeartbeats 4000000 in
theorem q_X11_set {X : am_X} (hX : am_wC X) {Q : Option Value → am_H → Prop} (v1 : Int32) (v2 : Int32) (v3 : Int32) (v4 : Int32) (σ : am_H) {o : Bool × am_H} (hf : f_X11_set v1 v2 v3 v4 σ = some o) (hk : Q (some (.int (am_b o.1))) o.2) : am_G X gm_X11_set Q 0 [(0, .ref (am_ad X 11 0)), (1, .int v1), (2, .int v2), (3, .int v3), (4, .int v4)] [] σ := by
  unfold f_X11_set at hf
  refine g_aload_n (pc := 0) 0 rfl dX11_set_0 rfl ?_
  refine g_iload_n (pc := 1) 1 rfl dX11_set_1 rfl ?_
  refine g_iload_n (pc := 2) 2 rfl dX11_set_2 rfl ?_
  obtain ⟨p1, hp1, hf⟩ := am_bd hf
  have hq := am_nn_c hf
  clear hf
  rcases hq with ⟨ep1, hf⟩ | ⟨a2, ep1, ga2, hf⟩
  · subst ep1
    refine g_cV (pc := 3) (As := [.int v1, .int v2]) (st := []) (st1 := [.null]) (in_11 hX.1 (by omega)) kk_11 mV_X11_waveOf ln_X11_199 rfl (Nat.le_of_ble_eq_true rfl) (Nat.le_of_ble_eq_true rfl) (k_X11_waveOf hX v1 v2 σ hp1) dX11_set_3 rfl rfl ?_
    refine g_astoreN (pc := 6) [(5, .null), (0, .ref (am_ad X 11 0)), (1, .int v1), (2, .int v2), (3, .int v3), (4, .int v4)] dX11_set_6 (Nat.le_of_ble_eq_true rfl) rfl ?_
    refine g_aloadN (pc := 8) 0 rfl dX11_set_8 ?_
    refine g_ifnonnullN (pc := 10) dX11_set_10 ?_
    refine g_aload_n (pc := 13) 1 rfl dX11_set_13 rfl ?_
    refine g_iconst (pc := 14) (v := 2) dX11_set_14 (by decide) ?_
    obtain ⟨p3, hp3, hf⟩ := am_bd hf
    refine g_cV (pc := 15) (As := [.int 2]) (st := []) (st1 := [.int (am_b p3.1)]) (in_11 hX.1 (by omega)) kk_11 mV_X11_no ln_X11_104 rfl (Nat.le_of_ble_eq_true rfl) (Nat.le_of_ble_eq_true rfl) (k_X11_no hX 2 σ hp3) dX11_set_15 rfl rfl ?_
    have ho := Option.some.inj hf
    subst ho
    exact g_zreturn (pc := 18) (st := []) (x := p3.1) rfl dX11_set_18 hk
  · subst ep1
    refine g_cV (pc := 3) (As := [.int v1, .int v2]) (st := []) (st1 := [.ref (am_ad X 10 a2)]) (in_11 hX.1 (by omega)) kk_11 mV_X11_waveOf ln_X11_199 rfl (Nat.le_of_ble_eq_true rfl) (Nat.le_of_ble_eq_true rfl) (k_X11_waveOf hX v1 v2 σ hp1) dX11_set_3 rfl rfl ?_
    refine g_astore (pc := 6) [(5, .ref (am_ad X 10 a2)), (0, .ref (am_ad X 11 0)), (1, .int v1), (2, .int v2), (3, .int v3), (4, .int v4)] dX11_set_6 (Nat.le_of_ble_eq_true rfl) rfl ?_
    refine g_aload (pc := 8) 0 rfl dX11_set_8 ?_
    refine g_ifnonnull (pc := 10) 19 dX11_set_10 rfl ?_
    refine g_iload_n (pc := 19) 4 rfl dX11_set_19 rfl ?_
    refine g_iconst (pc := 20) (v := 0) dX11_set_20 (by decide) ?_
    refine g_bipush (pc := 21) (v := 99) dX11_set_21 (by decide) ?_
    obtain ⟨p4, hp4, hf⟩ := am_bd hf
    refine g_cS (pc := 23) (As := [.int v3, .int 0, .int 99]) (st := []) (st1 := [.int (am_b p4)]) mS_X11_isWithin ln_X11_222 rfl (Nat.le_of_ble_eq_true rfl) (Nat.le_of_ble_eq_true rfl) (k_X11_isWithin hX v3 0 99 σ hp4) dX11_set_23 rfl rfl ?_
    refine bt_eq (pc := 26) 40 dX11_set_26 rfl (fun c5 => ?_) (fun c5 => ?_)
    · replace hf := am_ifT c5 hf
      refine g_iload (pc := 29) 5 rfl dX11_set_29 ?_
      refine g_iconst (pc := 31) (v := 0) dX11_set_31 (by decide) ?_
      refine g_bipush (pc := 32) (v := 23) dX11_set_32 (by decide) ?_
      obtain ⟨p6, hp6, hf⟩ := am_bd hf
      refine g_cS (pc := 34) (As := [.int v4, .int 0, .int 23]) (st := []) (st1 := [.int (am_b p6)]) mS_X11_isWithin ln_X11_222 rfl (Nat.le_of_ble_eq_true rfl) (Nat.le_of_ble_eq_true rfl) (k_X11_isWithin hX v4 0 23 σ hp6) dX11_set_34 rfl rfl ?_
      refine bt_ne (pc := 37) 46 dX11_set_37 rfl (fun c7 => ?_) (fun c7 => ?_)
      · replace hf := am_ifT c7 hf
        refine g_aload (pc := 46) 0 rfl dX11_set_46 ?_
        refine g_iload_n (pc := 48) 4 rfl dX11_set_48 rfl ?_
        obtain ⟨s8, hs8, hf⟩ := am_bd hf
        refine g_setI (pc := 49) (in_10 hX.1 (by omega)) fr_X11_211 dX11_set_49 (Option.some.inj hs8) ?_
        refine g_aload (pc := 52) 0 rfl dX11_set_52 ?_
        refine g_iload (pc := 54) 5 rfl dX11_set_54 ?_
        obtain ⟨s9, hs9, hf⟩ := am_bd hf
        refine g_setI (pc := 56) (in_10 hX.1 (by omega)) fr_X11_214 dX11_set_56 (Option.some.inj hs9) ?_
        refine g_aload_n (pc := 59) 1 rfl dX11_set_59 rfl ?_
        obtain ⟨p10, hp10, hf⟩ := am_bd hf
        refine g_cV (pc := 60) (As := []) (st := []) (st1 := [.int (am_b p10.1)]) (in_11 hX.1 (by omega)) kk_11 mV_X11_yes ln_X11_112 rfl (Nat.le_of_ble_eq_true rfl) (Nat.le_of_ble_eq_true rfl) (k_X11_yes hX s9 hp10) dX11_set_60 rfl rfl ?_
        have ho := Option.some.inj hf
        subst ho
        exact g_zreturn (pc := 63) (st := []) (x := p10.1) rfl dX11_set_63 hk
      replace hf := am_ifF c7 hf
      exact am_sub [1] rfl (q_X11_set_40 hX σ hf hk)
    replace hf := am_ifF c5 hf
    exact am_sub [1] rfl (q_X11_set_40 hX σ hf hk)
theorem k_X11_set {X : am_X} (hX : am_wC X) (v1 : Int32) (v2 : Int32) (v3 : Int32) (v4 : Int32) (σ : am_H) {o : Bool × am_H} (hf : f_X11_set v1 v2 v3 v4 σ = some o) : am_C X gm_X11_set [.ref (am_ad X 11 0), .int v1, .int v2, .int v3, .int v4] σ (am_is (some (.int (am_b o.1))) o.2) :=
  am_ofG rfl (Nat.le_of_ble_eq_true rfl) rfl (q_X11_set hX v1 v2 v3 v4 σ hf ⟨rfl, rfl⟩)
theorem dX11_isHour_0 : decode cX11_isHour 0 = .ok (.iload_n 0, 1) := by decide +kernel
theorem dX11_isHour_1 : decode cX11_isHour 1 = .ok (.ifCond .lt 14, 3) := by decide +kernel
theorem dX11_isHour_4 : decode cX11_isHour 4 = .ok (.iload_n 0, 1) := by decide +kernel
theorem dX11_isHour_5 : decode cX11_isHour 5 = .ok (.ldc_w 372, 3) := by decide +kernel
theorem dX11_isHour_8 : decode cX11_isHour 8 = .ok (.if_icmp .gt 7, 3) := by decide +kernel
theorem dX11_isHour_11 : decode cX11_isHour 11 = .ok (.iconst 1, 1) := by decide +kernel
theorem dX11_isHour_12 : decode cX11_isHour 12 = .ok (.goto 4, 3) := by decide +kernel
theorem dX11_isHour_15 : decode cX11_isHour 15 = .ok (.iconst 0, 1) := by decide +kernel
theorem dX11_isHour_16 : decode cX11_isHour 16 = .ok (.ireturn, 1) := by decide +kernel
noncomputable def f_X11_isHour (v0 : Int32) (σ : am_H) : Option (Bool) :=
  if v0 < 0 then
   (some false)
  else
  if 99999 < v0 then
   (some false)
  else
  some true
set_option maxRecDepth 100000 in
set_option maxHeartbeats 4000000 in
theorem q_X11_isHour {X : am_X} (hX : am_wC X) {Q : Option Value → am_H → Prop} (v0 : Int32) (σ : am_H) {o : Bool} (hf : f_X11_isHour v0 σ = some o) (hk : Q (some (.int (am_b o))) σ) : am_G X gm_X11_isHour Q 0 [(0, .int v0)] [] σ := by
  unfold f_X11_isHour at hf
  refine g_iload_n (pc := 0) 0 rfl dX11_isHour_0 rfl ?_
  refine bz_lt (pc := 1) 15 dX11_isHour_1 rfl (fun c1 => ?_) (fun c1 => ?_)
  · replace hf := am_ifT c1 hf
    refine g_iconst (pc := 15) (v := 0) dX11_isHour_15 (by decide) ?_
    have ho := Option.some.inj hf
    subst ho
    exact g_zreturn (pc := 16) (st := []) (x := false) rfl dX11_isHour_16 hk
  replace hf := am_ifF c1 hf
  refine g_iload_n (pc := 4) 0 rfl dX11_isHour_4 rfl ?_
  refine g_ldcw (pc := 5) (v := 99999) (tb_4 (List.mem_of_getElem? (i := 169) (by decide +kernel))) dX11_isHour_5 ?_
  refine bi_gt (pc := 8) 15 dX11_isHour_8 rfl (fun c2 => ?_) (fun c2 => ?_)
  · replace hf := am_ifT c2 hf
    refine g_iconst (pc := 15) (v := 0) dX11_isHour_15 (by decide) ?_
    have ho := Option.some.inj hf
    subst ho
    exact g_zreturn (pc := 16) (st := []) (x := false) rfl dX11_isHour_16 hk
  replace hf := am_ifF c2 hf
  refine g_iconst (pc := 11) (v := 1) dX11_isHour_11 (by decide) ?_
  refine g_goto (pc := 12) 16 dX11_isHour_12 rfl ?_
  have ho := Option.some.inj hf
  subst ho
  exact g_zreturn (pc := 16) (st := []) (x := true) rfl dX11_isHour_16 hk
theorem k_X11_isHour {X : am_X} (hX : am_wC X) (v0 : Int32) (σ : am_H) {o : Bool} (hf : f_X11_isHour v0 σ = some o) : am_C X gm_X11_isHour [.int v0] σ (am_is (some (.int (am_b o))) σ) :=
  am_ofG rfl (Nat.le_of_ble_eq_true rfl) rfl (q_X11_isHour hX v0 σ hf ⟨rfl, rfl⟩)
theorem dX11_place_0 : decode cX11_place 0 = .ok (.aload_n 0, 1) := by decide +kernel
theorem dX11_place_1 : decode cX11_place 1 = .ok (.iload_n 1, 1) := by decide +kernel
theorem dX11_place_2 : decode cX11_place 2 = .ok (.iload_n 2, 1) := by decide +kernel
theorem dX11_place_3 : decode cX11_place 3 = .ok (.invokevirtual 199, 3) := by decide +kernel
theorem dX11_place_6 : decode cX11_place 6 = .ok (.astore 5, 2) := by decide +kernel
theorem dX11_place_8 : decode cX11_place 8 = .ok (.aload 5, 2) := by decide +kernel
theorem dX11_place_10 : decode cX11_place 10 = .ok (.ifnonnull 9, 3) := by decide +kernel
theorem dX11_place_13 : decode cX11_place 13 = .ok (.aload_n 0, 1) := by decide +kernel
theorem dX11_place_14 : decode cX11_place 14 = .ok (.iconst 2, 1) := by decide +kernel
theorem dX11_place_15 : decode cX11_place 15 = .ok (.invokevirtual 124, 3) := by decide +kernel
theorem dX11_place_18 : decode cX11_place 18 = .ok (.ireturn, 1) := by decide +kernel
theorem dX11_place_19 : decode cX11_place 19 = .ok (.iload_n 3, 1) := by decide +kernel
theorem dX11_place_20 : decode cX11_place 20 = .ok (.invokestatic 226, 3) := by decide +kernel
theorem dX11_place_23 : decode cX11_place 23 = .ok (.ifCond .ne 9, 3) := by decide +kernel
theorem dX11_place_26 : decode cX11_place 26 = .ok (.aload_n 0, 1) := by decide +kernel
theorem dX11_place_27 : decode cX11_place 27 = .ok (.iconst 5, 1) := by decide +kernel
theorem dX11_place_28 : decode cX11_place 28 = .ok (.invokevirtual 124, 3) := by decide +kernel
theorem dX11_place_31 : decode cX11_place 31 = .ok (.ireturn, 1) := by decide +kernel
theorem dX11_place_32 : decode cX11_place 32 = .ok (.aload_n 0, 1) := by decide +kernel
theorem dX11_place_33 : decode cX11_place 33 = .ok (.aload 5, 2) := by decide +kernel
theorem dX11_place_35 : decode cX11_place 35 = .ok (.iload_n 3, 1) := by decide +kernel
theorem dX11_place_36 : decode cX11_place 36 = .ok (.i2l, 1) := by decide +kernel
theorem dX11_place_37 : decode cX11_place 37 = .ok (.iload 4, 2) := by decide +kernel
theorem dX11_place_39 : decode cX11_place 39 = .ok (.invokevirtual 229, 3) := by decide +kernel
theorem dX11_place_42 : decode cX11_place 42 = .ok (.invokevirtual 176, 3) := by decide +kernel
theorem dX11_place_45 : decode cX11_place 45 = .ok (.ireturn, 1) := by decide +kernel
noncomputable def f_X11_place (v1 : Int32) (v2 : Int32) (v3 : Int32) (v4 : Bool) (σ : am_H) : Option (Int32 × am_H) :=
  (f_X11_waveOf v1 v2 σ).bind fun p1 =>
  am_nn 18 p1
   ((f_X11_none 2 σ).bind fun p3 =>
   some (p3.1, p3.2))
   (fun a2 =>
   (f_X11_isHour v3 σ).bind fun p4 =>
   if p4 = true then
    ((f_X10_placeAt a2 (Int32.toInt64 v3) v4 σ).bind fun p6 =>
    (f_X11_answer p6 σ).bind fun p7 =>
    some (p7.1, p7.2))
   else
   (f_X11_none 5 σ).bind fun p8 =>
   some (p8.1, p8.2))
set_option maxRecDepth 100000 in
set_option maxHeartbeats 4000000 in
theorem q_X11_place {X : am_X} (hX : am_wC X) {Q : Option Value → am_H → Prop} (v1 : Int32) (v2 : Int32) (v3 : Int32) (v4 : Bool) (σ : am_H) {o : Int32 × am_H} (hf : f_X11_place v1 v2 v3 v4 σ = some o) (hk : Q (some (.int o.1)) o.2) : am_G X gm_X11_place Q 0 [(0, .ref (am_ad X 11 0)), (1, .int v1), (2, .int v2), (3, .int v3), (4, .int (am_b v4))] [] σ := by
  unfold f_X11_place at hf
  refine g_aload_n (pc := 0) 0 rfl dX11_place_0 rfl ?_
  refine g_iload_n (pc := 1) 1 rfl dX11_place_1 rfl ?_
  refine g_iload_n (pc := 2) 2 rfl dX11_place_2 rfl ?_
  obtain ⟨p1, hp1, hf⟩ := am_bd hf
  have hq := am_nn_c hf
  clear hf
  rcases hq with ⟨ep1, hf⟩ | ⟨a2, ep1, ga2, hf⟩
  · subst ep1
    refine g_cV (pc := 3) (As := [.int v1, .int v2]) (st := []) (st1 := [.null]) (in_11 hX.1 (by omega)) kk_11 mV_X11_waveOf ln_X11_199 rfl (Nat.le_of_ble_eq_true rfl) (Nat.le_of_ble_eq_true rfl) (k_X11_waveOf hX v1 v2 σ hp1) dX11_place_3 rfl rfl ?_
    refine g_astoreN (pc := 6) [(5, .null), (0, .ref (am_ad X 11 0)), (1, .int v1), (2, .int v2), (3, .int v3), (4, .int (am_b v4))] dX11_place_6 (Nat.le_of_ble_eq_true rfl) rfl ?_
    refine g_aloadN (pc := 8) 0 rfl dX11_place_8 ?_
    refine g_ifnonnullN (pc := 10) dX11_place_10 ?_
    refine g_aload_n (pc := 13) 1 rfl dX11_place_13 rfl ?_
    refine g_iconst (pc := 14) (v := 2) dX11_place_14 (by decide) ?_
    obtain ⟨p3, hp3, hf⟩ := am_bd hf
    refine g_cV (pc := 15) (As := [.int 2]) (st := []) (st1 := [.int p3.1]) (in_11 hX.1 (by omega)) kk_11 mV_X11_none ln_X11_124 rfl (Nat.le_of_ble_eq_true rfl) (Nat.le_of_ble_eq_true rfl) (k_X11_none hX 2 σ hp3) dX11_place_15 rfl rfl ?_
    have ho := Option.some.inj hf
    subst ho
    exact g_ireturn (pc := 18) (st := []) rfl dX11_place_18 hk
  · subst ep1
    refine g_cV (pc := 3) (As := [.int v1, .int v2]) (st := []) (st1 := [.ref (am_ad X 10 a2)]) (in_11 hX.1 (by omega)) kk_11 mV_X11_waveOf ln_X11_199 rfl (Nat.le_of_ble_eq_true rfl) (Nat.le_of_ble_eq_true rfl) (k_X11_waveOf hX v1 v2 σ hp1) dX11_place_3 rfl rfl ?_
    refine g_astore (pc := 6) [(5, .ref (am_ad X 10 a2)), (0, .ref (am_ad X 11 0)), (1, .int v1), (2, .int v2), (3, .int v3), (4, .int (am_b v4))] dX11_place_6 (Nat.le_of_ble_eq_true rfl) rfl ?_
    refine g_aload (pc := 8) 0 rfl dX11_place_8 ?_
    refine g_ifnonnull (pc := 10) 19 dX11_place_10 rfl ?_
    refine g_iload_n (pc := 19) 4 rfl dX11_place_19 rfl ?_
    obtain ⟨p4, hp4, hf⟩ := am_bd hf
    refine g_cS (pc := 20) (As := [.int v3]) (st := []) (st1 := [.int (am_b p4)]) mS_X11_isHour ln_X11_226 rfl (Nat.le_of_ble_eq_true rfl) (Nat.le_of_ble_eq_true rfl) (k_X11_isHour hX v3 σ hp4) dX11_place_20 rfl rfl ?_
    refine bt_ne (pc := 23) 32 dX11_place_23 rfl (fun c5 => ?_) (fun c5 => ?_)
    · replace hf := am_ifT c5 hf
      refine g_aload_n (pc := 32) 1 rfl dX11_place_32 rfl ?_
      refine g_aload (pc := 33) 0 rfl dX11_place_33 ?_
      refine g_iload_n (pc := 35) 4 rfl dX11_place_35 rfl ?_
      refine g_i2l (pc := 36) dX11_place_36 ?_
      refine g_iload (pc := 37) 5 rfl dX11_place_37 ?_
      obtain ⟨p6, hp6, hf⟩ := am_bd hf
      refine g_cV (pc := 39) (As := [.long (Int32.toInt64 v3), .int (am_b v4)]) (st := [.ref (am_ad X 11 0)]) (st1 := [.int p6, .ref (am_ad X 11 0)]) (in_10 hX.1 (by omega)) kk_10 mV_X10_placeAt ln_X11_229 rfl (Nat.le_of_ble_eq_true rfl) (Nat.le_of_ble_eq_true rfl) (k_X10_placeAt hX a2 (Int32.toInt64 v3) v4 (by omega) σ hp6) dX11_place_39 rfl rfl ?_
      obtain ⟨p7, hp7, hf⟩ := am_bd hf
      refine g_cV (pc := 42) (As := [.int p6]) (st := []) (st1 := [.int p7.1]) (in_11 hX.1 (by omega)) kk_11 mV_X11_answer ln_X11_176 rfl (Nat.le_of_ble_eq_true rfl) (Nat.le_of_ble_eq_true rfl) (k_X11_answer hX p6 σ hp7) dX11_place_42 rfl rfl ?_
      have ho := Option.some.inj hf
      subst ho
      exact g_ireturn (pc := 45) (st := []) rfl dX11_place_45 hk
    replace hf := am_ifF c5 hf
    refine g_aload_n (pc := 26) 1 rfl dX11_place_26 rfl ?_
    refine g_iconst (pc := 27) (v := 5) dX11_place_27 (by decide) ?_
    obtain ⟨p8, hp8, hf⟩ := am_bd hf
    refine g_cV (pc := 28) (As := [.int 5]) (st := []) (st1 := [.int p8.1]) (in_11 hX.1 (by omega)) kk_11 mV_X11_none ln_X11_124 rfl (Nat.le_of_ble_eq_true rfl) (Nat.le_of_ble_eq_true rfl) (k_X11_none hX 5 σ hp8) dX11_place_28 rfl rfl ?_
    have ho := Option.some.inj hf
    subst ho
    exact g_ireturn (pc := 31) (st := []) rfl dX11_place_31 hk
theorem k_X11_place {X : am_X} (hX : am_wC X) (v1 : Int32) (v2 : Int32) (v3 : Int32) (v4 : Bool) (σ : am_H) {o : Int32 × am_H} (hf : f_X11_place v1 v2 v3 v4 σ = some o) : am_C X gm_X11_place [.ref (am_ad X 11 0), .int v1, .int v2, .int v3, .int (am_b v4)] σ (am_is (some (.int o.1)) o.2) :=
  am_ofG rfl (Nat.le_of_ble_eq_true rfl) rfl (q_X11_place hX v1 v2 v3 v4 σ hf ⟨rfl, rfl⟩)
theorem dX11_height_0 : decode cX11_height 0 = .ok (.aload_n 0, 1) := by decide +kernel
theorem dX11_height_1 : decode cX11_height 1 = .ok (.iload_n 1, 1) := by decide +kernel
theorem dX11_height_2 : decode cX11_height 2 = .ok (.invokevirtual 159, 3) := by decide +kernel
theorem dX11_height_5 : decode cX11_height 5 = .ok (.astore 4, 2) := by decide +kernel
theorem dX11_height_7 : decode cX11_height 7 = .ok (.aload 4, 2) := by decide +kernel
theorem dX11_height_9 : decode cX11_height 9 = .ok (.ifnonnull 9, 3) := by decide +kernel
theorem dX11_height_12 : decode cX11_height 12 = .ok (.aload_n 0, 1) := by decide +kernel
theorem dX11_height_13 : decode cX11_height 13 = .ok (.iconst 2, 1) := by decide +kernel
theorem dX11_height_14 : decode cX11_height 14 = .ok (.invokevirtual 124, 3) := by decide +kernel
theorem dX11_height_17 : decode cX11_height 17 = .ok (.ireturn, 1) := by decide +kernel
theorem dX11_height_18 : decode cX11_height 18 = .ok (.iload_n 2, 1) := by decide +kernel
theorem dX11_height_19 : decode cX11_height 19 = .ok (.invokestatic 226, 3) := by decide +kernel
theorem dX11_height_22 : decode cX11_height 22 = .ok (.ifCond .ne 9, 3) := by decide +kernel
theorem dX11_height_25 : decode cX11_height 25 = .ok (.aload_n 0, 1) := by decide +kernel
theorem dX11_height_26 : decode cX11_height 26 = .ok (.iconst 5, 1) := by decide +kernel
theorem dX11_height_27 : decode cX11_height 27 = .ok (.invokevirtual 124, 3) := by decide +kernel
theorem dX11_height_30 : decode cX11_height 30 = .ok (.ireturn, 1) := by decide +kernel
theorem dX11_height_31 : decode cX11_height 31 = .ok (.aload_n 0, 1) := by decide +kernel
theorem dX11_height_32 : decode cX11_height 32 = .ok (.aload 4, 2) := by decide +kernel
theorem dX11_height_34 : decode cX11_height 34 = .ok (.iload_n 2, 1) := by decide +kernel
theorem dX11_height_35 : decode cX11_height 35 = .ok (.i2l, 1) := by decide +kernel
theorem dX11_height_36 : decode cX11_height 36 = .ok (.iload_n 3, 1) := by decide +kernel
theorem dX11_height_37 : decode cX11_height 37 = .ok (.invokevirtual 233, 3) := by decide +kernel
theorem dX11_height_40 : decode cX11_height 40 = .ok (.invokevirtual 176, 3) := by decide +kernel
theorem dX11_height_43 : decode cX11_height 43 = .ok (.ireturn, 1) := by decide +kernel
noncomputable def f_X11_height (v1 : Int32) (v2 : Int32) (v3 : Bool) (σ : am_H) : Option (Int32 × am_H) :=
  (f_X11_machineOf v1 σ).bind fun p1 =>
  am_nn 3 p1
   ((f_X11_none 2 σ).bind fun p3 =>
   some (p3.1, p3.2))
   (fun a2 =>
   (f_X11_isHour v2 σ).bind fun p4 =>
   if p4 = true then
    ((f_X3_heightAt a2 (Int32.toInt64 v2) v3 σ).bind fun p6 =>
    (f_X11_answer p6 σ).bind fun p7 =>
    some (p7.1, p7.2))
   else
   (f_X11_none 5 σ).bind fun p8 =>
   some (p8.1, p8.2))
set_option maxRecDepth 100000 in
set_option maxHeartbeats 4000000 in
theorem q_X11_height {X : am_X} (hX : am_wC X) {Q : Option Value → am_H → Prop} (v1 : Int32) (v2 : Int32) (v3 : Bool) (σ : am_H) {o : Int32 × am_H} (hf : f_X11_height v1 v2 v3 σ = some o) (hk : Q (some (.int o.1)) o.2) : am_G X gm_X11_height Q 0 [(0, .ref (am_ad X 11 0)), (1, .int v1), (2, .int v2), (3, .int (am_b v3))] [] σ := by
  unfold f_X11_height at hf
  refine g_aload_n (pc := 0) 0 rfl dX11_height_0 rfl ?_
  refine g_iload_n (pc := 1) 1 rfl dX11_height_1 rfl ?_
  obtain ⟨p1, hp1, hf⟩ := am_bd hf
  have hq := am_nn_c hf
  clear hf
  rcases hq with ⟨ep1, hf⟩ | ⟨a2, ep1, ga2, hf⟩
  · subst ep1
    refine g_cV (pc := 2) (As := [.int v1]) (st := []) (st1 := [.null]) (in_11 hX.1 (by omega)) kk_11 mV_X11_machineOf ln_X11_159 rfl (Nat.le_of_ble_eq_true rfl) (Nat.le_of_ble_eq_true rfl) (k_X11_machineOf hX v1 σ hp1) dX11_height_2 rfl rfl ?_
    refine g_astoreN (pc := 5) [(4, .null), (0, .ref (am_ad X 11 0)), (1, .int v1), (2, .int v2), (3, .int (am_b v3))] dX11_height_5 (Nat.le_of_ble_eq_true rfl) rfl ?_
    refine g_aloadN (pc := 7) 0 rfl dX11_height_7 ?_
    refine g_ifnonnullN (pc := 9) dX11_height_9 ?_
    refine g_aload_n (pc := 12) 1 rfl dX11_height_12 rfl ?_
    refine g_iconst (pc := 13) (v := 2) dX11_height_13 (by decide) ?_
    obtain ⟨p3, hp3, hf⟩ := am_bd hf
    refine g_cV (pc := 14) (As := [.int 2]) (st := []) (st1 := [.int p3.1]) (in_11 hX.1 (by omega)) kk_11 mV_X11_none ln_X11_124 rfl (Nat.le_of_ble_eq_true rfl) (Nat.le_of_ble_eq_true rfl) (k_X11_none hX 2 σ hp3) dX11_height_14 rfl rfl ?_
    have ho := Option.some.inj hf
    subst ho
    exact g_ireturn (pc := 17) (st := []) rfl dX11_height_17 hk
  · subst ep1
    refine g_cV (pc := 2) (As := [.int v1]) (st := []) (st1 := [.ref (am_ad X 3 a2)]) (in_11 hX.1 (by omega)) kk_11 mV_X11_machineOf ln_X11_159 rfl (Nat.le_of_ble_eq_true rfl) (Nat.le_of_ble_eq_true rfl) (k_X11_machineOf hX v1 σ hp1) dX11_height_2 rfl rfl ?_
    refine g_astore (pc := 5) [(4, .ref (am_ad X 3 a2)), (0, .ref (am_ad X 11 0)), (1, .int v1), (2, .int v2), (3, .int (am_b v3))] dX11_height_5 (Nat.le_of_ble_eq_true rfl) rfl ?_
    refine g_aload (pc := 7) 0 rfl dX11_height_7 ?_
    refine g_ifnonnull (pc := 9) 18 dX11_height_9 rfl ?_
    refine g_iload_n (pc := 18) 3 rfl dX11_height_18 rfl ?_
    obtain ⟨p4, hp4, hf⟩ := am_bd hf
    refine g_cS (pc := 19) (As := [.int v2]) (st := []) (st1 := [.int (am_b p4)]) mS_X11_isHour ln_X11_226 rfl (Nat.le_of_ble_eq_true rfl) (Nat.le_of_ble_eq_true rfl) (k_X11_isHour hX v2 σ hp4) dX11_height_19 rfl rfl ?_
    refine bt_ne (pc := 22) 31 dX11_height_22 rfl (fun c5 => ?_) (fun c5 => ?_)
    · replace hf := am_ifT c5 hf
      refine g_aload_n (pc := 31) 1 rfl dX11_height_31 rfl ?_
      refine g_aload (pc := 32) 0 rfl dX11_height_32 ?_
      refine g_iload_n (pc := 34) 3 rfl dX11_height_34 rfl ?_
      refine g_i2l (pc := 35) dX11_height_35 ?_
      refine g_iload_n (pc := 36) 4 rfl dX11_height_36 rfl ?_
      obtain ⟨p6, hp6, hf⟩ := am_bd hf
      refine g_cV (pc := 37) (As := [.long (Int32.toInt64 v2), .int (am_b v3)]) (st := [.ref (am_ad X 11 0)]) (st1 := [.int p6, .ref (am_ad X 11 0)]) (in_3 hX.1 (by omega)) kk_3 mV_X3_heightAt ln_X11_233 rfl (Nat.le_of_ble_eq_true rfl) (Nat.le_of_ble_eq_true rfl) (k_X3_heightAt hX a2 (Int32.toInt64 v2) v3 (by omega) σ hp6) dX11_height_37 rfl rfl ?_
      obtain ⟨p7, hp7, hf⟩ := am_bd hf
      refine g_cV (pc := 40) (As := [.int p6]) (st := []) (st1 := [.int p7.1]) (in_11 hX.1 (by omega)) kk_11 mV_X11_answer ln_X11_176 rfl (Nat.le_of_ble_eq_true rfl) (Nat.le_of_ble_eq_true rfl) (k_X11_answer hX p6 σ hp7) dX11_height_40 rfl rfl ?_
      have ho := Option.some.inj hf
      subst ho
      exact g_ireturn (pc := 43) (st := []) rfl dX11_height_43 hk
    replace hf := am_ifF c5 hf
    refine g_aload_n (pc := 25) 1 rfl dX11_height_25 rfl ?_
    refine g_iconst (pc := 26) (v := 5) dX11_height_26 (by decide) ?_
    obtain ⟨p8, hp8, hf⟩ := am_bd hf
    refine g_cV (pc := 27) (As := [.int 5]) (st := []) (st1 := [.int p8.1]) (in_11 hX.1 (by omega)) kk_11 mV_X11_none ln_X11_124 rfl (Nat.le_of_ble_eq_true rfl) (Nat.le_of_ble_eq_true rfl) (k_X11_none hX 5 σ hp8) dX11_height_27 rfl rfl ?_
    have ho := Option.some.inj hf
    subst ho
    exact g_ireturn (pc := 30) (st := []) rfl dX11_height_30 hk
theorem k_X11_height {X : am_X} (hX : am_wC X) (v1 : Int32) (v2 : Int32) (v3 : Bool) (σ : am_H) {o : Int32 × am_H} (hf : f_X11_height v1 v2 v3 σ = some o) : am_C X gm_X11_height [.ref (am_ad X 11 0), .int v1, .int v2, .int (am_b v3)] σ (am_is (some (.int o.1)) o.2) :=
  am_ofG rfl (Nat.le_of_ble_eq_true rfl) rfl (q_X11_height hX v1 v2 v3 σ hf ⟨rfl, rfl⟩)
theorem dX11_isSpan_0 : decode cX11_isSpan 0 = .ok (.iload_n 0, 1) := by decide +kernel
theorem dX11_isSpan_1 : decode cX11_isSpan 1 = .ok (.invokestatic 226, 3) := by decide +kernel
theorem dX11_isSpan_4 : decode cX11_isSpan 4 = .ok (.ifCond .eq 26, 3) := by decide +kernel
theorem dX11_isSpan_7 : decode cX11_isSpan 7 = .ok (.iload_n 1, 1) := by decide +kernel
theorem dX11_isSpan_8 : decode cX11_isSpan 8 = .ok (.invokestatic 226, 3) := by decide +kernel
theorem dX11_isSpan_11 : decode cX11_isSpan 11 = .ok (.ifCond .eq 19, 3) := by decide +kernel
theorem dX11_isSpan_14 : decode cX11_isSpan 14 = .ok (.iload_n 0, 1) := by decide +kernel
theorem dX11_isSpan_15 : decode cX11_isSpan 15 = .ok (.iload_n 1, 1) := by decide +kernel
theorem dX11_isSpan_16 : decode cX11_isSpan 16 = .ok (.if_icmp .gt 14, 3) := by decide +kernel
theorem dX11_isSpan_19 : decode cX11_isSpan 19 = .ok (.iload_n 1, 1) := by decide +kernel
theorem dX11_isSpan_20 : decode cX11_isSpan 20 = .ok (.iload_n 0, 1) := by decide +kernel
theorem dX11_isSpan_21 : decode cX11_isSpan 21 = .ok (.isub, 1) := by decide +kernel
theorem dX11_isSpan_22 : decode cX11_isSpan 22 = .ok (.iload_n 2, 1) := by decide +kernel
theorem dX11_isSpan_23 : decode cX11_isSpan 23 = .ok (.if_icmp .ge 7, 3) := by decide +kernel
theorem dX11_isSpan_26 : decode cX11_isSpan 26 = .ok (.iconst 1, 1) := by decide +kernel
theorem dX11_isSpan_27 : decode cX11_isSpan 27 = .ok (.goto 4, 3) := by decide +kernel
theorem dX11_isSpan_30 : decode cX11_isSpan 30 = .ok (.iconst 0, 1) := by decide +kernel
theorem dX11_isSpan_31 : decode cX11_isSpan 31 = .ok (.ireturn, 1) := by decide +kernel
noncomputable def f_X11_isSpan (v0 : Int32) (v1 : Int32) (v2 : Int32) (σ : am_H) : Option (Bool) :=
  (f_X11_isHour v0 σ).bind fun p1 =>
  if p1 = true then
   ((f_X11_isHour v1 σ).bind fun p3 =>
   if p3 = true then
    (if v1 < v0 then
     (some false)
    else
    if (v1 - v0) < v2 then
     (some true)
    else
    some false)
   else
   some false)
  else
  some false
set_option maxRecDepth 100000 in
set_option maxHeartbeats 4000000 in
theorem q_X11_isSpan {X : am_X} (hX : am_wC X) {Q : Option Value → am_H → Prop} (v0 : Int32) (v1 : Int32) (v2 : Int32) (σ : am_H) {o : Bool} (hf : f_X11_isSpan v0 v1 v2 σ = some o) (hk : Q (some (.int (am_b o))) σ) : am_G X gm_X11_isSpan Q 0 [(0, .int v0), (1, .int v1), (2, .int v2)] [] σ := by
  unfold f_X11_isSpan at hf
  refine g_iload_n (pc := 0) 0 rfl dX11_isSpan_0 rfl ?_
  obtain ⟨p1, hp1, hf⟩ := am_bd hf
  refine g_cS (pc := 1) (As := [.int v0]) (st := []) (st1 := [.int (am_b p1)]) mS_X11_isHour ln_X11_226 rfl (Nat.le_of_ble_eq_true rfl) (Nat.le_of_ble_eq_true rfl) (k_X11_isHour hX v0 σ hp1) dX11_isSpan_1 rfl rfl ?_
  refine bt_eq (pc := 4) 30 dX11_isSpan_4 rfl (fun c2 => ?_) (fun c2 => ?_)
  · replace hf := am_ifT c2 hf
    refine g_iload_n (pc := 7) 1 rfl dX11_isSpan_7 rfl ?_
    obtain ⟨p3, hp3, hf⟩ := am_bd hf
    refine g_cS (pc := 8) (As := [.int v1]) (st := []) (st1 := [.int (am_b p3)]) mS_X11_isHour ln_X11_226 rfl (Nat.le_of_ble_eq_true rfl) (Nat.le_of_ble_eq_true rfl) (k_X11_isHour hX v1 σ hp3) dX11_isSpan_8 rfl rfl ?_
    refine bt_eq (pc := 11) 30 dX11_isSpan_11 rfl (fun c4 => ?_) (fun c4 => ?_)
    · replace hf := am_ifT c4 hf
      refine g_iload_n (pc := 14) 0 rfl dX11_isSpan_14 rfl ?_
      refine g_iload_n (pc := 15) 1 rfl dX11_isSpan_15 rfl ?_
      refine bi_gt (pc := 16) 30 dX11_isSpan_16 rfl (fun c5 => ?_) (fun c5 => ?_)
      · replace hf := am_ifT c5 hf
        refine g_iconst (pc := 30) (v := 0) dX11_isSpan_30 (by decide) ?_
        have ho := Option.some.inj hf
        subst ho
        exact g_zreturn (pc := 31) (st := []) (x := false) rfl dX11_isSpan_31 hk
      replace hf := am_ifF c5 hf
      refine g_iload_n (pc := 19) 1 rfl dX11_isSpan_19 rfl ?_
      refine g_iload_n (pc := 20) 0 rfl dX11_isSpan_20 rfl ?_
      refine g_isub (pc := 21) dX11_isSpan_21 ?_
      refine g_iload_n (pc := 22) 2 rfl dX11_isSpan_22 rfl ?_
      refine bi_ge (pc := 23) 30 dX11_isSpan_23 rfl (fun c6 => ?_) (fun c6 => ?_)
      · replace hf := am_ifT c6 hf
        refine g_iconst (pc := 26) (v := 1) dX11_isSpan_26 (by decide) ?_
        refine g_goto (pc := 27) 31 dX11_isSpan_27 rfl ?_
        have ho := Option.some.inj hf
        subst ho
        exact g_zreturn (pc := 31) (st := []) (x := true) rfl dX11_isSpan_31 hk
      replace hf := am_ifF c6 hf
      refine g_iconst (pc := 30) (v := 0) dX11_isSpan_30 (by decide) ?_
      have ho := Option.some.inj hf
      subst ho
      exact g_zreturn (pc := 31) (st := []) (x := false) rfl dX11_isSpan_31 hk
    replace hf := am_ifF c4 hf
    refine g_iconst (pc := 30) (v := 0) dX11_isSpan_30 (by decide) ?_
    have ho := Option.some.inj hf
    subst ho
    exact g_zreturn (pc := 31) (st := []) (x := false) rfl dX11_isSpan_31 hk
  replace hf := am_ifF c2 hf
  refine g_iconst (pc := 30) (v := 0) dX11_isSpan_30 (by decide) ?_
  have ho := Option.some.inj hf
  subst ho
  exact g_zreturn (pc := 31) (st := []) (x := false) rfl dX11_isSpan_31 hk
theorem k_X11_isSpan {X : am_X} (hX : am_wC X) (v0 : Int32) (v1 : Int32) (v2 : Int32) (σ : am_H) {o : Bool} (hf : f_X11_isSpan v0 v1 v2 σ = some o) : am_C X gm_X11_isSpan [.int v0, .int v1, .int v2] σ (am_is (some (.int (am_b o))) σ) :=
  am_ofG rfl (Nat.le_of_ble_eq_true rfl) rfl (q_X11_isSpan hX v0 v1 v2 σ hf ⟨rfl, rfl⟩)
theorem dX11_pointer_0 : decode cX11_pointer 0 = .ok (.aload_n 0, 1) := by decide +kernel
theorem dX11_pointer_1 : decode cX11_pointer 1 = .ok (.iload_n 1, 1) := by decide +kernel
theorem dX11_pointer_2 : decode cX11_pointer 2 = .ok (.invokevirtual 159, 3) := by decide +kernel
theorem dX11_pointer_5 : decode cX11_pointer 5 = .ok (.astore 4, 2) := by decide +kernel
theorem dX11_pointer_7 : decode cX11_pointer 7 = .ok (.aload 4, 2) := by decide +kernel
theorem dX11_pointer_9 : decode cX11_pointer 9 = .ok (.ifnonnull 9, 3) := by decide +kernel
theorem dX11_pointer_12 : decode cX11_pointer 12 = .ok (.aload_n 0, 1) := by decide +kernel
theorem dX11_pointer_13 : decode cX11_pointer 13 = .ok (.iconst 2, 1) := by decide +kernel
theorem dX11_pointer_14 : decode cX11_pointer 14 = .ok (.invokevirtual 124, 3) := by decide +kernel
theorem dX11_pointer_17 : decode cX11_pointer 17 = .ok (.ireturn, 1) := by decide +kernel
theorem dX11_pointer_18 : decode cX11_pointer 18 = .ok (.iload_n 2, 1) := by decide +kernel
theorem dX11_pointer_19 : decode cX11_pointer 19 = .ok (.iload_n 3, 1) := by decide +kernel
theorem dX11_pointer_20 : decode cX11_pointer 20 = .ok (.sipush 2001, 3) := by decide +kernel
theorem dX11_pointer_23 : decode cX11_pointer 23 = .ok (.invokestatic 236, 3) := by decide +kernel
theorem dX11_pointer_26 : decode cX11_pointer 26 = .ok (.ifCond .ne 9, 3) := by decide +kernel
theorem dX11_pointer_29 : decode cX11_pointer 29 = .ok (.aload_n 0, 1) := by decide +kernel
theorem dX11_pointer_30 : decode cX11_pointer 30 = .ok (.iconst 5, 1) := by decide +kernel
theorem dX11_pointer_31 : decode cX11_pointer 31 = .ok (.invokevirtual 124, 3) := by decide +kernel
theorem dX11_pointer_34 : decode cX11_pointer 34 = .ok (.ireturn, 1) := by decide +kernel
theorem dX11_pointer_35 : decode cX11_pointer 35 = .ok (.aload_n 0, 1) := by decide +kernel
theorem dX11_pointer_36 : decode cX11_pointer 36 = .ok (.aload 4, 2) := by decide +kernel
theorem dX11_pointer_38 : decode cX11_pointer 38 = .ok (.iload_n 2, 1) := by decide +kernel
theorem dX11_pointer_39 : decode cX11_pointer 39 = .ok (.iload_n 3, 1) := by decide +kernel
theorem dX11_pointer_40 : decode cX11_pointer 40 = .ok (.invokevirtual 239, 3) := by decide +kernel
theorem dX11_pointer_43 : decode cX11_pointer 43 = .ok (.invokevirtual 176, 3) := by decide +kernel
theorem dX11_pointer_46 : decode cX11_pointer 46 = .ok (.ireturn, 1) := by decide +kernel
noncomputable def f_X11_pointer (v1 : Int32) (v2 : Int32) (v3 : Int32) (σ : am_H) : Option (Int32 × am_H) :=
  (f_X11_machineOf v1 σ).bind fun p1 =>
  am_nn 3 p1
   ((f_X11_none 2 σ).bind fun p3 =>
   some (p3.1, p3.2))
   (fun a2 =>
   (f_X11_isSpan v2 v3 2001 σ).bind fun p4 =>
   if p4 = true then
    ((f_X3_pointerAt a2 v2 v3 σ).bind fun p6 =>
    (f_X11_answer p6 σ).bind fun p7 =>
    some (p7.1, p7.2))
   else
   (f_X11_none 5 σ).bind fun p8 =>
   some (p8.1, p8.2))
set_option maxRecDepth 100000 in
set_option maxHeartbeats 4000000 in
theorem q_X11_pointer {X : am_X} (hX : am_wC X) {Q : Option Value → am_H → Prop} (v1 : Int32) (v2 : Int32) (v3 : Int32) (σ : am_H) {o : Int32 × am_H} (hf : f_X11_pointer v1 v2 v3 σ = some o) (hk : Q (some (.int o.1)) o.2) : am_G X gm_X11_pointer Q 0 [(0, .ref (am_ad X 11 0)), (1, .int v1), (2, .int v2), (3, .int v3)] [] σ := by
  unfold f_X11_pointer at hf
  refine g_aload_n (pc := 0) 0 rfl dX11_pointer_0 rfl ?_
  refine g_iload_n (pc := 1) 1 rfl dX11_pointer_1 rfl ?_
  obtain ⟨p1, hp1, hf⟩ := am_bd hf
  have hq := am_nn_c hf
  clear hf
  rcases hq with ⟨ep1, hf⟩ | ⟨a2, ep1, ga2, hf⟩
  · subst ep1
    refine g_cV (pc := 2) (As := [.int v1]) (st := []) (st1 := [.null]) (in_11 hX.1 (by omega)) kk_11 mV_X11_machineOf ln_X11_159 rfl (Nat.le_of_ble_eq_true rfl) (Nat.le_of_ble_eq_true rfl) (k_X11_machineOf hX v1 σ hp1) dX11_pointer_2 rfl rfl ?_
    refine g_astoreN (pc := 5) [(4, .null), (0, .ref (am_ad X 11 0)), (1, .int v1), (2, .int v2), (3, .int v3)] dX11_pointer_5 (Nat.le_of_ble_eq_true rfl) rfl ?_
    refine g_aloadN (pc := 7) 0 rfl dX11_pointer_7 ?_
    refine g_ifnonnullN (pc := 9) dX11_pointer_9 ?_
    refine g_aload_n (pc := 12) 1 rfl dX11_pointer_12 rfl ?_
    refine g_iconst (pc := 13) (v := 2) dX11_pointer_13 (by decide) ?_
    obtain ⟨p3, hp3, hf⟩ := am_bd hf
    refine g_cV (pc := 14) (As := [.int 2]) (st := []) (st1 := [.int p3.1]) (in_11 hX.1 (by omega)) kk_11 mV_X11_none ln_X11_124 rfl (Nat.le_of_ble_eq_true rfl) (Nat.le_of_ble_eq_true rfl) (k_X11_none hX 2 σ hp3) dX11_pointer_14 rfl rfl ?_
    have ho := Option.some.inj hf
    subst ho
    exact g_ireturn (pc := 17) (st := []) rfl dX11_pointer_17 hk
  · subst ep1
    refine g_cV (pc := 2) (As := [.int v1]) (st := []) (st1 := [.ref (am_ad X 3 a2)]) (in_11 hX.1 (by omega)) kk_11 mV_X11_machineOf ln_X11_159 rfl (Nat.le_of_ble_eq_true rfl) (Nat.le_of_ble_eq_true rfl) (k_X11_machineOf hX v1 σ hp1) dX11_pointer_2 rfl rfl ?_
    refine g_astore (pc := 5) [(4, .ref (am_ad X 3 a2)), (0, .ref (am_ad X 11 0)), (1, .int v1), (2, .int v2), (3, .int v3)] dX11_pointer_5 (Nat.le_of_ble_eq_true rfl) rfl ?_
    refine g_aload (pc := 7) 0 rfl dX11_pointer_7 ?_
    refine g_ifnonnull (pc := 9) 18 dX11_pointer_9 rfl ?_
    refine g_iload_n (pc := 18) 3 rfl dX11_pointer_18 rfl ?_
    refine g_iload_n (pc := 19) 4 rfl dX11_pointer_19 rfl ?_
    refine g_sipush (pc := 20) (v := 2001) dX11_pointer_20 (by decide) ?_
    obtain ⟨p4, hp4, hf⟩ := am_bd hf
    refine g_cS (pc := 23) (As := [.int v2, .int v3, .int 2001]) (st := []) (st1 := [.int (am_b p4)]) mS_X11_isSpan ln_X11_236 rfl (Nat.le_of_ble_eq_true rfl) (Nat.le_of_ble_eq_true rfl) (k_X11_isSpan hX v2 v3 2001 σ hp4) dX11_pointer_23 rfl rfl ?_
    refine bt_ne (pc := 26) 35 dX11_pointer_26 rfl (fun c5 => ?_) (fun c5 => ?_)
    · replace hf := am_ifT c5 hf
      refine g_aload_n (pc := 35) 1 rfl dX11_pointer_35 rfl ?_
      refine g_aload (pc := 36) 0 rfl dX11_pointer_36 ?_
      refine g_iload_n (pc := 38) 3 rfl dX11_pointer_38 rfl ?_
      refine g_iload_n (pc := 39) 4 rfl dX11_pointer_39 rfl ?_
      obtain ⟨p6, hp6, hf⟩ := am_bd hf
      refine g_cV (pc := 40) (As := [.int v2, .int v3]) (st := [.ref (am_ad X 11 0)]) (st1 := [.int p6, .ref (am_ad X 11 0)]) (in_3 hX.1 (by omega)) kk_3 mV_X3_pointerAt ln_X11_239 rfl (Nat.le_of_ble_eq_true rfl) (Nat.le_of_ble_eq_true rfl) (k_X3_pointerAt hX a2 v2 v3 (by omega) σ hp6) dX11_pointer_40 rfl rfl ?_
      obtain ⟨p7, hp7, hf⟩ := am_bd hf
      refine g_cV (pc := 43) (As := [.int p6]) (st := []) (st1 := [.int p7.1]) (in_11 hX.1 (by omega)) kk_11 mV_X11_answer ln_X11_176 rfl (Nat.le_of_ble_eq_true rfl) (Nat.le_of_ble_eq_true rfl) (k_X11_answer hX p6 σ hp7) dX11_pointer_43 rfl rfl ?_
      have ho := Option.some.inj hf
      subst ho
      exact g_ireturn (pc := 46) (st := []) rfl dX11_pointer_46 hk
    replace hf := am_ifF c5 hf
    refine g_aload_n (pc := 29) 1 rfl dX11_pointer_29 rfl ?_
    refine g_iconst (pc := 30) (v := 5) dX11_pointer_30 (by decide) ?_
    obtain ⟨p8, hp8, hf⟩ := am_bd hf
    refine g_cV (pc := 31) (As := [.int 5]) (st := []) (st1 := [.int p8.1]) (in_11 hX.1 (by omega)) kk_11 mV_X11_none ln_X11_124 rfl (Nat.le_of_ble_eq_true rfl) (Nat.le_of_ble_eq_true rfl) (k_X11_none hX 5 σ hp8) dX11_pointer_31 rfl rfl ?_
    have ho := Option.some.inj hf
    subst ho
    exact g_ireturn (pc := 34) (st := []) rfl dX11_pointer_34 hk
theorem k_X11_pointer {X : am_X} (hX : am_wC X) (v1 : Int32) (v2 : Int32) (v3 : Int32) (σ : am_H) {o : Int32 × am_H} (hf : f_X11_pointer v1 v2 v3 σ = some o) : am_C X gm_X11_pointer [.ref (am_ad X 11 0), .int v1, .int v2, .int v3] σ (am_is (some (.int o.1)) o.2) :=
  am_ofG rfl (Nat.le_of_ble_eq_true rfl) rfl (q_X11_pointer hX v1 v2 v3 σ hf ⟨rfl, rfl⟩)
theorem dX11_commonDivisor_0 : decode cX11_commonDivisor 0 = .ok (.iconst 0, 1) := by decide +kernel
theorem dX11_commonDivisor_1 : decode cX11_commonDivisor 1 = .ok (.istore 4, 2) := by decide +kernel
theorem dX11_commonDivisor_3 : decode cX11_commonDivisor 3 = .ok (.iload 4, 2) := by decide +kernel
theorem dX11_commonDivisor_5 : decode cX11_commonDivisor 5 = .ok (.sipush 200, 3) := by decide +kernel
theorem dX11_commonDivisor_8 : decode cX11_commonDivisor 8 = .ok (.if_icmp .ge 25, 3) := by decide +kernel
theorem dX11_commonDivisor_11 : decode cX11_commonDivisor 11 = .ok (.lload_n 2, 1) := by decide +kernel
theorem dX11_commonDivisor_12 : decode cX11_commonDivisor 12 = .ok (.lconst 0, 1) := by decide +kernel
theorem dX11_commonDivisor_13 : decode cX11_commonDivisor 13 = .ok (.lcmp, 1) := by decide +kernel
theorem dX11_commonDivisor_14 : decode cX11_commonDivisor 14 = .ok (.ifCond .eq 19, 3) := by decide +kernel
theorem dX11_commonDivisor_17 : decode cX11_commonDivisor 17 = .ok (.lload_n 0, 1) := by decide +kernel
theorem dX11_commonDivisor_18 : decode cX11_commonDivisor 18 = .ok (.lload_n 2, 1) := by decide +kernel
theorem dX11_commonDivisor_19 : decode cX11_commonDivisor 19 = .ok (.lrem, 1) := by decide +kernel
theorem dX11_commonDivisor_20 : decode cX11_commonDivisor 20 = .ok (.lstore 5, 2) := by decide +kernel
theorem dX11_commonDivisor_22 : decode cX11_commonDivisor 22 = .ok (.lload_n 2, 1) := by decide +kernel
theorem dX11_commonDivisor_23 : decode cX11_commonDivisor 23 = .ok (.lstore_n 0, 1) := by decide +kernel
theorem dX11_commonDivisor_24 : decode cX11_commonDivisor 24 = .ok (.lload 5, 2) := by decide +kernel
theorem dX11_commonDivisor_26 : decode cX11_commonDivisor 26 = .ok (.lstore_n 2, 1) := by decide +kernel
theorem dX11_commonDivisor_27 : decode cX11_commonDivisor 27 = .ok (.iinc 4 1, 3) := by decide +kernel
theorem dX11_commonDivisor_30 : decode cX11_commonDivisor 30 = .ok (.goto (-27), 3) := by decide +kernel
theorem dX11_commonDivisor_33 : decode cX11_commonDivisor 33 = .ok (.lload_n 0, 1) := by decide +kernel
theorem dX11_commonDivisor_34 : decode cX11_commonDivisor 34 = .ok (.lreturn, 1) := by decide +kernel
noncomputable def f_X11_commonDivisor_3 (v0 : Int64) (v2 : Int64) (v4 : Int32) (σ : am_H) : Option ((Int64 × Int64 × Int32) ⊕ (Int64)) :=
  if v4 < 200 then
   (if v2 = 0 then
    (some (.inr v0))
   else
   if v2 = 0 then none else
   some (.inl (v2, (am_lR v0 v2), (v4 + 1))))
  else
  some (.inr v0)
set_option maxRecDepth 100000 in
set_option maxHeartbeats 4000000 in
theorem q_X11_commonDivisor_3 {X : am_X} (hX : am_wC X) {Q : Option Value → am_H → Prop} (v0 : Int64) (v2 : Int64) (v4 : Int32) (σ : am_H) {o : (Int64 × Int64 × Int32) ⊕ (Int64)} (hf : f_X11_commonDivisor_3 v0 v2 v4 σ = some o) (hk0 : ∀ s, o = .inl s → am_G X gm_X11_commonDivisor Q 3 [(0, .long s.1), (2, .long s.2.1), (4, .int s.2.2)] [] σ) (hk1 : ∀ t, o = .inr t → am_G X gm_X11_commonDivisor Q 33 [(0, .long t)] [] σ) : am_G X gm_X11_commonDivisor Q 3 [(0, .long v0), (2, .long v2), (4, .int v4)] [] σ := by
  unfold f_X11_commonDivisor_3 at hf
  refine g_iload (pc := 3) 2 rfl dX11_commonDivisor_3 ?_
  refine g_sipush (pc := 5) (v := 200) dX11_commonDivisor_5 (by decide) ?_
  refine bi_ge (pc := 8) 33 dX11_commonDivisor_8 rfl (fun c1 => ?_) (fun c1 => ?_)
  · replace hf := am_ifT c1 hf
    refine g_lload_n (pc := 11) 1 rfl dX11_commonDivisor_11 rfl ?_
    refine g_lconst (pc := 12) (v := 0) dX11_commonDivisor_12 (by decide) ?_
    refine g_lcm (pc := 13) dX11_commonDivisor_13 ?_
    refine bl_eq (pc := 14) 33 dX11_commonDivisor_14 rfl (fun c2 => ?_) (fun c2 => ?_)
    · replace hf := am_ifT c2 hf
      have hz := hk1 _ (Option.some.inj hf).symm
      exact am_sub [0] rfl hz
    replace hf := am_ifF c2 hf
    refine g_lload_n (pc := 17) 0 rfl dX11_commonDivisor_17 rfl ?_
    refine g_lload_n (pc := 18) 1 rfl dX11_commonDivisor_18 rfl ?_
    by_cases z3 : v2 = 0
    · exact absurd (am_ifT z3 hf) (by simp)
    replace hf := am_ifF z3 hf
    refine g_lrem (pc := 19) dX11_commonDivisor_19 z3 ?_
    refine g_lstore (pc := 20) [(5, .long (am_lR v0 v2)), (0, .long v0), (2, .long v2), (4, .int v4)] dX11_commonDivisor_20 (Nat.le_of_ble_eq_true rfl) rfl ?_
    refine g_lload_n (pc := 22) 2 rfl dX11_commonDivisor_22 rfl ?_
    refine g_lstore_n (pc := 23) [(0, .long v2), (5, .long (am_lR v0 v2)), (2, .long v2), (4, .int v4)] dX11_commonDivisor_23 rfl (Nat.le_of_ble_eq_true rfl) rfl ?_
    refine g_lload (pc := 24) 1 rfl dX11_commonDivisor_24 ?_
    refine g_lstore_n (pc := 26) [(2, .long (am_lR v0 v2)), (0, .long v2), (5, .long (am_lR v0 v2)), (4, .int v4)] dX11_commonDivisor_26 rfl (Nat.le_of_ble_eq_true rfl) rfl ?_
    refine g_iinc (pc := 27) (v := (v4 + 1)) 3 [(4, .int (v4 + 1)), (2, .long (am_lR v0 v2)), (0, .long v2), (5, .long (am_lR v0 v2))] dX11_commonDivisor_27 rfl rfl (Nat.le_of_ble_eq_true rfl) rfl ?_
    refine g_goto (pc := 30) 3 dX11_commonDivisor_30 rfl ?_
    have hz := hk0 _ (Option.some.inj hf).symm
    exact am_sub [2, 1, 0] rfl hz
  replace hf := am_ifF c1 hf
  have hz := hk1 _ (Option.some.inj hf).symm
  exact am_sub [0] rfl hz
set_option maxRecDepth 100000 in
set_option maxHeartbeats 4000000 in
theorem l_X11_commonDivisor_3 {X : am_X} (hX : am_wC X) {Q : Option Value → am_H → Prop} (σ : am_H) (s : Int64 × Int64 × Int32) {o : Int64} (hf : am_loop (fun s => f_X11_commonDivisor_3 s.1 s.2.1 s.2.2 σ) s = some o) (hk1 : ∀ t, o = t → am_G X gm_X11_commonDivisor Q 33 [(0, .long t)] [] σ) : am_G X gm_X11_commonDivisor Q 3 [(0, .long s.1), (2, .long s.2.1), (4, .int s.2.2)] [] σ := by
  refine am_loop_ind (P := fun s => am_G X gm_X11_commonDivisor Q 3 [(0, .long s.1), (2, .long s.2.1), (4, .int s.2.2)] [] σ) (K := fun r => r = o) ?_ hf rfl
  intro s o1 hb hi hr
  exact q_X11_commonDivisor_3 hX s.1 s.2.1 s.2.2  σ hb hi (fun t e => hk1 t (hr _ e).symm)
noncomputable def f_X11_commonDivisor (v0 : Int64) (v2 : Int64) (σ : am_H) : Option (Int64) :=
  (am_loop (fun s => f_X11_commonDivisor_3 s.1 s.2.1 s.2.2 σ) (v0, v2, 0)).bind fun w1 =>
  some w1
set_option maxRecDepth 100000 in
set_option maxHeartbeats 4000000 in
theorem q_X11_commonDivisor {X : am_X} (hX : am_wC X) {Q : Option Value → am_H → Prop} (v0 : Int64) (v2 : Int64) (σ : am_H) {o : Int64} (hf : f_X11_commonDivisor v0 v2 σ = some o) (hk : Q (some (.long o)) σ) : am_G X gm_X11_commonDivisor Q 0 [(0, .long v0), (2, .long v2)] [] σ := by
  unfold f_X11_commonDivisor at hf
  refine g_iconst (pc := 0) (v := 0) dX11_commonDivisor_0 (by decide) ?_
  refine g_istore (pc := 1) [(4, .int 0), (0, .long v0), (2, .long v2)] dX11_commonDivisor_1 (Nat.le_of_ble_eq_true rfl) rfl ?_
  obtain ⟨w1, hw1, hf⟩ := am_bd hf
  refine am_sub [1, 2, 0] rfl (l_X11_commonDivisor_3 hX  σ (v0, v2, 0) hw1 ?_)
  intro t e
  subst e
  refine g_lload_n (pc := 33) 0 rfl dX11_commonDivisor_33 rfl ?_
  have ho := Option.some.inj hf
  subst ho
  exact g_lreturn (pc := 34) (st := []) rfl dX11_commonDivisor_34 hk
theorem k_X11_commonDivisor {X : am_X} (hX : am_wC X) (v0 : Int64) (v2 : Int64) (σ : am_H) {o : Int64} (hf : f_X11_commonDivisor v0 v2 σ = some o) : am_C X gm_X11_commonDivisor [.long v0, .long v2] σ (am_is (some (.long o)) σ) :=
  am_ofG rfl (Nat.le_of_ble_eq_true rfl) rfl (q_X11_commonDivisor hX v0 v2 σ hf ⟨rfl, rfl⟩)
theorem dX11_tellFraction_0 : decode cX11_tellFraction 0 = .ok (.lload_n 1, 1) := by decide +kernel
theorem dX11_tellFraction_1 : decode cX11_tellFraction 1 = .ok (.invokestatic 503, 3) := by decide +kernel
theorem dX11_tellFraction_4 : decode cX11_tellFraction 4 = .ok (.lload_n 3, 1) := by decide +kernel
theorem dX11_tellFraction_5 : decode cX11_tellFraction 5 = .ok (.invokestatic 505, 3) := by decide +kernel
theorem dX11_tellFraction_8 : decode cX11_tellFraction 8 = .ok (.lstore 5, 2) := by decide +kernel
theorem dX11_tellFraction_10 : decode cX11_tellFraction 10 = .ok (.lload 5, 2) := by decide +kernel
theorem dX11_tellFraction_12 : decode cX11_tellFraction 12 = .ok (.lconst 0, 1) := by decide +kernel
theorem dX11_tellFraction_13 : decode cX11_tellFraction 13 = .ok (.lcmp, 1) := by decide +kernel
theorem dX11_tellFraction_14 : decode cX11_tellFraction 14 = .ok (.ifCond .gt 4, 3) := by decide +kernel
theorem dX11_tellFraction_17 : decode cX11_tellFraction 17 = .ok (.return_, 1) := by decide +kernel
theorem dX11_tellFraction_18 : decode cX11_tellFraction 18 = .ok (.aload_n 0, 1) := by decide +kernel
theorem dX11_tellFraction_19 : decode cX11_tellFraction 19 = .ok (.lload_n 1, 1) := by decide +kernel
theorem dX11_tellFraction_20 : decode cX11_tellFraction 20 = .ok (.lload 5, 2) := by decide +kernel
theorem dX11_tellFraction_22 : decode cX11_tellFraction 22 = .ok (.ldiv, 1) := by decide +kernel
theorem dX11_tellFraction_23 : decode cX11_tellFraction 23 = .ok (.putfield 13, 3) := by decide +kernel
theorem dX11_tellFraction_26 : decode cX11_tellFraction 26 = .ok (.aload_n 0, 1) := by decide +kernel
theorem dX11_tellFraction_27 : decode cX11_tellFraction 27 = .ok (.lload_n 3, 1) := by decide +kernel
theorem dX11_tellFraction_28 : decode cX11_tellFraction 28 = .ok (.lload 5, 2) := by decide +kernel
theorem dX11_tellFraction_30 : decode cX11_tellFraction 30 = .ok (.ldiv, 1) := by decide +kernel
theorem dX11_tellFraction_31 : decode cX11_tellFraction 31 = .ok (.putfield 17, 3) := by decide +kernel
theorem dX11_tellFraction_34 : decode cX11_tellFraction 34 = .ok (.return_, 1) := by decide +kernel
noncomputable def f_X11_tellFraction (v1 : Int64) (v3 : Int64) (σ : am_H) : Option (am_H) :=
  (f_X11_commonDivisor (am_abL v1) v3 σ).bind fun p1 =>
  if 0 < p1 then
   (if p1 = 0 then none else
   (some (am_wL σ 11 0 1 (v1 / p1))).bind fun s4 =>
   if p1 = 0 then none else
   (some (am_wL s4 11 0 2 (v3 / p1))).bind fun s6 =>
   some s6)
  else
  some σ
set_option maxRecDepth 100000 in
set_option maxHeartbeats 4000000 in
theorem q_X11_tellFraction {X : am_X} (hX : am_wC X) {Q : Option Value → am_H → Prop} (v1 : Int64) (v3 : Int64) (σ : am_H) {o : am_H} (hf : f_X11_tellFraction v1 v3 σ = some o) (hk : Q none o) : am_G X gm_X11_tellFraction Q 0 [(0, .ref (am_ad X 11 0)), (1, .long v1), (3, .long v3)] [] σ := by
  unfold f_X11_tellFraction at hf
  refine g_lload_n (pc := 0) 1 rfl dX11_tellFraction_0 rfl ?_
  refine g_mabsL (pc := 1) (Nat.le_of_ble_eq_true rfl) (Nat.le_of_ble_eq_true rfl) sp_X11_503 dX11_tellFraction_1 ?_
  refine g_lload_n (pc := 4) 2 rfl dX11_tellFraction_4 rfl ?_
  obtain ⟨p1, hp1, hf⟩ := am_bd hf
  refine g_cS (pc := 5) (As := [.long (am_abL v1), .long v3]) (st := []) (st1 := [.long p1]) mS_X11_commonDivisor ln_X11_505 rfl (Nat.le_of_ble_eq_true rfl) (Nat.le_of_ble_eq_true rfl) (k_X11_commonDivisor hX (am_abL v1) v3 σ hp1) dX11_tellFraction_5 rfl rfl ?_
  refine g_lstore (pc := 8) [(5, .long p1), (0, .ref (am_ad X 11 0)), (1, .long v1), (3, .long v3)] dX11_tellFraction_8 (Nat.le_of_ble_eq_true rfl) rfl ?_
  refine g_lload (pc := 10) 0 rfl dX11_tellFraction_10 ?_
  refine g_lconst (pc := 12) (v := 0) dX11_tellFraction_12 (by decide) ?_
  refine g_lcm (pc := 13) dX11_tellFraction_13 ?_
  refine bl_gt (pc := 14) 18 dX11_tellFraction_14 rfl (fun c2 => ?_) (fun c2 => ?_)
  · replace hf := am_ifT c2 hf
    refine g_aload_n (pc := 18) 1 rfl dX11_tellFraction_18 rfl ?_
    refine g_lload_n (pc := 19) 2 rfl dX11_tellFraction_19 rfl ?_
    refine g_lload (pc := 20) 0 rfl dX11_tellFraction_20 ?_
    by_cases z3 : p1 = 0
    · exact absurd (am_ifT z3 hf) (by simp)
    replace hf := am_ifF z3 hf
    refine g_ldiv (pc := 22) dX11_tellFraction_22 z3 ?_
    obtain ⟨s4, hs4, hf⟩ := am_bd hf
    refine g_setJ (pc := 23) (in_11 hX.1 (by omega)) fr_X11_13 dX11_tellFraction_23 (Option.some.inj hs4) ?_
    refine g_aload_n (pc := 26) 1 rfl dX11_tellFraction_26 rfl ?_
    refine g_lload_n (pc := 27) 3 rfl dX11_tellFraction_27 rfl ?_
    refine g_lload (pc := 28) 0 rfl dX11_tellFraction_28 ?_
    by_cases z5 : p1 = 0
    · exact absurd (am_ifT z5 hf) (by simp)
    replace hf := am_ifF z5 hf
    refine g_ldiv (pc := 30) dX11_tellFraction_30 z5 ?_
    obtain ⟨s6, hs6, hf⟩ := am_bd hf
    refine g_setJ (pc := 31) (in_11 hX.1 (by omega)) fr_X11_17 dX11_tellFraction_31 (Option.some.inj hs6) ?_
    have ho := Option.some.inj hf
    subst ho
    exact g_vreturn (pc := 34) (st := []) rfl dX11_tellFraction_34 hk
  replace hf := am_ifF c2 hf
  have ho := Option.some.inj hf
  subst ho
  exact g_vreturn (pc := 17) (st := []) rfl dX11_tellFraction_17 hk
theorem k_X11_tellFraction {X : am_X} (hX : am_wC X) (v1 : Int64) (v3 : Int64) (σ : am_H) {o : am_H} (hf : f_X11_tellFraction v1 v3 σ = some o) : am_C X gm_X11_tellFraction [.ref (am_ad X 11 0), .long v1, .long v3] σ (am_is none o) :=
  am_ofG rfl (Nat.le_of_ble_eq_true rfl) rfl (q_X11_tellFraction hX v1 v3 σ hf ⟨rfl, rfl⟩)
theorem dX11_off_0 : decode cX11_off 0 = .ok (.aload_n 0, 1) := by decide +kernel
theorem dX11_off_1 : decode cX11_off 1 = .ok (.iload_n 1, 1) := by decide +kernel
theorem dX11_off_2 : decode cX11_off 2 = .ok (.iload_n 2, 1) := by decide +kernel
theorem dX11_off_3 : decode cX11_off 3 = .ok (.invokevirtual 199, 3) := by decide +kernel
theorem dX11_off_6 : decode cX11_off 6 = .ok (.astore 4, 2) := by decide +kernel
theorem dX11_off_8 : decode cX11_off 8 = .ok (.aload 4, 2) := by decide +kernel
theorem dX11_off_10 : decode cX11_off 10 = .ok (.ifnonnull 9, 3) := by decide +kernel
theorem dX11_off_13 : decode cX11_off 13 = .ok (.aload_n 0, 1) := by decide +kernel
theorem dX11_off_14 : decode cX11_off 14 = .ok (.iconst 2, 1) := by decide +kernel
theorem dX11_off_15 : decode cX11_off 15 = .ok (.invokevirtual 104, 3) := by decide +kernel
theorem dX11_off_18 : decode cX11_off 18 = .ok (.ireturn, 1) := by decide +kernel
theorem dX11_off_19 : decode cX11_off 19 = .ok (.iload_n 3, 1) := by decide +kernel
theorem dX11_off_20 : decode cX11_off 20 = .ok (.invokestatic 226, 3) := by decide +kernel
theorem dX11_off_23 : decode cX11_off 23 = .ok (.ifCond .ne 9, 3) := by decide +kernel
theorem dX11_off_26 : decode cX11_off 26 = .ok (.aload_n 0, 1) := by decide +kernel
theorem dX11_off_27 : decode cX11_off 27 = .ok (.iconst 5, 1) := by decide +kernel
theorem dX11_off_28 : decode cX11_off 28 = .ok (.invokevirtual 104, 3) := by decide +kernel
theorem dX11_off_31 : decode cX11_off 31 = .ok (.ireturn, 1) := by decide +kernel
theorem dX11_off_32 : decode cX11_off 32 = .ok (.aload 4, 2) := by decide +kernel
theorem dX11_off_34 : decode cX11_off 34 = .ok (.invokevirtual 216, 3) := by decide +kernel
theorem dX11_off_37 : decode cX11_off 37 = .ok (.ifCond .ne 10, 3) := by decide +kernel
theorem dX11_off_40 : decode cX11_off 40 = .ok (.aload_n 0, 1) := by decide +kernel
theorem dX11_off_41 : decode cX11_off 41 = .ok (.bipush 8, 2) := by decide +kernel
theorem dX11_off_43 : decode cX11_off 43 = .ok (.invokevirtual 104, 3) := by decide +kernel
theorem dX11_off_46 : decode cX11_off 46 = .ok (.ireturn, 1) := by decide +kernel
theorem dX11_off_47 : decode cX11_off 47 = .ok (.aload_n 0, 1) := by decide +kernel
theorem dX11_off_48 : decode cX11_off 48 = .ok (.aload 4, 2) := by decide +kernel
theorem dX11_off_50 : decode cX11_off 50 = .ok (.aload 4, 2) := by decide +kernel
theorem dX11_off_52 : decode cX11_off 52 = .ok (.getfield 242, 3) := by decide +kernel
theorem dX11_off_55 : decode cX11_off 55 = .ok (.aload 4, 2) := by decide +kernel
theorem dX11_off_57 : decode cX11_off 57 = .ok (.getfield 245, 3) := by decide +kernel
theorem dX11_off_60 : decode cX11_off 60 = .ok (.iload_n 3, 1) := by decide +kernel
theorem dX11_off_61 : decode cX11_off 61 = .ok (.invokevirtual 248, 3) := by decide +kernel
theorem dX11_off_64 : decode cX11_off 64 = .ok (.aload 4, 2) := by decide +kernel
theorem dX11_off_66 : decode cX11_off 66 = .ok (.aload 4, 2) := by decide +kernel
theorem dX11_off_68 : decode cX11_off 68 = .ok (.getfield 245, 3) := by decide +kernel
theorem dX11_off_71 : decode cX11_off 71 = .ok (.invokevirtual 252, 3) := by decide +kernel
theorem dX11_off_74 : decode cX11_off 74 = .ok (.invokevirtual 256, 3) := by decide +kernel
theorem dX11_off_77 : decode cX11_off 77 = .ok (.aload_n 0, 1) := by decide +kernel
theorem dX11_off_78 : decode cX11_off 78 = .ok (.invokevirtual 112, 3) := by decide +kernel
theorem dX11_off_81 : decode cX11_off 81 = .ok (.ireturn, 1) := by decide +kernel
noncomputable def f_X11_off (v1 : Int32) (v2 : Int32) (v3 : Int32) (σ : am_H) : Option (Bool × am_H) :=
  (f_X11_waveOf v1 v2 σ).bind fun p1 =>
  am_nn 18 p1
   ((f_X11_no 2 σ).bind fun p3 =>
   some (p3.1, p3.2))
   (fun a2 =>
   (f_X11_isHour v3 σ).bind fun p4 =>
   if p4 = true then
    ((f_X10_hasTrain a2 σ).bind fun p6 =>
    if p6 = true then
     ((f_X10_offTop a2 (σ.2.1 10 a2 7) (σ.2.1 10 a2 8) v3 σ).bind fun p8 =>
     (f_X10_offBottom a2 (σ.2.1 10 a2 8) σ).bind fun p9 =>
     (f_X11_tellFraction p8 p9 σ).bind fun p10 =>
     (f_X11_yes p10).bind fun p11 =>
     some (p11.1, p11.2))
    else
    (f_X11_no 8 σ).bind fun p12 =>
    some (p12.1, p12.2))
   else
   (f_X11_no 5 σ).bind fun p13 =>
   some (p13.1, p13.2))
set_option maxRecDepth 100000 in
set_option maxHeartbeats 4000000 in
theorem q_X11_off {X : am_X} (hX : am_wC X) {Q : Option Value → am_H → Prop} (v1 : Int32) (v2 : Int32) (v3 : Int32) (σ : am_H) {o : Bool × am_H} (hf : f_X11_off v1 v2 v3 σ = some o) (hk : Q (some (.int (am_b o.1))) o.2) : am_G X gm_X11_off Q 0 [(0, .ref (am_ad X 11 0)), (1, .int v1), (2, .int v2), (3, .int v3)] [] σ := by
  unfold f_X11_off at hf
  refine g_aload_n (pc := 0) 0 rfl dX11_off_0 rfl ?_
  refine g_iload_n (pc := 1) 1 rfl dX11_off_1 rfl ?_
  refine g_iload_n (pc := 2) 2 rfl dX11_off_2 rfl ?_
  obtain ⟨p1, hp1, hf⟩ := am_bd hf
  have hq := am_nn_c hf
  clear hf
  rcases hq with ⟨ep1, hf⟩ | ⟨a2, ep1, ga2, hf⟩
  · subst ep1
    refine g_cV (pc := 3) (As := [.int v1, .int v2]) (st := []) (st1 := [.null]) (in_11 hX.1 (by omega)) kk_11 mV_X11_waveOf ln_X11_199 rfl (Nat.le_of_ble_eq_true rfl) (Nat.le_of_ble_eq_true rfl) (k_X11_waveOf hX v1 v2 σ hp1) dX11_off_3 rfl rfl ?_
    refine g_astoreN (pc := 6) [(4, .null), (0, .ref (am_ad X 11 0)), (1, .int v1), (2, .int v2), (3, .int v3)] dX11_off_6 (Nat.le_of_ble_eq_true rfl) rfl ?_
    refine g_aloadN (pc := 8) 0 rfl dX11_off_8 ?_
    refine g_ifnonnullN (pc := 10) dX11_off_10 ?_
    refine g_aload_n (pc := 13) 1 rfl dX11_off_13 rfl ?_
    refine g_iconst (pc := 14) (v := 2) dX11_off_14 (by decide) ?_
    obtain ⟨p3, hp3, hf⟩ := am_bd hf
    refine g_cV (pc := 15) (As := [.int 2]) (st := []) (st1 := [.int (am_b p3.1)]) (in_11 hX.1 (by omega)) kk_11 mV_X11_no ln_X11_104 rfl (Nat.le_of_ble_eq_true rfl) (Nat.le_of_ble_eq_true rfl) (k_X11_no hX 2 σ hp3) dX11_off_15 rfl rfl ?_
    have ho := Option.some.inj hf
    subst ho
    exact g_zreturn (pc := 18) (st := []) (x := p3.1) rfl dX11_off_18 hk
  · subst ep1
    refine g_cV (pc := 3) (As := [.int v1, .int v2]) (st := []) (st1 := [.ref (am_ad X 10 a2)]) (in_11 hX.1 (by omega)) kk_11 mV_X11_waveOf ln_X11_199 rfl (Nat.le_of_ble_eq_true rfl) (Nat.le_of_ble_eq_true rfl) (k_X11_waveOf hX v1 v2 σ hp1) dX11_off_3 rfl rfl ?_
    refine g_astore (pc := 6) [(4, .ref (am_ad X 10 a2)), (0, .ref (am_ad X 11 0)), (1, .int v1), (2, .int v2), (3, .int v3)] dX11_off_6 (Nat.le_of_ble_eq_true rfl) rfl ?_
    refine g_aload (pc := 8) 0 rfl dX11_off_8 ?_
    refine g_ifnonnull (pc := 10) 19 dX11_off_10 rfl ?_
    refine g_iload_n (pc := 19) 4 rfl dX11_off_19 rfl ?_
    obtain ⟨p4, hp4, hf⟩ := am_bd hf
    refine g_cS (pc := 20) (As := [.int v3]) (st := []) (st1 := [.int (am_b p4)]) mS_X11_isHour ln_X11_226 rfl (Nat.le_of_ble_eq_true rfl) (Nat.le_of_ble_eq_true rfl) (k_X11_isHour hX v3 σ hp4) dX11_off_20 rfl rfl ?_
    refine bt_ne (pc := 23) 32 dX11_off_23 rfl (fun c5 => ?_) (fun c5 => ?_)
    · replace hf := am_ifT c5 hf
      refine g_aload (pc := 32) 0 rfl dX11_off_32 ?_
      obtain ⟨p6, hp6, hf⟩ := am_bd hf
      refine g_cV (pc := 34) (As := []) (st := []) (st1 := [.int (am_b p6)]) (in_10 hX.1 (by omega)) kk_10 mV_X10_hasTrain ln_X11_216 rfl (Nat.le_of_ble_eq_true rfl) (Nat.le_of_ble_eq_true rfl) (k_X10_hasTrain hX a2 (by omega) σ hp6) dX11_off_34 rfl rfl ?_
      refine bt_ne (pc := 37) 47 dX11_off_37 rfl (fun c7 => ?_) (fun c7 => ?_)
      · replace hf := am_ifT c7 hf
        refine g_aload_n (pc := 47) 1 rfl dX11_off_47 rfl ?_
        refine g_aload (pc := 48) 0 rfl dX11_off_48 ?_
        refine g_aload (pc := 50) 0 rfl dX11_off_50 ?_
        refine g_getJ (pc := 52) (in_10 hX.1 (by omega)) fr_X11_242 dX11_off_52 ?_
        refine g_aload (pc := 55) 0 rfl dX11_off_55 ?_
        refine g_getJ (pc := 57) (in_10 hX.1 (by omega)) fr_X11_245 dX11_off_57 ?_
        refine g_iload_n (pc := 60) 4 rfl dX11_off_60 rfl ?_
        obtain ⟨p8, hp8, hf⟩ := am_bd hf
        refine g_cV (pc := 61) (As := [.long (σ.2.1 10 a2 7), .long (σ.2.1 10 a2 8), .int v3]) (st := [.ref (am_ad X 11 0)]) (st1 := [.long p8, .ref (am_ad X 11 0)]) (in_10 hX.1 (by omega)) kk_10 mV_X10_offTop ln_X11_248 rfl (Nat.le_of_ble_eq_true rfl) (Nat.le_of_ble_eq_true rfl) (k_X10_offTop hX a2 (σ.2.1 10 a2 7) (σ.2.1 10 a2 8) v3 (by omega) σ hp8) dX11_off_61 rfl rfl ?_
        refine g_aload (pc := 64) 0 rfl dX11_off_64 ?_
        refine g_aload (pc := 66) 0 rfl dX11_off_66 ?_
        refine g_getJ (pc := 68) (in_10 hX.1 (by omega)) fr_X11_245 dX11_off_68 ?_
        obtain ⟨p9, hp9, hf⟩ := am_bd hf
        refine g_cV (pc := 71) (As := [.long (σ.2.1 10 a2 8)]) (st := [.long p8, .ref (am_ad X 11 0)]) (st1 := [.long p9, .long p8, .ref (am_ad X 11 0)]) (in_10 hX.1 (by omega)) kk_10 mV_X10_offBottom ln_X11_252 rfl (Nat.le_of_ble_eq_true rfl) (Nat.le_of_ble_eq_true rfl) (k_X10_offBottom hX a2 (σ.2.1 10 a2 8) (by omega) σ hp9) dX11_off_71 rfl rfl ?_
        obtain ⟨p10, hp10, hf⟩ := am_bd hf
        refine g_cV (pc := 74) (As := [.long p8, .long p9]) (st := []) (st1 := []) (in_11 hX.1 (by omega)) kk_11 mV_X11_tellFraction ln_X11_256 rfl (Nat.le_of_ble_eq_true rfl) (Nat.le_of_ble_eq_true rfl) (k_X11_tellFraction hX p8 p9 σ hp10) dX11_off_74 rfl rfl ?_
        refine g_aload_n (pc := 77) 1 rfl dX11_off_77 rfl ?_
        obtain ⟨p11, hp11, hf⟩ := am_bd hf
        refine g_cV (pc := 78) (As := []) (st := []) (st1 := [.int (am_b p11.1)]) (in_11 hX.1 (by omega)) kk_11 mV_X11_yes ln_X11_112 rfl (Nat.le_of_ble_eq_true rfl) (Nat.le_of_ble_eq_true rfl) (k_X11_yes hX p10 hp11) dX11_off_78 rfl rfl ?_
        have ho := Option.some.inj hf
        subst ho
        exact g_zreturn (pc := 81) (st := []) (x := p11.1) rfl dX11_off_81 hk
      replace hf := am_ifF c7 hf
      refine g_aload_n (pc := 40) 1 rfl dX11_off_40 rfl ?_
      refine g_bipush (pc := 41) (v := 8) dX11_off_41 (by decide) ?_
      obtain ⟨p12, hp12, hf⟩ := am_bd hf
      refine g_cV (pc := 43) (As := [.int 8]) (st := []) (st1 := [.int (am_b p12.1)]) (in_11 hX.1 (by omega)) kk_11 mV_X11_no ln_X11_104 rfl (Nat.le_of_ble_eq_true rfl) (Nat.le_of_ble_eq_true rfl) (k_X11_no hX 8 σ hp12) dX11_off_43 rfl rfl ?_
      have ho := Option.some.inj hf
      subst ho
      exact g_zreturn (pc := 46) (st := []) (x := p12.1) rfl dX11_off_46 hk
    replace hf := am_ifF c5 hf
    refine g_aload_n (pc := 26) 1 rfl dX11_off_26 rfl ?_
    refine g_iconst (pc := 27) (v := 5) dX11_off_27 (by decide) ?_
    obtain ⟨p13, hp13, hf⟩ := am_bd hf
    refine g_cV (pc := 28) (As := [.int 5]) (st := []) (st1 := [.int (am_b p13.1)]) (in_11 hX.1 (by omega)) kk_11 mV_X11_no ln_X11_104 rfl (Nat.le_of_ble_eq_true rfl) (Nat.le_of_ble_eq_true rfl) (k_X11_no hX 5 σ hp13) dX11_off_28 rfl rfl ?_
    have ho := Option.some.inj hf
    subst ho
    exact g_zreturn (pc := 31) (st := []) (x := p13.1) rfl dX11_off_31 hk
theorem k_X11_off {X : am_X} (hX : am_wC X) (v1 : Int32) (v2 : Int32) (v3 : Int32) (σ : am_H) {o : Bool × am_H} (hf : f_X11_off v1 v2 v3 σ = some o) : am_C X gm_X11_off [.ref (am_ad X 11 0), .int v1, .int v2, .int v3] σ (am_is (some (.int (am_b o.1))) o.2) :=
  am_ofG rfl (Nat.le_of_ble_eq_true rfl) rfl (q_X11_off hX v1 v2 v3 σ hf ⟨rfl, rfl⟩)
theorem dX11_train_0 : decode cX11_train 0 = .ok (.aload_n 0, 1) := by decide +kernel
theorem dX11_train_1 : decode cX11_train 1 = .ok (.iload_n 1, 1) := by decide +kernel
theorem dX11_train_2 : decode cX11_train 2 = .ok (.invokevirtual 159, 3) := by decide +kernel
theorem dX11_train_5 : decode cX11_train 5 = .ok (.astore 4, 2) := by decide +kernel
theorem dX11_train_7 : decode cX11_train 7 = .ok (.aload_n 0, 1) := by decide +kernel
theorem dX11_train_8 : decode cX11_train 8 = .ok (.iload_n 1, 1) := by decide +kernel
theorem dX11_train_9 : decode cX11_train 9 = .ok (.iload_n 2, 1) := by decide +kernel
theorem dX11_train_10 : decode cX11_train 10 = .ok (.invokevirtual 199, 3) := by decide +kernel
theorem dX11_train_13 : decode cX11_train 13 = .ok (.astore 5, 2) := by decide +kernel
theorem dX11_train_15 : decode cX11_train 15 = .ok (.aload 4, 2) := by decide +kernel
theorem dX11_train_17 : decode cX11_train 17 = .ok (.ifnull 8, 3) := by decide +kernel
theorem dX11_train_20 : decode cX11_train 20 = .ok (.aload 5, 2) := by decide +kernel
theorem dX11_train_22 : decode cX11_train 22 = .ok (.ifnonnull 9, 3) := by decide +kernel
theorem dX11_train_25 : decode cX11_train 25 = .ok (.aload_n 0, 1) := by decide +kernel
theorem dX11_train_26 : decode cX11_train 26 = .ok (.iconst 2, 1) := by decide +kernel
theorem dX11_train_27 : decode cX11_train 27 = .ok (.invokevirtual 124, 3) := by decide +kernel
theorem dX11_train_30 : decode cX11_train 30 = .ok (.ireturn, 1) := by decide +kernel
theorem dX11_train_31 : decode cX11_train 31 = .ok (.iload_n 3, 1) := by decide +kernel
theorem dX11_train_32 : decode cX11_train 32 = .ok (.iconst 1, 1) := by decide +kernel
theorem dX11_train_33 : decode cX11_train 33 = .ok (.iconst 2, 1) := by decide +kernel
theorem dX11_train_34 : decode cX11_train 34 = .ok (.invokestatic 222, 3) := by decide +kernel
theorem dX11_train_37 : decode cX11_train 37 = .ok (.ifCond .ne 9, 3) := by decide +kernel
theorem dX11_train_40 : decode cX11_train 40 = .ok (.aload_n 0, 1) := by decide +kernel
theorem dX11_train_41 : decode cX11_train 41 = .ok (.iconst 5, 1) := by decide +kernel
theorem dX11_train_42 : decode cX11_train 42 = .ok (.invokevirtual 124, 3) := by decide +kernel
theorem dX11_train_45 : decode cX11_train 45 = .ok (.ireturn, 1) := by decide +kernel
theorem dX11_train_46 : decode cX11_train 46 = .ok (.aload_n 0, 1) := by decide +kernel
theorem dX11_train_47 : decode cX11_train 47 = .ok (.getfield 65, 3) := by decide +kernel
theorem dX11_train_50 : decode cX11_train 50 = .ok (.aload 4, 2) := by decide +kernel
theorem dX11_train_52 : decode cX11_train 52 = .ok (.aload 5, 2) := by decide +kernel
theorem dX11_train_54 : decode cX11_train 54 = .ok (.iload_n 3, 1) := by decide +kernel
theorem dX11_train_55 : decode cX11_train 55 = .ok (.invokevirtual 260, 3) := by decide +kernel
theorem dX11_train_58 : decode cX11_train 58 = .ok (.ifCond .ne 10, 3) := by decide +kernel
theorem dX11_train_61 : decode cX11_train 61 = .ok (.aload_n 0, 1) := by decide +kernel
theorem dX11_train_62 : decode cX11_train 62 = .ok (.bipush 9, 2) := by decide +kernel
theorem dX11_train_64 : decode cX11_train 64 = .ok (.invokevirtual 124, 3) := by decide +kernel
theorem dX11_train_67 : decode cX11_train 67 = .ok (.ireturn, 1) := by decide +kernel
theorem dX11_train_68 : decode cX11_train 68 = .ok (.aload_n 0, 1) := by decide +kernel
theorem dX11_train_69 : decode cX11_train 69 = .ok (.aload_n 0, 1) := by decide +kernel
theorem dX11_train_70 : decode cX11_train 70 = .ok (.getfield 65, 3) := by decide +kernel
theorem dX11_train_73 : decode cX11_train 73 = .ok (.getfield 264, 3) := by decide +kernel
theorem dX11_train_76 : decode cX11_train 76 = .ok (.ldc2_w 267, 3) := by decide +kernel
theorem dX11_train_79 : decode cX11_train 79 = .ok (.lmul, 1) := by decide +kernel
theorem dX11_train_80 : decode cX11_train 80 = .ok (.aload 5, 2) := by decide +kernel
theorem dX11_train_82 : decode cX11_train 82 = .ok (.aload_n 0, 1) := by decide +kernel
theorem dX11_train_83 : decode cX11_train 83 = .ok (.getfield 65, 3) := by decide +kernel
theorem dX11_train_86 : decode cX11_train 86 = .ok (.getfield 269, 3) := by decide +kernel
theorem dX11_train_89 : decode cX11_train 89 = .ok (.invokevirtual 252, 3) := by decide +kernel
theorem dX11_train_92 : decode cX11_train 92 = .ok (.invokevirtual 256, 3) := by decide +kernel
theorem dX11_train_95 : decode cX11_train 95 = .ok (.aload_n 0, 1) := by decide +kernel
theorem dX11_train_96 : decode cX11_train 96 = .ok (.aload_n 0, 1) := by decide +kernel
theorem dX11_train_97 : decode cX11_train 97 = .ok (.getfield 65, 3) := by decide +kernel
theorem dX11_train_100 : decode cX11_train 100 = .ok (.getfield 272, 3) := by decide +kernel
theorem dX11_train_103 : decode cX11_train 103 = .ok (.invokevirtual 176, 3) := by decide +kernel
theorem dX11_train_106 : decode cX11_train 106 = .ok (.ireturn, 1) := by decide +kernel
noncomputable def f_X11_train_25 (σ : am_H) : Option (Int32 × am_H) :=
  (f_X11_none 2 σ).bind fun p1 =>
  some (p1.1, p1.2)
set_option maxRecDepth 100000 in
set_option maxHeartbeats 4000000 in
theorem q_X11_train_25 {X : am_X} (hX : am_wC X) {Q : Option Value → am_H → Prop} (σ : am_H) {o : Int32 × am_H} (hf : f_X11_train_25 σ = some o) (hk : Q (some (.int o.1)) o.2) : am_G X gm_X11_train Q 25 [(0, .ref (am_ad X 11 0))] [] σ := by
  unfold f_X11_train_25 at hf
  refine g_aload_n (pc := 25) 0 rfl dX11_train_25 rfl ?_
  refine g_iconst (pc := 26) (v := 2) dX11_train_26 (by decide) ?_
  obtain ⟨p1, hp1, hf⟩ := am_bd hf
  refine g_cV (pc := 27) (As := [.int 2]) (st := []) (st1 := [.int p1.1]) (in_11 hX.1 (by omega)) kk_11 mV_X11_none ln_X11_124 rfl (Nat.le_of_ble_eq_true rfl) (Nat.le_of_ble_eq_true rfl) (k_X11_none hX 2 σ hp1) dX11_train_27 rfl rfl ?_
  have ho := Option.some.inj hf
  subst ho
  exact g_ireturn (pc := 30) (st := []) rfl dX11_train_30 hk
noncomputable def f_X11_train (v1 : Int32) (v2 : Int32) (v3 : Int32) (σ : am_H) : Option (Int32 × am_H) :=
  (f_X11_machineOf v1 σ).bind fun p1 =>
  am_nn 3 p1
   ((f_X11_waveOf v1 v2 σ).bind fun p3 =>
   am_nn 18 p3
    (f_X11_train_25 σ)
    (fun a4 =>
    f_X11_train_25 σ))
   (fun a2 =>
   (f_X11_waveOf v1 v2 σ).bind fun p5 =>
   am_nn 18 p5
    (f_X11_train_25 σ)
    (fun a6 =>
    (f_X11_isWithin v3 1 2 σ).bind fun p7 =>
    if p7 = true then
     ((f_X7_findBest a2 a6 v3 σ).bind fun p9 =>
     if p9.1 = true then
      ((f_X10_offBottom a6 (p9.2.2.1 7 0 10) p9.2).bind fun p11 =>
      (f_X11_tellFraction ((p9.2.2.1 7 0 9) * 24) p11 p9.2).bind fun p12 =>
      (f_X11_answer (p12.1 7 0 8) p12).bind fun p13 =>
      some (p13.1, p13.2))
     else
     (f_X11_none 9 p9.2).bind fun p14 =>
     some (p14.1, p14.2))
    else
    (f_X11_none 5 σ).bind fun p15 =>
    some (p15.1, p15.2)))
set_option maxRecDepth 100000 in
set_option maxHeartbeats 4000000 in
theorem q_X11_train {X : am_X} (hX : am_wC X) {Q : Option Value → am_H → Prop} (v1 : Int32) (v2 : Int32) (v3 : Int32) (σ : am_H) {o : Int32 × am_H} (hf : f_X11_train v1 v2 v3 σ = some o) (hk : Q (some (.int o.1)) o.2) : am_G X gm_X11_train Q 0 [(0, .ref (am_ad X 11 0)), (1, .int v1), (2, .int v2), (3, .int v3)] [] σ := by
  unfold f_X11_train at hf
  refine g_aload_n (pc := 0) 0 rfl dX11_train_0 rfl ?_
  refine g_iload_n (pc := 1) 1 rfl dX11_train_1 rfl ?_
  obtain ⟨p1, hp1, hf⟩ := am_bd hf
  have hq := am_nn_c hf
  clear hf
  rcases hq with ⟨ep1, hf⟩ | ⟨a2, ep1, ga2, hf⟩
  · subst ep1
    refine g_cV (pc := 2) (As := [.int v1]) (st := []) (st1 := [.null]) (in_11 hX.1 (by omega)) kk_11 mV_X11_machineOf ln_X11_159 rfl (Nat.le_of_ble_eq_true rfl) (Nat.le_of_ble_eq_true rfl) (k_X11_machineOf hX v1 σ hp1) dX11_train_2 rfl rfl ?_
    refine g_astoreN (pc := 5) [(4, .null), (0, .ref (am_ad X 11 0)), (1, .int v1), (2, .int v2), (3, .int v3)] dX11_train_5 (Nat.le_of_ble_eq_true rfl) rfl ?_
    refine g_aload_n (pc := 7) 1 rfl dX11_train_7 rfl ?_
    refine g_iload_n (pc := 8) 2 rfl dX11_train_8 rfl ?_
    refine g_iload_n (pc := 9) 3 rfl dX11_train_9 rfl ?_
    obtain ⟨p3, hp3, hf⟩ := am_bd hf
    have hq := am_nn_c hf
    clear hf
    rcases hq with ⟨ep3, hf⟩ | ⟨a4, ep3, ga4, hf⟩
    · subst ep3
      refine g_cV (pc := 10) (As := [.int v1, .int v2]) (st := []) (st1 := [.null]) (in_11 hX.1 (by omega)) kk_11 mV_X11_waveOf ln_X11_199 rfl (Nat.le_of_ble_eq_true rfl) (Nat.le_of_ble_eq_true rfl) (k_X11_waveOf hX v1 v2 σ hp3) dX11_train_10 rfl rfl ?_
      refine g_astoreN (pc := 13) [(5, .null), (4, .null), (0, .ref (am_ad X 11 0)), (1, .int v1), (2, .int v2), (3, .int v3)] dX11_train_13 (Nat.le_of_ble_eq_true rfl) rfl ?_
      refine g_aloadN (pc := 15) 1 rfl dX11_train_15 ?_
      refine g_ifnullN (pc := 17) 25 dX11_train_17 rfl ?_
      exact am_sub [2] rfl (q_X11_train_25 hX σ hf hk)
    · subst ep3
      refine g_cV (pc := 10) (As := [.int v1, .int v2]) (st := []) (st1 := [.ref (am_ad X 10 a4)]) (in_11 hX.1 (by omega)) kk_11 mV_X11_waveOf ln_X11_199 rfl (Nat.le_of_ble_eq_true rfl) (Nat.le_of_ble_eq_true rfl) (k_X11_waveOf hX v1 v2 σ hp3) dX11_train_10 rfl rfl ?_
      refine g_astore (pc := 13) [(5, .ref (am_ad X 10 a4)), (4, .null), (0, .ref (am_ad X 11 0)), (1, .int v1), (2, .int v2), (3, .int v3)] dX11_train_13 (Nat.le_of_ble_eq_true rfl) rfl ?_
      refine g_aloadN (pc := 15) 1 rfl dX11_train_15 ?_
      refine g_ifnullN (pc := 17) 25 dX11_train_17 rfl ?_
      exact am_sub [2] rfl (q_X11_train_25 hX σ hf hk)
  · subst ep1
    refine g_cV (pc := 2) (As := [.int v1]) (st := []) (st1 := [.ref (am_ad X 3 a2)]) (in_11 hX.1 (by omega)) kk_11 mV_X11_machineOf ln_X11_159 rfl (Nat.le_of_ble_eq_true rfl) (Nat.le_of_ble_eq_true rfl) (k_X11_machineOf hX v1 σ hp1) dX11_train_2 rfl rfl ?_
    refine g_astore (pc := 5) [(4, .ref (am_ad X 3 a2)), (0, .ref (am_ad X 11 0)), (1, .int v1), (2, .int v2), (3, .int v3)] dX11_train_5 (Nat.le_of_ble_eq_true rfl) rfl ?_
    refine g_aload_n (pc := 7) 1 rfl dX11_train_7 rfl ?_
    refine g_iload_n (pc := 8) 2 rfl dX11_train_8 rfl ?_
    refine g_iload_n (pc := 9) 3 rfl dX11_train_9 rfl ?_
    obtain ⟨p5, hp5, hf⟩ := am_bd hf
    have hq := am_nn_c hf
    clear hf
    rcases hq with ⟨ep5, hf⟩ | ⟨a6, ep5, ga6, hf⟩
    · subst ep5
      refine g_cV (pc := 10) (As := [.int v1, .int v2]) (st := []) (st1 := [.null]) (in_11 hX.1 (by omega)) kk_11 mV_X11_waveOf ln_X11_199 rfl (Nat.le_of_ble_eq_true rfl) (Nat.le_of_ble_eq_true rfl) (k_X11_waveOf hX v1 v2 σ hp5) dX11_train_10 rfl rfl ?_
      refine g_astoreN (pc := 13) [(5, .null), (4, .ref (am_ad X 3 a2)), (0, .ref (am_ad X 11 0)), (1, .int v1), (2, .int v2), (3, .int v3)] dX11_train_13 (Nat.le_of_ble_eq_true rfl) rfl ?_
      refine g_aload (pc := 15) 1 rfl dX11_train_15 ?_
      refine g_ifnull (pc := 17) dX11_train_17 ?_
      refine g_aloadN (pc := 20) 0 rfl dX11_train_20 ?_
      refine g_ifnonnullN (pc := 22) dX11_train_22 ?_
      exact am_sub [2] rfl (q_X11_train_25 hX σ hf hk)
    · subst ep5
      refine g_cV (pc := 10) (As := [.int v1, .int v2]) (st := []) (st1 := [.ref (am_ad X 10 a6)]) (in_11 hX.1 (by omega)) kk_11 mV_X11_waveOf ln_X11_199 rfl (Nat.le_of_ble_eq_true rfl) (Nat.le_of_ble_eq_true rfl) (k_X11_waveOf hX v1 v2 σ hp5) dX11_train_10 rfl rfl ?_
      refine g_astore (pc := 13) [(5, .ref (am_ad X 10 a6)), (4, .ref (am_ad X 3 a2)), (0, .ref (am_ad X 11 0)), (1, .int v1), (2, .int v2), (3, .int v3)] dX11_train_13 (Nat.le_of_ble_eq_true rfl) rfl ?_
      refine g_aload (pc := 15) 1 rfl dX11_train_15 ?_
      refine g_ifnull (pc := 17) dX11_train_17 ?_
      refine g_aload (pc := 20) 0 rfl dX11_train_20 ?_
      refine g_ifnonnull (pc := 22) 31 dX11_train_22 rfl ?_
      refine g_iload_n (pc := 31) 5 rfl dX11_train_31 rfl ?_
      refine g_iconst (pc := 32) (v := 1) dX11_train_32 (by decide) ?_
      refine g_iconst (pc := 33) (v := 2) dX11_train_33 (by decide) ?_
      obtain ⟨p7, hp7, hf⟩ := am_bd hf
      refine g_cS (pc := 34) (As := [.int v3, .int 1, .int 2]) (st := []) (st1 := [.int (am_b p7)]) mS_X11_isWithin ln_X11_222 rfl (Nat.le_of_ble_eq_true rfl) (Nat.le_of_ble_eq_true rfl) (k_X11_isWithin hX v3 1 2 σ hp7) dX11_train_34 rfl rfl ?_
      refine bt_ne (pc := 37) 46 dX11_train_37 rfl (fun c8 => ?_) (fun c8 => ?_)
      · replace hf := am_ifT c8 hf
        refine g_aload_n (pc := 46) 2 rfl dX11_train_46 rfl ?_
        refine g_getC (pc := 47) (e := 0) (in_11 hX.1 (by omega)) fr_X11_65 dX11_train_47 rfl ?_
        refine g_aload (pc := 50) 1 rfl dX11_train_50 ?_
        refine g_aload (pc := 52) 0 rfl dX11_train_52 ?_
        refine g_iload_n (pc := 54) 5 rfl dX11_train_54 rfl ?_
        obtain ⟨p9, hp9, hf⟩ := am_bd hf
        refine g_cV (pc := 55) (As := [.ref (am_ad X 3 a2), .ref (am_ad X 10 a6), .int v3]) (st := []) (st1 := [.int (am_b p9.1)]) (in_7 hX.1 (by omega)) kk_7 mV_X7_findBest ln_X11_260 rfl (Nat.le_of_ble_eq_true rfl) (Nat.le_of_ble_eq_true rfl) (k_X7_findBest hX a2 a6 v3 (by omega) (by omega) σ hp9) dX11_train_55 rfl rfl ?_
        refine bt_ne (pc := 58) 68 dX11_train_58 rfl (fun c10 => ?_) (fun c10 => ?_)
        · replace hf := am_ifT c10 hf
          refine g_aload_n (pc := 68) 2 rfl dX11_train_68 rfl ?_
          refine g_aload_n (pc := 69) 2 rfl dX11_train_69 rfl ?_
          refine g_getC (pc := 70) (e := 0) (in_11 hX.1 (by omega)) fr_X11_65 dX11_train_70 rfl ?_
          refine g_getJ (pc := 73) (in_7 hX.1 (by omega)) fr_X11_264 dX11_train_73 ?_
          refine g_ldc2 (pc := 76) (v := 24) (tb_4 (List.mem_of_getElem? (i := 199) (by decide +kernel))) dX11_train_76 ?_
          refine g_lmul (pc := 79) dX11_train_79 ?_
          refine g_aload (pc := 80) 0 rfl dX11_train_80 ?_
          refine g_aload_n (pc := 82) 2 rfl dX11_train_82 rfl ?_
          refine g_getC (pc := 83) (e := 0) (in_11 hX.1 (by omega)) fr_X11_65 dX11_train_83 rfl ?_
          refine g_getJ (pc := 86) (in_7 hX.1 (by omega)) fr_X11_269 dX11_train_86 ?_
          obtain ⟨p11, hp11, hf⟩ := am_bd hf
          refine g_cV (pc := 89) (As := [.long (p9.2.2.1 7 0 10)]) (st := [.long ((p9.2.2.1 7 0 9) * 24), .ref (am_ad X 11 0)]) (st1 := [.long p11, .long ((p9.2.2.1 7 0 9) * 24), .ref (am_ad X 11 0)]) (in_10 hX.1 (by omega)) kk_10 mV_X10_offBottom ln_X11_252 rfl (Nat.le_of_ble_eq_true rfl) (Nat.le_of_ble_eq_true rfl) (k_X10_offBottom hX a6 (p9.2.2.1 7 0 10) (by omega) p9.2 hp11) dX11_train_89 rfl rfl ?_
          obtain ⟨p12, hp12, hf⟩ := am_bd hf
          refine g_cV (pc := 92) (As := [.long ((p9.2.2.1 7 0 9) * 24), .long p11]) (st := []) (st1 := []) (in_11 hX.1 (by omega)) kk_11 mV_X11_tellFraction ln_X11_256 rfl (Nat.le_of_ble_eq_true rfl) (Nat.le_of_ble_eq_true rfl) (k_X11_tellFraction hX ((p9.2.2.1 7 0 9) * 24) p11 p9.2 hp12) dX11_train_92 rfl rfl ?_
          refine g_aload_n (pc := 95) 2 rfl dX11_train_95 rfl ?_
          refine g_aload_n (pc := 96) 2 rfl dX11_train_96 rfl ?_
          refine g_getC (pc := 97) (e := 0) (in_11 hX.1 (by omega)) fr_X11_65 dX11_train_97 rfl ?_
          refine g_getI (pc := 100) (in_7 hX.1 (by omega)) fr_X11_272 dX11_train_100 ?_
          obtain ⟨p13, hp13, hf⟩ := am_bd hf
          refine g_cV (pc := 103) (As := [.int (p12.1 7 0 8)]) (st := []) (st1 := [.int p13.1]) (in_11 hX.1 (by omega)) kk_11 mV_X11_answer ln_X11_176 rfl (Nat.le_of_ble_eq_true rfl) (Nat.le_of_ble_eq_true rfl) (k_X11_answer hX (p12.1 7 0 8) p12 hp13) dX11_train_103 rfl rfl ?_
          have ho := Option.some.inj hf
          subst ho
          exact g_ireturn (pc := 106) (st := []) rfl dX11_train_106 hk
        replace hf := am_ifF c10 hf
        refine g_aload_n (pc := 61) 2 rfl dX11_train_61 rfl ?_
        refine g_bipush (pc := 62) (v := 9) dX11_train_62 (by decide) ?_
        obtain ⟨p14, hp14, hf⟩ := am_bd hf
        refine g_cV (pc := 64) (As := [.int 9]) (st := []) (st1 := [.int p14.1]) (in_11 hX.1 (by omega)) kk_11 mV_X11_none ln_X11_124 rfl (Nat.le_of_ble_eq_true rfl) (Nat.le_of_ble_eq_true rfl) (k_X11_none hX 9 p9.2 hp14) dX11_train_64 rfl rfl ?_
        have ho := Option.some.inj hf
        subst ho
        exact g_ireturn (pc := 67) (st := []) rfl dX11_train_67 hk
      replace hf := am_ifF c8 hf
      refine g_aload_n (pc := 40) 2 rfl dX11_train_40 rfl ?_
      refine g_iconst (pc := 41) (v := 5) dX11_train_41 (by decide) ?_
      obtain ⟨p15, hp15, hf⟩ := am_bd hf
      refine g_cV (pc := 42) (As := [.int 5]) (st := []) (st1 := [.int p15.1]) (in_11 hX.1 (by omega)) kk_11 mV_X11_none ln_X11_124 rfl (Nat.le_of_ble_eq_true rfl) (Nat.le_of_ble_eq_true rfl) (k_X11_none hX 5 σ hp15) dX11_train_42 rfl rfl ?_
      have ho := Option.some.inj hf
      subst ho
      exact g_ireturn (pc := 45) (st := []) rfl dX11_train_45 hk
theorem k_X11_train {X : am_X} (hX : am_wC X) (v1 : Int32) (v2 : Int32) (v3 : Int32) (σ : am_H) {o : Int32 × am_H} (hf : f_X11_train v1 v2 v3 σ = some o) : am_C X gm_X11_train [.ref (am_ad X 11 0), .int v1, .int v2, .int v3] σ (am_is (some (.int o.1)) o.2) :=
  am_ofG rfl (Nat.le_of_ble_eq_true rfl) rfl (q_X11_train hX v1 v2 v3 σ hf ⟨rfl, rfl⟩)
theorem dX11_trained_0 : decode cX11_trained 0 = .ok (.iload_n 1, 1) := by decide +kernel
theorem dX11_trained_1 : decode cX11_trained 1 = .ok (.ifCond .lt 14, 3) := by decide +kernel
theorem dX11_trained_4 : decode cX11_trained 4 = .ok (.iload_n 1, 1) := by decide +kernel
theorem dX11_trained_5 : decode cX11_trained 5 = .ok (.aload_n 0, 1) := by decide +kernel
theorem dX11_trained_6 : decode cX11_trained 6 = .ok (.getfield 65, 3) := by decide +kernel
theorem dX11_trained_9 : decode cX11_trained 9 = .ok (.getfield 275, 3) := by decide +kernel
theorem dX11_trained_12 : decode cX11_trained 12 = .ok (.if_icmp .lt 10, 3) := by decide +kernel
theorem dX11_trained_15 : decode cX11_trained 15 = .ok (.aload_n 0, 1) := by decide +kernel
theorem dX11_trained_16 : decode cX11_trained 16 = .ok (.bipush 8, 2) := by decide +kernel
theorem dX11_trained_18 : decode cX11_trained 18 = .ok (.invokevirtual 124, 3) := by decide +kernel
theorem dX11_trained_21 : decode cX11_trained 21 = .ok (.ireturn, 1) := by decide +kernel
theorem dX11_trained_22 : decode cX11_trained 22 = .ok (.aload_n 0, 1) := by decide +kernel
theorem dX11_trained_23 : decode cX11_trained 23 = .ok (.aload_n 0, 1) := by decide +kernel
theorem dX11_trained_24 : decode cX11_trained 24 = .ok (.getfield 65, 3) := by decide +kernel
theorem dX11_trained_27 : decode cX11_trained 27 = .ok (.getfield 278, 3) := by decide +kernel
theorem dX11_trained_30 : decode cX11_trained 30 = .ok (.iload_n 1, 1) := by decide +kernel
theorem dX11_trained_31 : decode cX11_trained 31 = .ok (.iaload, 1) := by decide +kernel
theorem dX11_trained_32 : decode cX11_trained 32 = .ok (.invokevirtual 176, 3) := by decide +kernel
theorem dX11_trained_35 : decode cX11_trained 35 = .ok (.ireturn, 1) := by decide +kernel
noncomputable def f_X11_trained_15 (σ : am_H) : Option (Int32 × am_H) :=
  (f_X11_none 8 σ).bind fun p1 =>
  some (p1.1, p1.2)
set_option maxRecDepth 100000 in
set_option maxHeartbeats 4000000 in
theorem q_X11_trained_15 {X : am_X} (hX : am_wC X) {Q : Option Value → am_H → Prop} (σ : am_H) {o : Int32 × am_H} (hf : f_X11_trained_15 σ = some o) (hk : Q (some (.int o.1)) o.2) : am_G X gm_X11_trained Q 15 [(0, .ref (am_ad X 11 0))] [] σ := by
  unfold f_X11_trained_15 at hf
  refine g_aload_n (pc := 15) 0 rfl dX11_trained_15 rfl ?_
  refine g_bipush (pc := 16) (v := 8) dX11_trained_16 (by decide) ?_
  obtain ⟨p1, hp1, hf⟩ := am_bd hf
  refine g_cV (pc := 18) (As := [.int 8]) (st := []) (st1 := [.int p1.1]) (in_11 hX.1 (by omega)) kk_11 mV_X11_none ln_X11_124 rfl (Nat.le_of_ble_eq_true rfl) (Nat.le_of_ble_eq_true rfl) (k_X11_none hX 8 σ hp1) dX11_trained_18 rfl rfl ?_
  have ho := Option.some.inj hf
  subst ho
  exact g_ireturn (pc := 21) (st := []) rfl dX11_trained_21 hk
noncomputable def f_X11_trained (v1 : Int32) (σ : am_H) : Option (Int32 × am_H) :=
  if v1 < 0 then
   (f_X11_trained_15 σ)
  else
  if v1 < (σ.1 7 0 12) then
   ((am_ix 4 v1).bind fun j3 =>
   (f_X11_answer (σ.1 811 0 j3) σ).bind fun p4 =>
   some (p4.1, p4.2))
  else
  f_X11_trained_15 σ
set_option maxRecDepth 100000 in
set_option maxHeartbeats 4000000 in
theorem q_X11_trained {X : am_X} (hX : am_wC X) {Q : Option Value → am_H → Prop} (v1 : Int32) (σ : am_H) {o : Int32 × am_H} (hf : f_X11_trained v1 σ = some o) (hk : Q (some (.int o.1)) o.2) : am_G X gm_X11_trained Q 0 [(0, .ref (am_ad X 11 0)), (1, .int v1)] [] σ := by
  unfold f_X11_trained at hf
  refine g_iload_n (pc := 0) 1 rfl dX11_trained_0 rfl ?_
  refine bz_lt (pc := 1) 15 dX11_trained_1 rfl (fun c1 => ?_) (fun c1 => ?_)
  · replace hf := am_ifT c1 hf
    exact am_sub [0] rfl (q_X11_trained_15 hX σ hf hk)
  replace hf := am_ifF c1 hf
  refine g_iload_n (pc := 4) 1 rfl dX11_trained_4 rfl ?_
  refine g_aload_n (pc := 5) 0 rfl dX11_trained_5 rfl ?_
  refine g_getC (pc := 6) (e := 0) (in_11 hX.1 (by omega)) fr_X11_65 dX11_trained_6 rfl ?_
  refine g_getI (pc := 9) (in_7 hX.1 (by omega)) fr_X11_275 dX11_trained_9 ?_
  refine bi_lt (pc := 12) 22 dX11_trained_12 rfl (fun c2 => ?_) (fun c2 => ?_)
  · replace hf := am_ifT c2 hf
    refine g_aload_n (pc := 22) 0 rfl dX11_trained_22 rfl ?_
    refine g_aload_n (pc := 23) 0 rfl dX11_trained_23 rfl ?_
    refine g_getC (pc := 24) (e := 0) (in_11 hX.1 (by omega)) fr_X11_65 dX11_trained_24 rfl ?_
    refine g_getC (pc := 27) (e := 0) (in_7 hX.1 (by omega)) fr_X11_278 dX11_trained_27 rfl ?_
    refine g_iload_n (pc := 30) 1 rfl dX11_trained_30 rfl ?_
    obtain ⟨j3, hj3, hf⟩ := am_bd hf
    have gj3 := am_ix_lt hj3
    refine g_aI (pc := 31) (in_811 hX.1 (by omega)) ak_811 hj3 dX11_trained_31 ?_
    obtain ⟨p4, hp4, hf⟩ := am_bd hf
    refine g_cV (pc := 32) (As := [.int (σ.1 811 0 j3)]) (st := []) (st1 := [.int p4.1]) (in_11 hX.1 (by omega)) kk_11 mV_X11_answer ln_X11_176 rfl (Nat.le_of_ble_eq_true rfl) (Nat.le_of_ble_eq_true rfl) (k_X11_answer hX (σ.1 811 0 j3) σ hp4) dX11_trained_32 rfl rfl ?_
    have ho := Option.some.inj hf
    subst ho
    exact g_ireturn (pc := 35) (st := []) rfl dX11_trained_35 hk
  replace hf := am_ifF c2 hf
  exact am_sub [0] rfl (q_X11_trained_15 hX σ hf hk)
theorem k_X11_trained {X : am_X} (hX : am_wC X) (v1 : Int32) (σ : am_H) {o : Int32 × am_H} (hf : f_X11_trained v1 σ = some o) : am_C X gm_X11_trained [.ref (am_ad X 11 0), .int v1] σ (am_is (some (.int o.1)) o.2) :=
  am_ofG rfl (Nat.le_of_ble_eq_true rfl) rfl (q_X11_trained hX v1 σ hf ⟨rfl, rfl⟩)
theorem dX11_share_0 : decode cX11_share 0 = .ok (.aload_n 0, 1) := by decide +kernel
theorem dX11_share_1 : decode cX11_share 1 = .ok (.iload_n 1, 1) := by decide +kernel
theorem dX11_share_2 : decode cX11_share 2 = .ok (.invokevirtual 159, 3) := by decide +kernel
theorem dX11_share_5 : decode cX11_share 5 = .ok (.astore 5, 2) := by decide +kernel
theorem dX11_share_7 : decode cX11_share 7 = .ok (.aload 5, 2) := by decide +kernel
theorem dX11_share_9 : decode cX11_share 9 = .ok (.ifnull 13, 3) := by decide +kernel
theorem dX11_share_12 : decode cX11_share 12 = .ok (.iload_n 2, 1) := by decide +kernel
theorem dX11_share_13 : decode cX11_share 13 = .ok (.aload 5, 2) := by decide +kernel
theorem dX11_share_15 : decode cX11_share 15 = .ok (.getfield 173, 3) := by decide +kernel
theorem dX11_share_18 : decode cX11_share 18 = .ok (.ishr, 1) := by decide +kernel
theorem dX11_share_19 : decode cX11_share 19 = .ok (.ifCond .eq 9, 3) := by decide +kernel
theorem dX11_share_22 : decode cX11_share 22 = .ok (.aload_n 0, 1) := by decide +kernel
theorem dX11_share_23 : decode cX11_share 23 = .ok (.iconst 2, 1) := by decide +kernel
theorem dX11_share_24 : decode cX11_share 24 = .ok (.invokevirtual 124, 3) := by decide +kernel
theorem dX11_share_27 : decode cX11_share 27 = .ok (.ireturn, 1) := by decide +kernel
theorem dX11_share_28 : decode cX11_share 28 = .ok (.iload_n 2, 1) := by decide +kernel
theorem dX11_share_29 : decode cX11_share 29 = .ok (.invokestatic 282, 3) := by decide +kernel
theorem dX11_share_32 : decode cX11_share 32 = .ok (.iconst 1, 1) := by decide +kernel
theorem dX11_share_33 : decode cX11_share 33 = .ok (.iconst 3, 1) := by decide +kernel
theorem dX11_share_34 : decode cX11_share 34 = .ok (.invokestatic 222, 3) := by decide +kernel
theorem dX11_share_37 : decode cX11_share 37 = .ok (.ifCond .eq 21, 3) := by decide +kernel
theorem dX11_share_40 : decode cX11_share 40 = .ok (.iload_n 3, 1) := by decide +kernel
theorem dX11_share_41 : decode cX11_share 41 = .ok (.iconst 0, 1) := by decide +kernel
theorem dX11_share_42 : decode cX11_share 42 = .ok (.bipush 99, 2) := by decide +kernel
theorem dX11_share_44 : decode cX11_share 44 = .ok (.invokestatic 222, 3) := by decide +kernel
theorem dX11_share_47 : decode cX11_share 47 = .ok (.ifCond .eq 11, 3) := by decide +kernel
theorem dX11_share_50 : decode cX11_share 50 = .ok (.iload 4, 2) := by decide +kernel
theorem dX11_share_52 : decode cX11_share 52 = .ok (.invokestatic 226, 3) := by decide +kernel
theorem dX11_share_55 : decode cX11_share 55 = .ok (.ifCond .ne 9, 3) := by decide +kernel
theorem dX11_share_58 : decode cX11_share 58 = .ok (.aload_n 0, 1) := by decide +kernel
theorem dX11_share_59 : decode cX11_share 59 = .ok (.iconst 5, 1) := by decide +kernel
theorem dX11_share_60 : decode cX11_share 60 = .ok (.invokevirtual 124, 3) := by decide +kernel
theorem dX11_share_63 : decode cX11_share 63 = .ok (.ireturn, 1) := by decide +kernel
theorem dX11_share_64 : decode cX11_share 64 = .ok (.aload_n 0, 1) := by decide +kernel
theorem dX11_share_65 : decode cX11_share 65 = .ok (.getfield 65, 3) := by decide +kernel
theorem dX11_share_68 : decode cX11_share 68 = .ok (.aload 5, 2) := by decide +kernel
theorem dX11_share_70 : decode cX11_share 70 = .ok (.iload_n 2, 1) := by decide +kernel
theorem dX11_share_71 : decode cX11_share 71 = .ok (.iload_n 3, 1) := by decide +kernel
theorem dX11_share_72 : decode cX11_share 72 = .ok (.iload 4, 2) := by decide +kernel
theorem dX11_share_74 : decode cX11_share 74 = .ok (.invokevirtual 287, 3) := by decide +kernel
theorem dX11_share_77 : decode cX11_share 77 = .ok (.ifCond .ne 10, 3) := by decide +kernel
theorem dX11_share_80 : decode cX11_share 80 = .ok (.aload_n 0, 1) := by decide +kernel
theorem dX11_share_81 : decode cX11_share 81 = .ok (.bipush 9, 2) := by decide +kernel
theorem dX11_share_83 : decode cX11_share 83 = .ok (.invokevirtual 124, 3) := by decide +kernel
theorem dX11_share_86 : decode cX11_share 86 = .ok (.ireturn, 1) := by decide +kernel
theorem dX11_share_87 : decode cX11_share 87 = .ok (.aload_n 0, 1) := by decide +kernel
theorem dX11_share_88 : decode cX11_share 88 = .ok (.aload_n 0, 1) := by decide +kernel
theorem dX11_share_89 : decode cX11_share 89 = .ok (.getfield 65, 3) := by decide +kernel
theorem dX11_share_92 : decode cX11_share 92 = .ok (.getfield 272, 3) := by decide +kernel
theorem dX11_share_95 : decode cX11_share 95 = .ok (.invokevirtual 176, 3) := by decide +kernel
theorem dX11_share_98 : decode cX11_share 98 = .ok (.ireturn, 1) := by decide +kernel
noncomputable def f_X11_share_22 (σ : am_H) : Option (Int32 × am_H) :=
  (f_X11_none 2 σ).bind fun p1 =>
  some (p1.1, p1.2)
set_option maxRecDepth 100000 in
set_option maxHeartbeats 4000000 in
theorem q_X11_share_22 {X : am_X} (hX : am_wC X) {Q : Option Value → am_H → Prop} (σ : am_H) {o : Int32 × am_H} (hf : f_X11_share_22 σ = some o) (hk : Q (some (.int o.1)) o.2) : am_G X gm_X11_share Q 22 [(0, .ref (am_ad X 11 0))] [] σ := by
  unfold f_X11_share_22 at hf
  refine g_aload_n (pc := 22) 0 rfl dX11_share_22 rfl ?_
  refine g_iconst (pc := 23) (v := 2) dX11_share_23 (by decide) ?_
  obtain ⟨p1, hp1, hf⟩ := am_bd hf
  refine g_cV (pc := 24) (As := [.int 2]) (st := []) (st1 := [.int p1.1]) (in_11 hX.1 (by omega)) kk_11 mV_X11_none ln_X11_124 rfl (Nat.le_of_ble_eq_true rfl) (Nat.le_of_ble_eq_true rfl) (k_X11_none hX 2 σ hp1) dX11_share_24 rfl rfl ?_
  have ho := Option.some.inj hf
  subst ho
  exact g_ireturn (pc := 27) (st := []) rfl dX11_share_27 hk
noncomputable def f_X11_share_58 (σ : am_H) : Option (Int32 × am_H) :=
  (f_X11_none 5 σ).bind fun p1 =>
  some (p1.1, p1.2)
set_option maxRecDepth 100000 in
set_option maxHeartbeats 4000000 in
theorem q_X11_share_58 {X : am_X} (hX : am_wC X) {Q : Option Value → am_H → Prop} (σ : am_H) {o : Int32 × am_H} (hf : f_X11_share_58 σ = some o) (hk : Q (some (.int o.1)) o.2) : am_G X gm_X11_share Q 58 [(0, .ref (am_ad X 11 0))] [] σ := by
  unfold f_X11_share_58 at hf
  refine g_aload_n (pc := 58) 0 rfl dX11_share_58 rfl ?_
  refine g_iconst (pc := 59) (v := 5) dX11_share_59 (by decide) ?_
  obtain ⟨p1, hp1, hf⟩ := am_bd hf
  refine g_cV (pc := 60) (As := [.int 5]) (st := []) (st1 := [.int p1.1]) (in_11 hX.1 (by omega)) kk_11 mV_X11_none ln_X11_124 rfl (Nat.le_of_ble_eq_true rfl) (Nat.le_of_ble_eq_true rfl) (k_X11_none hX 5 σ hp1) dX11_share_60 rfl rfl ?_
  have ho := Option.some.inj hf
  subst ho
  exact g_ireturn (pc := 63) (st := []) rfl dX11_share_63 hk
noncomputable def f_X11_share (v1 : Int32) (v2 : Int32) (v3 : Int32) (v4 : Int32) (σ : am_H) : Option (Int32 × am_H) :=
  (f_X11_machineOf v1 σ).bind fun p1 =>
  am_nn 3 p1
   (f_X11_share_22 σ)
   (fun a2 =>
   if (v2 >>> ((σ.1 3 a2 1) &&& 31)) = 0 then
    ((f_J6_bitCount_0f7a4 v2 σ).bind fun p4 =>
    (f_X11_isWithin p4 1 3 σ).bind fun p5 =>
    if p5 = true then
     ((f_X11_isWithin v3 0 99 σ).bind fun p7 =>
     if p7 = true then
      ((f_X11_isHour v4 σ).bind fun p9 =>
      if p9 = true then
       ((f_X7_findShared a2 v2 v3 v4 σ).bind fun p11 =>
       if p11.1 = true then
        ((f_X11_answer (p11.2.1 7 0 8) p11.2).bind fun p13 =>
        some (p13.1, p13.2))
       else
       (f_X11_none 9 p11.2).bind fun p14 =>
       some (p14.1, p14.2))
      else
      f_X11_share_58 σ)
     else
     f_X11_share_58 σ)
    else
    f_X11_share_58 σ)
   else
   f_X11_share_22 σ)
set_option maxRecDepth 100000 in
set_option maxHeartbeats 4000000 in
theorem q_X11_share {X : am_X} (hX : am_wC X) {Q : Option Value → am_H → Prop} (v1 : Int32) (v2 : Int32) (v3 : Int32) (v4 : Int32) (σ : am_H) {o : Int32 × am_H} (hf : f_X11_share v1 v2 v3 v4 σ = some o) (hk : Q (some (.int o.1)) o.2) : am_G X gm_X11_share Q 0 [(0, .ref (am_ad X 11 0)), (1, .int v1), (2, .int v2), (3, .int v3), (4, .int v4)] [] σ := by
  unfold f_X11_share at hf
  refine g_aload_n (pc := 0) 0 rfl dX11_share_0 rfl ?_
  refine g_iload_n (pc := 1) 1 rfl dX11_share_1 rfl ?_
  obtain ⟨p1, hp1, hf⟩ := am_bd hf
  have hq := am_nn_c hf
  clear hf
  rcases hq with ⟨ep1, hf⟩ | ⟨a2, ep1, ga2, hf⟩
  · subst ep1
    refine g_cV (pc := 2) (As := [.int v1]) (st := []) (st1 := [.null]) (in_11 hX.1 (by omega)) kk_11 mV_X11_machineOf ln_X11_159 rfl (Nat.le_of_ble_eq_true rfl) (Nat.le_of_ble_eq_true rfl) (k_X11_machineOf hX v1 σ hp1) dX11_share_2 rfl rfl ?_
    refine g_astoreN (pc := 5) [(5, .null), (0, .ref (am_ad X 11 0)), (1, .int v1), (2, .int v2), (3, .int v3), (4, .int v4)] dX11_share_5 (Nat.le_of_ble_eq_true rfl) rfl ?_
    refine g_aloadN (pc := 7) 0 rfl dX11_share_7 ?_
    refine g_ifnullN (pc := 9) 22 dX11_share_9 rfl ?_
    exact am_sub [1] rfl (q_X11_share_22 hX σ hf hk)
  · subst ep1
    refine g_cV (pc := 2) (As := [.int v1]) (st := []) (st1 := [.ref (am_ad X 3 a2)]) (in_11 hX.1 (by omega)) kk_11 mV_X11_machineOf ln_X11_159 rfl (Nat.le_of_ble_eq_true rfl) (Nat.le_of_ble_eq_true rfl) (k_X11_machineOf hX v1 σ hp1) dX11_share_2 rfl rfl ?_
    refine g_astore (pc := 5) [(5, .ref (am_ad X 3 a2)), (0, .ref (am_ad X 11 0)), (1, .int v1), (2, .int v2), (3, .int v3), (4, .int v4)] dX11_share_5 (Nat.le_of_ble_eq_true rfl) rfl ?_
    refine g_aload (pc := 7) 0 rfl dX11_share_7 ?_
    refine g_ifnull (pc := 9) dX11_share_9 ?_
    refine g_iload_n (pc := 12) 3 rfl dX11_share_12 rfl ?_
    refine g_aload (pc := 13) 0 rfl dX11_share_13 ?_
    refine g_getI (pc := 15) (in_3 hX.1 (by omega)) fr_X11_173 dX11_share_15 ?_
    refine g_ishr (pc := 18) dX11_share_18 ?_
    refine bz_eq (pc := 19) 28 dX11_share_19 rfl (fun c3 => ?_) (fun c3 => ?_)
    · replace hf := am_ifT c3 hf
      refine g_iload_n (pc := 28) 3 rfl dX11_share_28 rfl ?_
      obtain ⟨p4, hp4, hf⟩ := am_bd hf
      refine g_cS (pc := 29) (As := [.int v2]) (st := []) (st1 := [.int p4]) mS_J6_bitCount_0f7a4 ln_X11_282 rfl (Nat.le_of_ble_eq_true rfl) (Nat.le_of_ble_eq_true rfl) (k_J6_bitCount_0f7a4 v2 σ hp4) dX11_share_29 rfl rfl ?_
      refine g_iconst (pc := 32) (v := 1) dX11_share_32 (by decide) ?_
      refine g_iconst (pc := 33) (v := 3) dX11_share_33 (by decide) ?_
      obtain ⟨p5, hp5, hf⟩ := am_bd hf
      refine g_cS (pc := 34) (As := [.int p4, .int 1, .int 3]) (st := []) (st1 := [.int (am_b p5)]) mS_X11_isWithin ln_X11_222 rfl (Nat.le_of_ble_eq_true rfl) (Nat.le_of_ble_eq_true rfl) (k_X11_isWithin hX p4 1 3 σ hp5) dX11_share_34 rfl rfl ?_
      refine bt_eq (pc := 37) 58 dX11_share_37 rfl (fun c6 => ?_) (fun c6 => ?_)
      · replace hf := am_ifT c6 hf
        refine g_iload_n (pc := 40) 4 rfl dX11_share_40 rfl ?_
        refine g_iconst (pc := 41) (v := 0) dX11_share_41 (by decide) ?_
        refine g_bipush (pc := 42) (v := 99) dX11_share_42 (by decide) ?_
        obtain ⟨p7, hp7, hf⟩ := am_bd hf
        refine g_cS (pc := 44) (As := [.int v3, .int 0, .int 99]) (st := []) (st1 := [.int (am_b p7)]) mS_X11_isWithin ln_X11_222 rfl (Nat.le_of_ble_eq_true rfl) (Nat.le_of_ble_eq_true rfl) (k_X11_isWithin hX v3 0 99 σ hp7) dX11_share_44 rfl rfl ?_
        refine bt_eq (pc := 47) 58 dX11_share_47 rfl (fun c8 => ?_) (fun c8 => ?_)
        · replace hf := am_ifT c8 hf
          refine g_iload (pc := 50) 5 rfl dX11_share_50 ?_
          obtain ⟨p9, hp9, hf⟩ := am_bd hf
          refine g_cS (pc := 52) (As := [.int v4]) (st := []) (st1 := [.int (am_b p9)]) mS_X11_isHour ln_X11_226 rfl (Nat.le_of_ble_eq_true rfl) (Nat.le_of_ble_eq_true rfl) (k_X11_isHour hX v4 σ hp9) dX11_share_52 rfl rfl ?_
          refine bt_ne (pc := 55) 64 dX11_share_55 rfl (fun c10 => ?_) (fun c10 => ?_)
          · replace hf := am_ifT c10 hf
            refine g_aload_n (pc := 64) 1 rfl dX11_share_64 rfl ?_
            refine g_getC (pc := 65) (e := 0) (in_11 hX.1 (by omega)) fr_X11_65 dX11_share_65 rfl ?_
            refine g_aload (pc := 68) 0 rfl dX11_share_68 ?_
            refine g_iload_n (pc := 70) 3 rfl dX11_share_70 rfl ?_
            refine g_iload_n (pc := 71) 4 rfl dX11_share_71 rfl ?_
            refine g_iload (pc := 72) 5 rfl dX11_share_72 ?_
            obtain ⟨p11, hp11, hf⟩ := am_bd hf
            refine g_cV (pc := 74) (As := [.ref (am_ad X 3 a2), .int v2, .int v3, .int v4]) (st := []) (st1 := [.int (am_b p11.1)]) (in_7 hX.1 (by omega)) kk_7 mV_X7_findShared ln_X11_287 rfl (Nat.le_of_ble_eq_true rfl) (Nat.le_of_ble_eq_true rfl) (k_X7_findShared hX a2 v2 v3 v4 (by omega) σ hp11) dX11_share_74 rfl rfl ?_
            refine bt_ne (pc := 77) 87 dX11_share_77 rfl (fun c12 => ?_) (fun c12 => ?_)
            · replace hf := am_ifT c12 hf
              refine g_aload_n (pc := 87) 1 rfl dX11_share_87 rfl ?_
              refine g_aload_n (pc := 88) 1 rfl dX11_share_88 rfl ?_
              refine g_getC (pc := 89) (e := 0) (in_11 hX.1 (by omega)) fr_X11_65 dX11_share_89 rfl ?_
              refine g_getI (pc := 92) (in_7 hX.1 (by omega)) fr_X11_272 dX11_share_92 ?_
              obtain ⟨p13, hp13, hf⟩ := am_bd hf
              refine g_cV (pc := 95) (As := [.int (p11.2.1 7 0 8)]) (st := []) (st1 := [.int p13.1]) (in_11 hX.1 (by omega)) kk_11 mV_X11_answer ln_X11_176 rfl (Nat.le_of_ble_eq_true rfl) (Nat.le_of_ble_eq_true rfl) (k_X11_answer hX (p11.2.1 7 0 8) p11.2 hp13) dX11_share_95 rfl rfl ?_
              have ho := Option.some.inj hf
              subst ho
              exact g_ireturn (pc := 98) (st := []) rfl dX11_share_98 hk
            replace hf := am_ifF c12 hf
            refine g_aload_n (pc := 80) 1 rfl dX11_share_80 rfl ?_
            refine g_bipush (pc := 81) (v := 9) dX11_share_81 (by decide) ?_
            obtain ⟨p14, hp14, hf⟩ := am_bd hf
            refine g_cV (pc := 83) (As := [.int 9]) (st := []) (st1 := [.int p14.1]) (in_11 hX.1 (by omega)) kk_11 mV_X11_none ln_X11_124 rfl (Nat.le_of_ble_eq_true rfl) (Nat.le_of_ble_eq_true rfl) (k_X11_none hX 9 p11.2 hp14) dX11_share_83 rfl rfl ?_
            have ho := Option.some.inj hf
            subst ho
            exact g_ireturn (pc := 86) (st := []) rfl dX11_share_86 hk
          replace hf := am_ifF c10 hf
          exact am_sub [1] rfl (q_X11_share_58 hX σ hf hk)
        replace hf := am_ifF c8 hf
        exact am_sub [1] rfl (q_X11_share_58 hX σ hf hk)
      replace hf := am_ifF c6 hf
      exact am_sub [1] rfl (q_X11_share_58 hX σ hf hk)
    replace hf := am_ifF c3 hf
    exact am_sub [1] rfl (q_X11_share_22 hX σ hf hk)
theorem k_X11_share {X : am_X} (hX : am_wC X) (v1 : Int32) (v2 : Int32) (v3 : Int32) (v4 : Int32) (σ : am_H) {o : Int32 × am_H} (hf : f_X11_share v1 v2 v3 v4 σ = some o) : am_C X gm_X11_share [.ref (am_ad X 11 0), .int v1, .int v2, .int v3, .int v4] σ (am_is (some (.int o.1)) o.2) :=
  am_ofG rfl (Nat.le_of_ble_eq_true rfl) rfl (q_X11_share hX v1 v2 v3 v4 σ hf ⟨rfl, rfl⟩)
theorem dX11_shared_0 : decode cX11_shared 0 = .ok (.iload_n 1, 1) := by decide +kernel
theorem dX11_shared_1 : decode cX11_shared 1 = .ok (.ifCond .lt 14, 3) := by decide +kernel
theorem dX11_shared_4 : decode cX11_shared 4 = .ok (.iload_n 1, 1) := by decide +kernel
theorem dX11_shared_5 : decode cX11_shared 5 = .ok (.aload_n 0, 1) := by decide +kernel
theorem dX11_shared_6 : decode cX11_shared 6 = .ok (.getfield 65, 3) := by decide +kernel
theorem dX11_shared_9 : decode cX11_shared 9 = .ok (.getfield 291, 3) := by decide +kernel
theorem dX11_shared_12 : decode cX11_shared 12 = .ok (.if_icmp .lt 10, 3) := by decide +kernel
theorem dX11_shared_15 : decode cX11_shared 15 = .ok (.aload_n 0, 1) := by decide +kernel
theorem dX11_shared_16 : decode cX11_shared 16 = .ok (.bipush 8, 2) := by decide +kernel
theorem dX11_shared_18 : decode cX11_shared 18 = .ok (.invokevirtual 124, 3) := by decide +kernel
theorem dX11_shared_21 : decode cX11_shared 21 = .ok (.ireturn, 1) := by decide +kernel
theorem dX11_shared_22 : decode cX11_shared 22 = .ok (.aload_n 0, 1) := by decide +kernel
theorem dX11_shared_23 : decode cX11_shared 23 = .ok (.aload_n 0, 1) := by decide +kernel
theorem dX11_shared_24 : decode cX11_shared 24 = .ok (.getfield 65, 3) := by decide +kernel
theorem dX11_shared_27 : decode cX11_shared 27 = .ok (.getfield 294, 3) := by decide +kernel
theorem dX11_shared_30 : decode cX11_shared 30 = .ok (.iload_n 1, 1) := by decide +kernel
theorem dX11_shared_31 : decode cX11_shared 31 = .ok (.iaload, 1) := by decide +kernel
theorem dX11_shared_32 : decode cX11_shared 32 = .ok (.invokevirtual 176, 3) := by decide +kernel
theorem dX11_shared_35 : decode cX11_shared 35 = .ok (.ireturn, 1) := by decide +kernel
noncomputable def f_X11_shared_15 (σ : am_H) : Option (Int32 × am_H) :=
  (f_X11_none 8 σ).bind fun p1 =>
  some (p1.1, p1.2)
set_option maxRecDepth 100000 in
set_option maxHeartbeats 4000000 in
theorem q_X11_shared_15 {X : am_X} (hX : am_wC X) {Q : Option Value → am_H → Prop} (σ : am_H) {o : Int32 × am_H} (hf : f_X11_shared_15 σ = some o) (hk : Q (some (.int o.1)) o.2) : am_G X gm_X11_shared Q 15 [(0, .ref (am_ad X 11 0))] [] σ := by
  unfold f_X11_shared_15 at hf
  refine g_aload_n (pc := 15) 0 rfl dX11_shared_15 rfl ?_
  refine g_bipush (pc := 16) (v := 8) dX11_shared_16 (by decide) ?_
  obtain ⟨p1, hp1, hf⟩ := am_bd hf
  refine g_cV (pc := 18) (As := [.int 8]) (st := []) (st1 := [.int p1.1]) (in_11 hX.1 (by omega)) kk_11 mV_X11_none ln_X11_124 rfl (Nat.le_of_ble_eq_true rfl) (Nat.le_of_ble_eq_true rfl) (k_X11_none hX 8 σ hp1) dX11_shared_18 rfl rfl ?_
  have ho := Option.some.inj hf
  subst ho
  exact g_ireturn (pc := 21) (st := []) rfl dX11_shared_21 hk
noncomputable def f_X11_shared (v1 : Int32) (σ : am_H) : Option (Int32 × am_H) :=
  if v1 < 0 then
   (f_X11_shared_15 σ)
  else
  if v1 < (σ.1 7 0 14) then
   ((am_ix 6 v1).bind fun j3 =>
   (f_X11_answer (σ.1 813 0 j3) σ).bind fun p4 =>
   some (p4.1, p4.2))
  else
  f_X11_shared_15 σ
set_option maxRecDepth 100000 in
set_option maxHeartbeats 4000000 in
theorem q_X11_shared {X : am_X} (hX : am_wC X) {Q : Option Value → am_H → Prop} (v1 : Int32) (σ : am_H) {o : Int32 × am_H} (hf : f_X11_shared v1 σ = some o) (hk : Q (some (.int o.1)) o.2) : am_G X gm_X11_shared Q 0 [(0, .ref (am_ad X 11 0)), (1, .int v1)] [] σ := by
  unfold f_X11_shared at hf
  refine g_iload_n (pc := 0) 1 rfl dX11_shared_0 rfl ?_
  refine bz_lt (pc := 1) 15 dX11_shared_1 rfl (fun c1 => ?_) (fun c1 => ?_)
  · replace hf := am_ifT c1 hf
    exact am_sub [0] rfl (q_X11_shared_15 hX σ hf hk)
  replace hf := am_ifF c1 hf
  refine g_iload_n (pc := 4) 1 rfl dX11_shared_4 rfl ?_
  refine g_aload_n (pc := 5) 0 rfl dX11_shared_5 rfl ?_
  refine g_getC (pc := 6) (e := 0) (in_11 hX.1 (by omega)) fr_X11_65 dX11_shared_6 rfl ?_
  refine g_getI (pc := 9) (in_7 hX.1 (by omega)) fr_X11_291 dX11_shared_9 ?_
  refine bi_lt (pc := 12) 22 dX11_shared_12 rfl (fun c2 => ?_) (fun c2 => ?_)
  · replace hf := am_ifT c2 hf
    refine g_aload_n (pc := 22) 0 rfl dX11_shared_22 rfl ?_
    refine g_aload_n (pc := 23) 0 rfl dX11_shared_23 rfl ?_
    refine g_getC (pc := 24) (e := 0) (in_11 hX.1 (by omega)) fr_X11_65 dX11_shared_24 rfl ?_
    refine g_getC (pc := 27) (e := 0) (in_7 hX.1 (by omega)) fr_X11_294 dX11_shared_27 rfl ?_
    refine g_iload_n (pc := 30) 1 rfl dX11_shared_30 rfl ?_
    obtain ⟨j3, hj3, hf⟩ := am_bd hf
    have gj3 := am_ix_lt hj3
    refine g_aI (pc := 31) (in_813 hX.1 (by omega)) ak_813 hj3 dX11_shared_31 ?_
    obtain ⟨p4, hp4, hf⟩ := am_bd hf
    refine g_cV (pc := 32) (As := [.int (σ.1 813 0 j3)]) (st := []) (st1 := [.int p4.1]) (in_11 hX.1 (by omega)) kk_11 mV_X11_answer ln_X11_176 rfl (Nat.le_of_ble_eq_true rfl) (Nat.le_of_ble_eq_true rfl) (k_X11_answer hX (σ.1 813 0 j3) σ hp4) dX11_shared_32 rfl rfl ?_
    have ho := Option.some.inj hf
    subst ho
    exact g_ireturn (pc := 35) (st := []) rfl dX11_shared_35 hk
  replace hf := am_ifF c2 hf
  exact am_sub [0] rfl (q_X11_shared_15 hX σ hf hk)
theorem k_X11_shared {X : am_X} (hX : am_wC X) (v1 : Int32) (σ : am_H) {o : Int32 × am_H} (hf : f_X11_shared v1 σ = some o) : am_C X gm_X11_shared [.ref (am_ad X 11 0), .int v1] σ (am_is (some (.int o.1)) o.2) :=
  am_ofG rfl (Nat.le_of_ble_eq_true rfl) rfl (q_X11_shared hX v1 σ hf ⟨rfl, rfl⟩)
theorem dX11_areTrays_0 : decode cX11_areTrays 0 = .ok (.aload_n 0, 1) := by decide +kernel
theorem dX11_areTrays_1 : decode cX11_areTrays 1 = .ok (.iload_n 1, 1) := by decide +kernel
theorem dX11_areTrays_2 : decode cX11_areTrays 2 = .ok (.invokevirtual 100, 3) := by decide +kernel
theorem dX11_areTrays_5 : decode cX11_areTrays 5 = .ok (.ifnull 15, 3) := by decide +kernel
theorem dX11_areTrays_8 : decode cX11_areTrays 8 = .ok (.aload_n 0, 1) := by decide +kernel
theorem dX11_areTrays_9 : decode cX11_areTrays 9 = .ok (.iload_n 2, 1) := by decide +kernel
theorem dX11_areTrays_10 : decode cX11_areTrays 10 = .ok (.invokevirtual 100, 3) := by decide +kernel
theorem dX11_areTrays_13 : decode cX11_areTrays 13 = .ok (.ifnull 7, 3) := by decide +kernel
theorem dX11_areTrays_16 : decode cX11_areTrays 16 = .ok (.iconst 1, 1) := by decide +kernel
theorem dX11_areTrays_17 : decode cX11_areTrays 17 = .ok (.goto 4, 3) := by decide +kernel
theorem dX11_areTrays_20 : decode cX11_areTrays 20 = .ok (.iconst 0, 1) := by decide +kernel
theorem dX11_areTrays_21 : decode cX11_areTrays 21 = .ok (.ireturn, 1) := by decide +kernel
noncomputable def f_X11_areTrays (v1 : Int32) (v2 : Int32) (σ : am_H) : Option (Bool) :=
  (f_X11_trayOf v1 σ).bind fun p1 =>
  am_nn 5 p1
   (some false)
   (fun a2 =>
   (f_X11_trayOf v2 σ).bind fun p3 =>
   am_nn 5 p3
    (some false)
    (fun a4 =>
    some true))
set_option maxRecDepth 100000 in
set_option maxHeartbeats 4000000 in
theorem q_X11_areTrays {X : am_X} (hX : am_wC X) {Q : Option Value → am_H → Prop} (v1 : Int32) (v2 : Int32) (σ : am_H) {o : Bool} (hf : f_X11_areTrays v1 v2 σ = some o) (hk : Q (some (.int (am_b o))) σ) : am_G X gm_X11_areTrays Q 0 [(0, .ref (am_ad X 11 0)), (1, .int v1), (2, .int v2)] [] σ := by
  unfold f_X11_areTrays at hf
  refine g_aload_n (pc := 0) 0 rfl dX11_areTrays_0 rfl ?_
  refine g_iload_n (pc := 1) 1 rfl dX11_areTrays_1 rfl ?_
  obtain ⟨p1, hp1, hf⟩ := am_bd hf
  have hq := am_nn_c hf
  clear hf
  rcases hq with ⟨ep1, hf⟩ | ⟨a2, ep1, ga2, hf⟩
  · subst ep1
    refine g_cV (pc := 2) (As := [.int v1]) (st := []) (st1 := [.null]) (in_11 hX.1 (by omega)) kk_11 mV_X11_trayOf ln_X11_100 rfl (Nat.le_of_ble_eq_true rfl) (Nat.le_of_ble_eq_true rfl) (k_X11_trayOf hX v1 σ hp1) dX11_areTrays_2 rfl rfl ?_
    refine g_ifnullN (pc := 5) 20 dX11_areTrays_5 rfl ?_
    refine g_iconst (pc := 20) (v := 0) dX11_areTrays_20 (by decide) ?_
    have ho := Option.some.inj hf
    subst ho
    exact g_zreturn (pc := 21) (st := []) (x := false) rfl dX11_areTrays_21 hk
  · subst ep1
    refine g_cV (pc := 2) (As := [.int v1]) (st := []) (st1 := [.ref (am_ad X 8 a2)]) (in_11 hX.1 (by omega)) kk_11 mV_X11_trayOf ln_X11_100 rfl (Nat.le_of_ble_eq_true rfl) (Nat.le_of_ble_eq_true rfl) (k_X11_trayOf hX v1 σ hp1) dX11_areTrays_2 rfl rfl ?_
    refine g_ifnull (pc := 5) dX11_areTrays_5 ?_
    refine g_aload_n (pc := 8) 0 rfl dX11_areTrays_8 rfl ?_
    refine g_iload_n (pc := 9) 2 rfl dX11_areTrays_9 rfl ?_
    obtain ⟨p3, hp3, hf⟩ := am_bd hf
    have hq := am_nn_c hf
    clear hf
    rcases hq with ⟨ep3, hf⟩ | ⟨a4, ep3, ga4, hf⟩
    · subst ep3
      refine g_cV (pc := 10) (As := [.int v2]) (st := []) (st1 := [.null]) (in_11 hX.1 (by omega)) kk_11 mV_X11_trayOf ln_X11_100 rfl (Nat.le_of_ble_eq_true rfl) (Nat.le_of_ble_eq_true rfl) (k_X11_trayOf hX v2 σ hp3) dX11_areTrays_10 rfl rfl ?_
      refine g_ifnullN (pc := 13) 20 dX11_areTrays_13 rfl ?_
      refine g_iconst (pc := 20) (v := 0) dX11_areTrays_20 (by decide) ?_
      have ho := Option.some.inj hf
      subst ho
      exact g_zreturn (pc := 21) (st := []) (x := false) rfl dX11_areTrays_21 hk
    · subst ep3
      refine g_cV (pc := 10) (As := [.int v2]) (st := []) (st1 := [.ref (am_ad X 8 a4)]) (in_11 hX.1 (by omega)) kk_11 mV_X11_trayOf ln_X11_100 rfl (Nat.le_of_ble_eq_true rfl) (Nat.le_of_ble_eq_true rfl) (k_X11_trayOf hX v2 σ hp3) dX11_areTrays_10 rfl rfl ?_
      refine g_ifnull (pc := 13) dX11_areTrays_13 ?_
      refine g_iconst (pc := 16) (v := 1) dX11_areTrays_16 (by decide) ?_
      refine g_goto (pc := 17) 21 dX11_areTrays_17 rfl ?_
      have ho := Option.some.inj hf
      subst ho
      exact g_zreturn (pc := 21) (st := []) (x := true) rfl dX11_areTrays_21 hk
theorem k_X11_areTrays {X : am_X} (hX : am_wC X) (v1 : Int32) (v2 : Int32) (σ : am_H) {o : Bool} (hf : f_X11_areTrays v1 v2 σ = some o) : am_C X gm_X11_areTrays [.ref (am_ad X 11 0), .int v1, .int v2] σ (am_is (some (.int (am_b o))) σ) :=
  am_ofG rfl (Nat.le_of_ble_eq_true rfl) rfl (q_X11_areTrays hX v1 v2 σ hf ⟨rfl, rfl⟩)
