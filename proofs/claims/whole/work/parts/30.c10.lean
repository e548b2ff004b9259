theorem dX11_table_0 : decode cX11_table 0 = .ok (.aload_n 0, 1) := by decide +kernel
theorem dX11_table_1 : decode cX11_table 1 = .ok (.iload_n 2, 1) := by decide +kernel
theorem dX11_table_2 : decode cX11_table 2 = .ok (.invokevirtual 100, 3) := by decide +kernel
theorem dX11_table_5 : decode cX11_table 5 = .ok (.astore 5, 2) := by decide +kernel
theorem dX11_table_7 : decode cX11_table 7 = .ok (.aload 5, 2) := by decide +kernel
theorem dX11_table_9 : decode cX11_table 9 = .ok (.ifnonnull 9, 3) := by decide +kernel
theorem dX11_table_12 : decode cX11_table 12 = .ok (.aload_n 0, 1) := by decide +kernel
theorem dX11_table_13 : decode cX11_table 13 = .ok (.iconst 1, 1) := by decide +kernel
theorem dX11_table_14 : decode cX11_table 14 = .ok (.invokevirtual 124, 3) := by decide +kernel
theorem dX11_table_17 : decode cX11_table 17 = .ok (.ireturn, 1) := by decide +kernel
theorem dX11_table_18 : decode cX11_table 18 = .ok (.aload_n 0, 1) := by decide +kernel
theorem dX11_table_19 : decode cX11_table 19 = .ok (.iload_n 1, 1) := by decide +kernel
theorem dX11_table_20 : decode cX11_table 20 = .ok (.invokevirtual 159, 3) := by decide +kernel
theorem dX11_table_23 : decode cX11_table 23 = .ok (.astore 6, 2) := by decide +kernel
theorem dX11_table_25 : decode cX11_table 25 = .ok (.aload 6, 2) := by decide +kernel
theorem dX11_table_27 : decode cX11_table 27 = .ok (.ifnonnull 9, 3) := by decide +kernel
theorem dX11_table_30 : decode cX11_table 30 = .ok (.aload_n 0, 1) := by decide +kernel
theorem dX11_table_31 : decode cX11_table 31 = .ok (.iconst 2, 1) := by decide +kernel
theorem dX11_table_32 : decode cX11_table 32 = .ok (.invokevirtual 124, 3) := by decide +kernel
theorem dX11_table_35 : decode cX11_table 35 = .ok (.ireturn, 1) := by decide +kernel
theorem dX11_table_36 : decode cX11_table 36 = .ok (.aload 5, 2) := by decide +kernel
theorem dX11_table_38 : decode cX11_table 38 = .ok (.invokevirtual 132, 3) := by decide +kernel
theorem dX11_table_41 : decode cX11_table 41 = .ok (.ifCond .eq 9, 3) := by decide +kernel
theorem dX11_table_44 : decode cX11_table 44 = .ok (.aload_n 0, 1) := by decide +kernel
theorem dX11_table_45 : decode cX11_table 45 = .ok (.iconst 3, 1) := by decide +kernel
theorem dX11_table_46 : decode cX11_table 46 = .ok (.invokevirtual 124, 3) := by decide +kernel
theorem dX11_table_49 : decode cX11_table 49 = .ok (.ireturn, 1) := by decide +kernel
theorem dX11_table_50 : decode cX11_table 50 = .ok (.iload 4, 2) := by decide +kernel
theorem dX11_table_52 : decode cX11_table 52 = .ok (.iconst 1, 1) := by decide +kernel
theorem dX11_table_53 : decode cX11_table 53 = .ok (.bipush 60, 2) := by decide +kernel
theorem dX11_table_55 : decode cX11_table 55 = .ok (.invokestatic 222, 3) := by decide +kernel
theorem dX11_table_58 : decode cX11_table 58 = .ok (.ifCond .eq 22, 3) := by decide +kernel
theorem dX11_table_61 : decode cX11_table 61 = .ok (.iload_n 3, 1) := by decide +kernel
theorem dX11_table_62 : decode cX11_table 62 = .ok (.invokestatic 226, 3) := by decide +kernel
theorem dX11_table_65 : decode cX11_table 65 = .ok (.ifCond .eq 15, 3) := by decide +kernel
theorem dX11_table_68 : decode cX11_table 68 = .ok (.iload_n 3, 1) := by decide +kernel
theorem dX11_table_69 : decode cX11_table 69 = .ok (.iload 4, 2) := by decide +kernel
theorem dX11_table_71 : decode cX11_table 71 = .ok (.iadd, 1) := by decide +kernel
theorem dX11_table_72 : decode cX11_table 72 = .ok (.iconst 1, 1) := by decide +kernel
theorem dX11_table_73 : decode cX11_table 73 = .ok (.isub, 1) := by decide +kernel
theorem dX11_table_74 : decode cX11_table 74 = .ok (.invokestatic 226, 3) := by decide +kernel
theorem dX11_table_77 : decode cX11_table 77 = .ok (.ifCond .ne 9, 3) := by decide +kernel
theorem dX11_table_80 : decode cX11_table 80 = .ok (.aload_n 0, 1) := by decide +kernel
theorem dX11_table_81 : decode cX11_table 81 = .ok (.iconst 5, 1) := by decide +kernel
theorem dX11_table_82 : decode cX11_table 82 = .ok (.invokevirtual 124, 3) := by decide +kernel
theorem dX11_table_85 : decode cX11_table 85 = .ok (.ireturn, 1) := by decide +kernel
theorem dX11_table_86 : decode cX11_table 86 = .ok (.aload 5, 2) := by decide +kernel
theorem dX11_table_88 : decode cX11_table 88 = .ok (.iconst 0, 1) := by decide +kernel
theorem dX11_table_89 : decode cX11_table 89 = .ok (.iload 4, 2) := by decide +kernel
theorem dX11_table_91 : decode cX11_table 91 = .ok (.invokevirtual 138, 3) := by decide +kernel
theorem dX11_table_94 : decode cX11_table 94 = .ok (.ifCond .ne 9, 3) := by decide +kernel
theorem dX11_table_97 : decode cX11_table 97 = .ok (.aload_n 0, 1) := by decide +kernel
theorem dX11_table_98 : decode cX11_table 98 = .ok (.iconst 4, 1) := by decide +kernel
theorem dX11_table_99 : decode cX11_table 99 = .ok (.invokevirtual 124, 3) := by decide +kernel
theorem dX11_table_102 : decode cX11_table 102 = .ok (.ireturn, 1) := by decide +kernel
theorem dX11_table_103 : decode cX11_table 103 = .ok (.iconst 0, 1) := by decide +kernel
theorem dX11_table_104 : decode cX11_table 104 = .ok (.istore 7, 2) := by decide +kernel
theorem dX11_table_106 : decode cX11_table 106 = .ok (.iload 7, 2) := by decide +kernel
theorem dX11_table_108 : decode cX11_table 108 = .ok (.iload 4, 2) := by decide +kernel
theorem dX11_table_110 : decode cX11_table 110 = .ok (.if_icmp .ge 39, 3) := by decide +kernel
theorem dX11_table_113 : decode cX11_table 113 = .ok (.aload 5, 2) := by decide +kernel
theorem dX11_table_115 : decode cX11_table 115 = .ok (.iload 7, 2) := by decide +kernel
theorem dX11_table_117 : decode cX11_table 117 = .ok (.invokevirtual 128, 3) := by decide +kernel
theorem dX11_table_120 : decode cX11_table 120 = .ok (.aload 6, 2) := by decide +kernel
theorem dX11_table_122 : decode cX11_table 122 = .ok (.iload_n 3, 1) := by decide +kernel
theorem dX11_table_123 : decode cX11_table 123 = .ok (.iload 7, 2) := by decide +kernel
theorem dX11_table_125 : decode cX11_table 125 = .ok (.iadd, 1) := by decide +kernel
theorem dX11_table_126 : decode cX11_table 126 = .ok (.i2l, 1) := by decide +kernel
theorem dX11_table_127 : decode cX11_table 127 = .ok (.iconst 1, 1) := by decide +kernel
theorem dX11_table_128 : decode cX11_table 128 = .ok (.invokevirtual 233, 3) := by decide +kernel
theorem dX11_table_131 : decode cX11_table 131 = .ok (.i2l, 1) := by decide +kernel
theorem dX11_table_132 : decode cX11_table 132 = .ok (.lcmp, 1) := by decide +kernel
theorem dX11_table_133 : decode cX11_table 133 = .ok (.ifCond .eq 10, 3) := by decide +kernel
theorem dX11_table_136 : decode cX11_table 136 = .ok (.aload_n 0, 1) := by decide +kernel
theorem dX11_table_137 : decode cX11_table 137 = .ok (.iload 7, 2) := by decide +kernel
theorem dX11_table_139 : decode cX11_table 139 = .ok (.invokevirtual 176, 3) := by decide +kernel
theorem dX11_table_142 : decode cX11_table 142 = .ok (.ireturn, 1) := by decide +kernel
theorem dX11_table_143 : decode cX11_table 143 = .ok (.iinc 7 1, 3) := by decide +kernel
theorem dX11_table_146 : decode cX11_table 146 = .ok (.goto (-40), 3) := by decide +kernel
theorem dX11_table_149 : decode cX11_table 149 = .ok (.aload_n 0, 1) := by decide +kernel
theorem dX11_table_150 : decode cX11_table 150 = .ok (.iconst (-1), 1) := by decide +kernel
theorem dX11_table_151 : decode cX11_table 151 = .ok (.invokevirtual 176, 3) := by decide +kernel
theorem dX11_table_154 : decode cX11_table 154 = .ok (.ireturn, 1) := by decide +kernel
noncomputable def f_X11_table_106 (v3 : Int32) (v4 : Int32) (r5 : Nat) (r6 : Nat) (v7 : Int32) (σ : am_H) : Option ((Int32) ⊕ ((Int32) ⊕ (Unit))) :=
  if v7 < v4 then
   ((f_X8_at r5 v7 σ).bind fun p2 =>
   (f_X3_heightAt r6 (Int32.toInt64 (v3 + v7)) true σ).bind fun p3 =>
   if p2 = (Int32.toInt64 p3) then
    (some (.inl (v7 + 1)))
   else
   some (.inr (.inl v7)))
  else
  some (.inr (.inr ()))
set_option maxRecDepth 100000 in
set_option maxHeartbeats 4000000 in
theorem q_X11_table_106 {X : am_X} (hX : am_wC X) {Q : Option Value → am_H → Prop} (v3 : Int32) (v4 : Int32) (r5 : Nat) (r6 : Nat) (v7 : Int32) (hr5 : r5 < 5) (hr6 : r6 < 3) (σ : am_H) {o : (Int32) ⊕ ((Int32) ⊕ (Unit))} (hf : f_X11_table_106 v3 v4 r5 r6 v7 σ = some o) (hk0 : ∀ s, o = .inl s → am_G X gm_X11_table Q 106 [(0, .ref (am_ad X 11 0)), (3, .int v3), (4, .int v4), (5, .ref (am_ad X 8 r5)), (6, .ref (am_ad X 3 r6)), (7, .int s)] [] σ) (hk1 : ∀ t, o = .inr (.inl t) → am_G X gm_X11_table Q 136 [(0, .ref (am_ad X 11 0)), (7, .int t)] [] σ) (hk2 : ∀ t, o = .inr (.inr t) → am_G X gm_X11_table Q 149 [(0, .ref (am_ad X 11 0))] [] σ) : am_G X gm_X11_table Q 106 [(0, .ref (am_ad X 11 0)), (3, .int v3), (4, .int v4), (5, .ref (am_ad X 8 r5)), (6, .ref (am_ad X 3 r6)), (7, .int v7)] [] σ := by
  unfold f_X11_table_106 at hf
  refine g_iload (pc := 106) 5 rfl dX11_table_106 ?_
  refine g_iload (pc := 108) 2 rfl dX11_table_108 ?_
  refine bi_ge (pc := 110) 149 dX11_table_110 rfl (fun c1 => ?_) (fun c1 => ?_)
  · replace hf := am_ifT c1 hf
    refine g_aload (pc := 113) 3 rfl dX11_table_113 ?_
    refine g_iload (pc := 115) 5 rfl dX11_table_115 ?_
    obtain ⟨p2, hp2, hf⟩ := am_bd hf
    refine g_cV (pc := 117) (As := [.int v7]) (st := []) (st1 := [.long p2]) (in_8 hX.1 (by omega)) kk_8 mV_X8_at ln_X11_128 rfl (Nat.le_of_ble_eq_true rfl) (Nat.le_of_ble_eq_true rfl) (k_X8_at hX r5 v7 (by omega) σ hp2) dX11_table_117 rfl rfl ?_
    refine g_aload (pc := 120) 4 rfl dX11_table_120 ?_
    refine g_iload_n (pc := 122) 1 rfl dX11_table_122 rfl ?_
    refine g_iload (pc := 123) 5 rfl dX11_table_123 ?_
    refine g_iadd (pc := 125) dX11_table_125 ?_
    refine g_i2l (pc := 126) dX11_table_126 ?_
    refine g_iconst (pc := 127) (v := 1) dX11_table_127 (by decide) ?_
    obtain ⟨p3, hp3, hf⟩ := am_bd hf
    refine g_cV (pc := 128) (As := [.long (Int32.toInt64 (v3 + v7)), .int (am_b true)]) (st := [.long p2]) (st1 := [.int p3, .long p2]) (in_3 hX.1 (by omega)) kk_3 mV_X3_heightAt ln_X11_233 rfl (Nat.le_of_ble_eq_true rfl) (Nat.le_of_ble_eq_true rfl) (k_X3_heightAt hX r6 (Int32.toInt64 (v3 + v7)) true (by omega) σ hp3) dX11_table_128 rfl rfl ?_
    refine g_i2l (pc := 131) dX11_table_131 ?_
    refine g_lcm (pc := 132) dX11_table_132 ?_
    refine bl_eq (pc := 133) 143 dX11_table_133 rfl (fun c4 => ?_) (fun c4 => ?_)
    · replace hf := am_ifT c4 hf
      refine g_iinc (pc := 143) (v := (v7 + 1)) 5 [(7, .int (v7 + 1)), (0, .ref (am_ad X 11 0)), (3, .int v3), (4, .int v4), (5, .ref (am_ad X 8 r5)), (6, .ref (am_ad X 3 r6))] dX11_table_143 rfl rfl (Nat.le_of_ble_eq_true rfl) rfl ?_
      refine g_goto (pc := 146) 106 dX11_table_146 rfl ?_
      have hz := hk0 _ (Option.some.inj hf).symm
      exact am_sub [1, 2, 3, 4, 5, 0] rfl hz
    replace hf := am_ifF c4 hf
    have hz := hk1 _ (Option.some.inj hf).symm
    exact am_sub [0, 5] rfl hz
  replace hf := am_ifF c1 hf
  have hz := hk2 _ (Option.some.inj hf).symm
  exact am_sub [0] rfl hz
set_option maxRecDepth 100000 in
set_option maxHeartbeats 4000000 in
theorem l_X11_table_106 {X : am_X} (hX : am_wC X) {Q : Option Value → am_H → Prop} (v3 : Int32) (v4 : Int32) (r5 : Nat) (r6 : Nat) (hr5 : r5 < 5) (hr6 : r6 < 3) (σ : am_H) (s : Int32) {o : (Int32) ⊕ (Unit)} (hf : am_loop (fun s => f_X11_table_106 v3 v4 r5 r6 s σ) s = some o) (hk1 : ∀ t, o = (.inl t) → am_G X gm_X11_table Q 136 [(0, .ref (am_ad X 11 0)), (7, .int t)] [] σ) (hk2 : ∀ t, o = (.inr t) → am_G X gm_X11_table Q 149 [(0, .ref (am_ad X 11 0))] [] σ) : am_G X gm_X11_table Q 106 [(0, .ref (am_ad X 11 0)), (3, .int v3), (4, .int v4), (5, .ref (am_ad X 8 r5)), (6, .ref (am_ad X 3 r6)), (7, .int s)] [] σ := by
  refine am_loop_ind (P := fun s => am_G X gm_X11_table Q 106 [(0, .ref (am_ad X 11 0)), (3, .int v3), (4, .int v4), (5, .ref (am_ad X 8 r5)), (6, .ref (am_ad X 3 r6)), (7, .int s)] [] σ) (K := fun r => r = o) ?_ hf rfl
  intro s o1 hb hi hr
  exact q_X11_table_106 hX v3 v4 r5 r6 s  hr5 hr6 σ hb hi (fun t e => hk1 t (hr _ e).symm) (fun t e => hk2 t (hr _ e).symm)
noncomputable def f_X11_table_80 (σ : am_H) : Option (Int32 × am_H) :=
  (f_X11_none 5 σ).bind fun p1 =>
  some (p1.1, p1.2)
set_option maxRecDepth 100000 in
set_option maxHeartbeats 4000000 in
theorem q_X11_table_80 {X : am_X} (hX : am_wC X) {Q : Option Value → am_H → Prop} (σ : am_H) {o : Int32 × am_H} (hf : f_X11_table_80 σ = some o) (hk : Q (some (.int o.1)) o.2) : am_G X gm_X11_table Q 80 [(0, .ref (am_ad X 11 0))] [] σ := by
  unfold f_X11_table_80 at hf
  refine g_aload_n (pc := 80) 0 rfl dX11_table_80 rfl ?_
  refine g_iconst (pc := 81) (v := 5) dX11_table_81 (by decide) ?_
  obtain ⟨p1, hp1, hf⟩ := am_bd hf
  refine g_cV (pc := 82) (As := [.int 5]) (st := []) (st1 := [.int p1.1]) (in_11 hX.1 (by omega)) kk_11 mV_X11_none ln_X11_124 rfl (Nat.le_of_ble_eq_true rfl) (Nat.le_of_ble_eq_true rfl) (k_X11_none hX 5 σ hp1) dX11_table_82 rfl rfl ?_
  have ho := Option.some.inj hf
  subst ho
  exact g_ireturn (pc := 85) (st := []) rfl dX11_table_85 hk
noncomputable def f_X11_table (v1 : Int32) (v2 : Int32) (v3 : Int32) (v4 : Int32) (σ : am_H) : Option (Int32 × am_H) :=
  (f_X11_trayOf v2 σ).bind fun p1 =>
  am_nn 5 p1
   ((f_X11_none 1 σ).bind fun p3 =>
   some (p3.1, p3.2))
   (fun a2 =>
   (f_X11_machineOf v1 σ).bind fun p4 =>
   am_nn 3 p4
    ((f_X11_none 2 σ).bind fun p6 =>
    some (p6.1, p6.2))
    (fun a5 =>
    (f_X8_isMissing a2 σ).bind fun p7 =>
    if p7 = true then
     ((f_X11_none 3 σ).bind fun p9 =>
     some (p9.1, p9.2))
    else
    (f_X11_isWithin v4 1 60 σ).bind fun p10 =>
    if p10 = true then
     ((f_X11_isHour v3 σ).bind fun p12 =>
     if p12 = true then
      ((f_X11_isHour ((v3 + v4) - 1) σ).bind fun p14 =>
      if p14 = true then
       ((f_X8_hasRun a2 0 v4 σ).bind fun p16 =>
       if p16 = true then
        ((am_loop (fun s => f_X11_table_106 v3 v4 a2 a5 s σ) 0).bind fun w18 =>
        Sum.elim (fun t18_0 =>
         (f_X11_answer t18_0 σ).bind fun p19 =>
         some (p19.1, p19.2)) (fun u18_0 =>
         (f_X11_answer (-1) σ).bind fun p20 =>
         some (p20.1, p20.2)) w18)
       else
       (f_X11_none 4 σ).bind fun p21 =>
       some (p21.1, p21.2))
      else
      f_X11_table_80 σ)
     else
     f_X11_table_80 σ)
    else
    f_X11_table_80 σ))
set_option maxRecDepth 100000 in
set_option maxHeartbeats 4000000 in
theorem q_X11_table {X : am_X} (hX : am_wC X) {Q : Option Value → am_H → Prop} (v1 : Int32) (v2 : Int32) (v3 : Int32) (v4 : Int32) (σ : am_H) {o : Int32 × am_H} (hf : f_X11_table v1 v2 v3 v4 σ = some o) (hk : Q (some (.int o.1)) o.2) : am_G X gm_X11_table Q 0 [(0, .ref (am_ad X 11 0)), (1, .int v1), (2, .int v2), (3, .int v3), (4, .int v4)] [] σ := by
  unfold f_X11_table at hf
  refine g_aload_n (pc := 0) 0 rfl dX11_table_0 rfl ?_
  refine g_iload_n (pc := 1) 2 rfl dX11_table_1 rfl ?_
  obtain ⟨p1, hp1, hf⟩ := am_bd hf
  have hq := am_nn_c hf
  clear hf
  rcases hq with ⟨ep1, hf⟩ | ⟨a2, ep1, ga2, hf⟩
  · subst ep1
    refine g_cV (pc := 2) (As := [.int v2]) (st := []) (st1 := [.null]) (in_11 hX.1 (by omega)) kk_11 mV_X11_trayOf ln_X11_100 rfl (Nat.le_of_ble_eq_true rfl) (Nat.le_of_ble_eq_true rfl) (k_X11_trayOf hX v2 σ hp1) dX11_table_2 rfl rfl ?_
    refine g_astoreN (pc := 5) [(5, .null), (0, .ref (am_ad X 11 0)), (1, .int v1), (2, .int v2), (3, .int v3), (4, .int v4)] dX11_table_5 (Nat.le_of_ble_eq_true rfl) rfl ?_
    refine g_aloadN (pc := 7) 0 rfl dX11_table_7 ?_
    refine g_ifnonnullN (pc := 9) dX11_table_9 ?_
    refine g_aload_n (pc := 12) 1 rfl dX11_table_12 rfl ?_
    refine g_iconst (pc := 13) (v := 1) dX11_table_13 (by decide) ?_
    obtain ⟨p3, hp3, hf⟩ := am_bd hf
    refine g_cV (pc := 14) (As := [.int 1]) (st := []) (st1 := [.int p3.1]) (in_11 hX.1 (by omega)) kk_11 mV_X11_none ln_X11_124 rfl (Nat.le_of_ble_eq_true rfl) (Nat.le_of_ble_eq_true rfl) (k_X11_none hX 1 σ hp3) dX11_table_14 rfl rfl ?_
    have ho := Option.some.inj hf
    subst ho
    exact g_ireturn (pc := 17) (st := []) rfl dX11_table_17 hk
  · subst ep1
    refine g_cV (pc := 2) (As := [.int v2]) (st := []) (st1 := [.ref (am_ad X 8 a2)]) (in_11 hX.1 (by omega)) kk_11 mV_X11_trayOf ln_X11_100 rfl (Nat.le_of_ble_eq_true rfl) (Nat.le_of_ble_eq_true rfl) (k_X11_trayOf hX v2 σ hp1) dX11_table_2 rfl rfl ?_
    refine g_astore (pc := 5) [(5, .ref (am_ad X 8 a2)), (0, .ref (am_ad X 11 0)), (1, .int v1), (2, .int v2), (3, .int v3), (4, .int v4)] dX11_table_5 (Nat.le_of_ble_eq_true rfl) rfl ?_
    refine g_aload (pc := 7) 0 rfl dX11_table_7 ?_
    refine g_ifnonnull (pc := 9) 18 dX11_table_9 rfl ?_
    refine g_aload_n (pc := 18) 1 rfl dX11_table_18 rfl ?_
    refine g_iload_n (pc := 19) 2 rfl dX11_table_19 rfl ?_
    obtain ⟨p4, hp4, hf⟩ := am_bd hf
    have hq := am_nn_c hf
    clear hf
    rcases hq with ⟨ep4, hf⟩ | ⟨a5, ep4, ga5, hf⟩
    · subst ep4
      refine g_cV (pc := 20) (As := [.int v1]) (st := []) (st1 := [.null]) (in_11 hX.1 (by omega)) kk_11 mV_X11_machineOf ln_X11_159 rfl (Nat.le_of_ble_eq_true rfl) (Nat.le_of_ble_eq_true rfl) (k_X11_machineOf hX v1 σ hp4) dX11_table_20 rfl rfl ?_
      refine g_astoreN (pc := 23) [(6, .null), (5, .ref (am_ad X 8 a2)), (0, .ref (am_ad X 11 0)), (1, .int v1), (2, .int v2), (3, .int v3), (4, .int v4)] dX11_table_23 (Nat.le_of_ble_eq_true rfl) rfl ?_
      refine g_aloadN (pc := 25) 0 rfl dX11_table_25 ?_
      refine g_ifnonnullN (pc := 27) dX11_table_27 ?_
      refine g_aload_n (pc := 30) 2 rfl dX11_table_30 rfl ?_
      refine g_iconst (pc := 31) (v := 2) dX11_table_31 (by decide) ?_
      obtain ⟨p6, hp6, hf⟩ := am_bd hf
      refine g_cV (pc := 32) (As := [.int 2]) (st := []) (st1 := [.int p6.1]) (in_11 hX.1 (by omega)) kk_11 mV_X11_none ln_X11_124 rfl (Nat.le_of_ble_eq_true rfl) (Nat.le_of_ble_eq_true rfl) (k_X11_none hX 2 σ hp6) dX11_table_32 rfl rfl ?_
      have ho := Option.some.inj hf
      subst ho
      exact g_ireturn (pc := 35) (st := []) rfl dX11_table_35 hk
    · subst ep4
      refine g_cV (pc := 20) (As := [.int v1]) (st := []) (st1 := [.ref (am_ad X 3 a5)]) (in_11 hX.1 (by omega)) kk_11 mV_X11_machineOf ln_X11_159 rfl (Nat.le_of_ble_eq_true rfl) (Nat.le_of_ble_eq_true rfl) (k_X11_machineOf hX v1 σ hp4) dX11_table_20 rfl rfl ?_
      refine g_astore (pc := 23) [(6, .ref (am_ad X 3 a5)), (5, .ref (am_ad X 8 a2)), (0, .ref (am_ad X 11 0)), (1, .int v1), (2, .int v2), (3, .int v3), (4, .int v4)] dX11_table_23 (Nat.le_of_ble_eq_true rfl) rfl ?_
      refine g_aload (pc := 25) 0 rfl dX11_table_25 ?_
      refine g_ifnonnull (pc := 27) 36 dX11_table_27 rfl ?_
      refine g_aload (pc := 36) 1 rfl dX11_table_36 ?_
      obtain ⟨p7, hp7, hf⟩ := am_bd hf
      refine g_cV (pc := 38) (As := []) (st := []) (st1 := [.int (am_b p7)]) (in_8 hX.1 (by omega)) kk_8 mV_X8_isMissing ln_X11_132 rfl (Nat.le_of_ble_eq_true rfl) (Nat.le_of_ble_eq_true rfl) (k_X8_isMissing hX a2 (by omega) σ hp7) dX11_table_38 rfl rfl ?_
      refine bt_eq (pc := 41) 50 dX11_table_41 rfl (fun c8 => ?_) (fun c8 => ?_)
      · replace hf := am_ifT c8 hf
        refine g_aload_n (pc := 44) 2 rfl dX11_table_44 rfl ?_
        refine g_iconst (pc := 45) (v := 3) dX11_table_45 (by decide) ?_
        obtain ⟨p9, hp9, hf⟩ := am_bd hf
        refine g_cV (pc := 46) (As := [.int 3]) (st := []) (st1 := [.int p9.1]) (in_11 hX.1 (by omega)) kk_11 mV_X11_none ln_X11_124 rfl (Nat.le_of_ble_eq_true rfl) (Nat.le_of_ble_eq_true rfl) (k_X11_none hX 3 σ hp9) dX11_table_46 rfl rfl ?_
        have ho := Option.some.inj hf
        subst ho
        exact g_ireturn (pc := 49) (st := []) rfl dX11_table_49 hk
      replace hf := am_ifF c8 hf
      refine g_iload (pc := 50) 6 rfl dX11_table_50 ?_
      refine g_iconst (pc := 52) (v := 1) dX11_table_52 (by decide) ?_
      refine g_bipush (pc := 53) (v := 60) dX11_table_53 (by decide) ?_
      obtain ⟨p10, hp10, hf⟩ := am_bd hf
      refine g_cS (pc := 55) (As := [.int v4, .int 1, .int 60]) (st := []) (st1 := [.int (am_b p10)]) mS_X11_isWithin ln_X11_222 rfl (Nat.le_of_ble_eq_true rfl) (Nat.le_of_ble_eq_true rfl) (k_X11_isWithin hX v4 1 60 σ hp10) dX11_table_55 rfl rfl ?_
      refine bt_eq (pc := 58) 80 dX11_table_58 rfl (fun c11 => ?_) (fun c11 => ?_)
      · replace hf := am_ifT c11 hf
        refine g_iload_n (pc := 61) 5 rfl dX11_table_61 rfl ?_
        obtain ⟨p12, hp12, hf⟩ := am_bd hf
        refine g_cS (pc := 62) (As := [.int v3]) (st := []) (st1 := [.int (am_b p12)]) mS_X11_isHour ln_X11_226 rfl (Nat.le_of_ble_eq_true rfl) (Nat.le_of_ble_eq_true rfl) (k_X11_isHour hX v3 σ hp12) dX11_table_62 rfl rfl ?_
        refine bt_eq (pc := 65) 80 dX11_table_65 rfl (fun c13 => ?_) (fun c13 => ?_)
        · replace hf := am_ifT c13 hf
          refine g_iload_n (pc := 68) 5 rfl dX11_table_68 rfl ?_
          refine g_iload (pc := 69) 6 rfl dX11_table_69 ?_
          refine g_iadd (pc := 71) dX11_table_71 ?_
          refine g_iconst (pc := 72) (v := 1) dX11_table_72 (by decide) ?_
          refine g_isub (pc := 73) dX11_table_73 ?_
          obtain ⟨p14, hp14, hf⟩ := am_bd hf
          refine g_cS (pc := 74) (As := [.int ((v3 + v4) - 1)]) (st := []) (st1 := [.int (am_b p14)]) mS_X11_isHour ln_X11_226 rfl (Nat.le_of_ble_eq_true rfl) (Nat.le_of_ble_eq_true rfl) (k_X11_isHour hX ((v3 + v4) - 1) σ hp14) dX11_table_74 rfl rfl ?_
          refine bt_ne (pc := 77) 86 dX11_table_77 rfl (fun c15 => ?_) (fun c15 => ?_)
          · replace hf := am_ifT c15 hf
            refine g_aload (pc := 86) 1 rfl dX11_table_86 ?_
            refine g_iconst (pc := 88) (v := 0) dX11_table_88 (by decide) ?_
            refine g_iload (pc := 89) 6 rfl dX11_table_89 ?_
            obtain ⟨p16, hp16, hf⟩ := am_bd hf
            refine g_cV (pc := 91) (As := [.int 0, .int v4]) (st := []) (st1 := [.int (am_b p16)]) (in_8 hX.1 (by omega)) kk_8 mV_X8_hasRun ln_X11_138 rfl (Nat.le_of_ble_eq_true rfl) (Nat.le_of_ble_eq_true rfl) (k_X8_hasRun hX a2 0 v4 (by omega) σ hp16) dX11_table_91 rfl rfl ?_
            refine bt_ne (pc := 94) 103 dX11_table_94 rfl (fun c17 => ?_) (fun c17 => ?_)
            · replace hf := am_ifT c17 hf
              refine g_iconst (pc := 103) (v := 0) dX11_table_103 (by decide) ?_
              refine g_istore (pc := 104) [(7, .int 0), (6, .ref (am_ad X 3 a5)), (5, .ref (am_ad X 8 a2)), (0, .ref (am_ad X 11 0)), (1, .int v1), (2, .int v2), (3, .int v3), (4, .int v4)] dX11_table_104 (Nat.le_of_ble_eq_true rfl) rfl ?_
              obtain ⟨w18, hw18, hf⟩ := am_bd hf
              refine am_sub [3, 6, 7, 2, 1, 0] rfl (l_X11_table_106 hX v3 v4 a2 a5 (by omega) (by omega) σ 0 hw18 ?_ ?_)
              · intro t18_0 e
                subst e
                replace hf := am_elL hf
                refine g_aload_n (pc := 136) 0 rfl dX11_table_136 rfl ?_
                refine g_iload (pc := 137) 1 rfl dX11_table_137 ?_
                obtain ⟨p19, hp19, hf⟩ := am_bd hf
                refine g_cV (pc := 139) (As := [.int t18_0]) (st := []) (st1 := [.int p19.1]) (in_11 hX.1 (by omega)) kk_11 mV_X11_answer ln_X11_176 rfl (Nat.le_of_ble_eq_true rfl) (Nat.le_of_ble_eq_true rfl) (k_X11_answer hX t18_0 σ hp19) dX11_table_139 rfl rfl ?_
                have ho := Option.some.inj hf
                subst ho
                exact g_ireturn (pc := 142) (st := []) rfl dX11_table_142 hk
              · intro u18_0 e
                subst e
                replace hf := am_elR hf
                refine g_aload_n (pc := 149) 0 rfl dX11_table_149 rfl ?_
                refine g_iconst (pc := 150) (v := (-1)) dX11_table_150 (by decide) ?_
                obtain ⟨p20, hp20, hf⟩ := am_bd hf
                refine g_cV (pc := 151) (As := [.int (-1)]) (st := []) (st1 := [.int p20.1]) (in_11 hX.1 (by omega)) kk_11 mV_X11_answer ln_X11_176 rfl (Nat.le_of_ble_eq_true rfl) (Nat.le_of_ble_eq_true rfl) (k_X11_answer hX (-1) σ hp20) dX11_table_151 rfl rfl ?_
                have ho := Option.some.inj hf
                subst ho
                exact g_ireturn (pc := 154) (st := []) rfl dX11_table_154 hk
            replace hf := am_ifF c17 hf
            refine g_aload_n (pc := 97) 2 rfl dX11_table_97 rfl ?_
            refine g_iconst (pc := 98) (v := 4) dX11_table_98 (by decide) ?_
            obtain ⟨p21, hp21, hf⟩ := am_bd hf
            refine g_cV (pc := 99) (As := [.int 4]) (st := []) (st1 := [.int p21.1]) (in_11 hX.1 (by omega)) kk_11 mV_X11_none ln_X11_124 rfl (Nat.le_of_ble_eq_true rfl) (Nat.le_of_ble_eq_true rfl) (k_X11_none hX 4 σ hp21) dX11_table_99 rfl rfl ?_
            have ho := Option.some.inj hf
            subst ho
            exact g_ireturn (pc := 102) (st := []) rfl dX11_table_102 hk
          replace hf := am_ifF c15 hf
          exact am_sub [2] rfl (q_X11_table_80 hX σ hf hk)
        replace hf := am_ifF c13 hf
        exact am_sub [2] rfl (q_X11_table_80 hX σ hf hk)
      replace hf := am_ifF c11 hf
      exact am_sub [2] rfl (q_X11_table_80 hX σ hf hk)
theorem k_X11_table {X : am_X} (hX : am_wC X) (v1 : Int32) (v2 : Int32) (v3 : Int32) (v4 : Int32) (σ : am_H) {o : Int32 × am_H} (hf : f_X11_table v1 v2 v3 v4 σ = some o) : am_C X gm_X11_table [.ref (am_ad X 11 0), .int v1, .int v2, .int v3, .int v4] σ (am_is (some (.int o.1)) o.2) :=
  am_ofG rfl (Nat.le_of_ble_eq_true rfl) rfl (q_X11_table hX v1 v2 v3 v4 σ hf ⟨rfl, rfl⟩)
