theorem dX11_ask_0 : decode cX11_ask 0 = .ok (.iload 5, 2) := by decide +kernel
theorem dX11_ask_2 : decode cX11_ask 2 = .ok (.iconst (-1), 1) := by decide +kernel
theorem dX11_ask_3 : decode cX11_ask 3 = .ok (.if_icmp .ge 9, 3) := by decide +kernel
theorem dX11_ask_6 : decode cX11_ask 6 = .ok (.aload_n 0, 1) := by decide +kernel
theorem dX11_ask_7 : decode cX11_ask 7 = .ok (.iconst 2, 1) := by decide +kernel
theorem dX11_ask_8 : decode cX11_ask 8 = .ok (.invokevirtual 104, 3) := by decide +kernel
theorem dX11_ask_11 : decode cX11_ask 11 = .ok (.ireturn, 1) := by decide +kernel
theorem dX11_ask_12 : decode cX11_ask 12 = .ok (.iload_n 1, 1) := by decide +kernel
theorem dX11_ask_13 : decode cX11_ask 13 = .ok (.ldc_w 371, 3) := by decide +kernel
theorem dX11_ask_16 : decode cX11_ask 16 = .ok (.if_icmp .lt 19, 3) := by decide +kernel
theorem dX11_ask_19 : decode cX11_ask 19 = .ok (.iload_n 2, 1) := by decide +kernel
theorem dX11_ask_20 : decode cX11_ask 20 = .ok (.ldc_w 372, 3) := by decide +kernel
theorem dX11_ask_23 : decode cX11_ask 23 = .ok (.if_icmp .gt 12, 3) := by decide +kernel
theorem dX11_ask_26 : decode cX11_ask 26 = .ok (.iload_n 1, 1) := by decide +kernel
theorem dX11_ask_27 : decode cX11_ask 27 = .ok (.iload_n 2, 1) := by decide +kernel
theorem dX11_ask_28 : decode cX11_ask 28 = .ok (.if_icmp .gt 7, 3) := by decide +kernel
theorem dX11_ask_31 : decode cX11_ask 31 = .ok (.iconst 1, 1) := by decide +kernel
theorem dX11_ask_32 : decode cX11_ask 32 = .ok (.goto 4, 3) := by decide +kernel
theorem dX11_ask_35 : decode cX11_ask 35 = .ok (.iconst 0, 1) := by decide +kernel
theorem dX11_ask_36 : decode cX11_ask 36 = .ok (.istore 9, 2) := by decide +kernel
theorem dX11_ask_38 : decode cX11_ask 38 = .ok (.iload_n 3, 1) := by decide +kernel
theorem dX11_ask_39 : decode cX11_ask 39 = .ok (.iconst 0, 1) := by decide +kernel
theorem dX11_ask_40 : decode cX11_ask 40 = .ok (.iconst 5, 1) := by decide +kernel
theorem dX11_ask_41 : decode cX11_ask 41 = .ok (.invokestatic 222, 3) := by decide +kernel
theorem dX11_ask_44 : decode cX11_ask 44 = .ok (.ifCond .eq 18, 3) := by decide +kernel
theorem dX11_ask_47 : decode cX11_ask 47 = .ok (.iload 6, 2) := by decide +kernel
theorem dX11_ask_49 : decode cX11_ask 49 = .ok (.iconst 0, 1) := by decide +kernel
theorem dX11_ask_50 : decode cX11_ask 50 = .ok (.bipush 12, 2) := by decide +kernel
theorem dX11_ask_52 : decode cX11_ask 52 = .ok (.invokestatic 222, 3) := by decide +kernel
theorem dX11_ask_55 : decode cX11_ask 55 = .ok (.ifCond .eq 7, 3) := by decide +kernel
theorem dX11_ask_58 : decode cX11_ask 58 = .ok (.iconst 1, 1) := by decide +kernel
theorem dX11_ask_59 : decode cX11_ask 59 = .ok (.goto 4, 3) := by decide +kernel
theorem dX11_ask_62 : decode cX11_ask 62 = .ok (.iconst 0, 1) := by decide +kernel
theorem dX11_ask_63 : decode cX11_ask 63 = .ok (.istore 10, 2) := by decide +kernel
theorem dX11_ask_65 : decode cX11_ask 65 = .ok (.iload 9, 2) := by decide +kernel
theorem dX11_ask_67 : decode cX11_ask 67 = .ok (.ifCond .eq 30, 3) := by decide +kernel
theorem dX11_ask_70 : decode cX11_ask 70 = .ok (.iload 10, 2) := by decide +kernel
theorem dX11_ask_72 : decode cX11_ask 72 = .ok (.ifCond .eq 25, 3) := by decide +kernel
theorem dX11_ask_75 : decode cX11_ask 75 = .ok (.iload 7, 2) := by decide +kernel
theorem dX11_ask_77 : decode cX11_ask 77 = .ok (.iconst 0, 1) := by decide +kernel
theorem dX11_ask_78 : decode cX11_ask 78 = .ok (.bipush 23, 2) := by decide +kernel
theorem dX11_ask_80 : decode cX11_ask 80 = .ok (.invokestatic 222, 3) := by decide +kernel
theorem dX11_ask_83 : decode cX11_ask 83 = .ok (.ifCond .eq 14, 3) := by decide +kernel
theorem dX11_ask_86 : decode cX11_ask 86 = .ok (.iload 8, 2) := by decide +kernel
theorem dX11_ask_88 : decode cX11_ask 88 = .ok (.iconst 0, 1) := by decide +kernel
theorem dX11_ask_89 : decode cX11_ask 89 = .ok (.bipush 23, 2) := by decide +kernel
theorem dX11_ask_91 : decode cX11_ask 91 = .ok (.invokestatic 222, 3) := by decide +kernel
theorem dX11_ask_94 : decode cX11_ask 94 = .ok (.ifCond .ne 9, 3) := by decide +kernel
theorem dX11_ask_97 : decode cX11_ask 97 = .ok (.aload_n 0, 1) := by decide +kernel
theorem dX11_ask_98 : decode cX11_ask 98 = .ok (.iconst 5, 1) := by decide +kernel
theorem dX11_ask_99 : decode cX11_ask 99 = .ok (.invokevirtual 104, 3) := by decide +kernel
theorem dX11_ask_102 : decode cX11_ask 102 = .ok (.ireturn, 1) := by decide +kernel
theorem dX11_ask_103 : decode cX11_ask 103 = .ok (.aload_n 0, 1) := by decide +kernel
theorem dX11_ask_104 : decode cX11_ask 104 = .ok (.getfield 96, 3) := by decide +kernel
theorem dX11_ask_107 : decode cX11_ask 107 = .ok (.iload_n 1, 1) := by decide +kernel
theorem dX11_ask_108 : decode cX11_ask 108 = .ok (.putfield 373, 3) := by decide +kernel
theorem dX11_ask_111 : decode cX11_ask 111 = .ok (.aload_n 0, 1) := by decide +kernel
theorem dX11_ask_112 : decode cX11_ask 112 = .ok (.getfield 96, 3) := by decide +kernel
theorem dX11_ask_115 : decode cX11_ask 115 = .ok (.iload_n 2, 1) := by decide +kernel
theorem dX11_ask_116 : decode cX11_ask 116 = .ok (.putfield 376, 3) := by decide +kernel
theorem dX11_ask_119 : decode cX11_ask 119 = .ok (.aload_n 0, 1) := by decide +kernel
theorem dX11_ask_120 : decode cX11_ask 120 = .ok (.getfield 96, 3) := by decide +kernel
theorem dX11_ask_123 : decode cX11_ask 123 = .ok (.iload_n 3, 1) := by decide +kernel
theorem dX11_ask_124 : decode cX11_ask 124 = .ok (.putfield 379, 3) := by decide +kernel
theorem dX11_ask_127 : decode cX11_ask 127 = .ok (.aload_n 0, 1) := by decide +kernel
theorem dX11_ask_128 : decode cX11_ask 128 = .ok (.getfield 96, 3) := by decide +kernel
theorem dX11_ask_131 : decode cX11_ask 131 = .ok (.iload 4, 2) := by decide +kernel
theorem dX11_ask_133 : decode cX11_ask 133 = .ok (.putfield 382, 3) := by decide +kernel
theorem dX11_ask_136 : decode cX11_ask 136 = .ok (.aload_n 0, 1) := by decide +kernel
theorem dX11_ask_137 : decode cX11_ask 137 = .ok (.getfield 96, 3) := by decide +kernel
theorem dX11_ask_140 : decode cX11_ask 140 = .ok (.iload 5, 2) := by decide +kernel
theorem dX11_ask_142 : decode cX11_ask 142 = .ok (.putfield 385, 3) := by decide +kernel
theorem dX11_ask_145 : decode cX11_ask 145 = .ok (.aload_n 0, 1) := by decide +kernel
theorem dX11_ask_146 : decode cX11_ask 146 = .ok (.getfield 96, 3) := by decide +kernel
theorem dX11_ask_149 : decode cX11_ask 149 = .ok (.iload 6, 2) := by decide +kernel
theorem dX11_ask_151 : decode cX11_ask 151 = .ok (.putfield 388, 3) := by decide +kernel
theorem dX11_ask_154 : decode cX11_ask 154 = .ok (.aload_n 0, 1) := by decide +kernel
theorem dX11_ask_155 : decode cX11_ask 155 = .ok (.getfield 96, 3) := by decide +kernel
theorem dX11_ask_158 : decode cX11_ask 158 = .ok (.iload 7, 2) := by decide +kernel
theorem dX11_ask_160 : decode cX11_ask 160 = .ok (.putfield 391, 3) := by decide +kernel
theorem dX11_ask_163 : decode cX11_ask 163 = .ok (.aload_n 0, 1) := by decide +kernel
theorem dX11_ask_164 : decode cX11_ask 164 = .ok (.getfield 96, 3) := by decide +kernel
theorem dX11_ask_167 : decode cX11_ask 167 = .ok (.iload 8, 2) := by decide +kernel
theorem dX11_ask_169 : decode cX11_ask 169 = .ok (.putfield 394, 3) := by decide +kernel
theorem dX11_ask_172 : decode cX11_ask 172 = .ok (.aload_n 0, 1) := by decide +kernel
theorem dX11_ask_173 : decode cX11_ask 173 = .ok (.invokevirtual 112, 3) := by decide +kernel
theorem dX11_ask_176 : decode cX11_ask 176 = .ok (.ireturn, 1) := by decide +kernel
noncomputable def f_X11_ask_97 (σ : am_H) : Option (Bool × am_H) :=
  (f_X11_no 5 σ).bind fun p1 =>
  some (p1.1, p1.2)
set_option maxRecDepth 100000 in
set_option maxHeartbeats 4000000 in
theorem q_X11_ask_97 {X : am_X} (hX : am_wC X) {Q : Option Value → am_H → Prop} (σ : am_H) {o : Bool × am_H} (hf : f_X11_ask_97 σ = some o) (hk : Q (some (.int (am_b o.1))) o.2) : am_G X gm_X11_ask Q 97 [(0, .ref (am_ad X 11 0))] [] σ := by
  unfold f_X11_ask_97 at hf
  refine g_aload_n (pc := 97) 0 rfl dX11_ask_97 rfl ?_
  refine g_iconst (pc := 98) (v := 5) dX11_ask_98 (by decide) ?_
  obtain ⟨p1, hp1, hf⟩ := am_bd hf
  refine g_cV (pc := 99) (As := [.int 5]) (st := []) (st1 := [.int (am_b p1.1)]) (in_11 hX.1 (by omega)) kk_11 mV_X11_no ln_X11_104 rfl (Nat.le_of_ble_eq_true rfl) (Nat.le_of_ble_eq_true rfl) (k_X11_no hX 5 σ hp1) dX11_ask_99 rfl rfl ?_
  have ho := Option.some.inj hf
  subst ho
  exact g_zreturn (pc := 102) (st := []) (x := p1.1) rfl dX11_ask_102 hk
noncomputable def f_X11_ask_63 (v1 : Int32) (v2 : Int32) (v3 : Int32) (v4 : Bool) (v5 : Int32) (v6 : Int32) (v7 : Int32) (v8 : Int32) (v9 : Bool) (k0 : Bool) (σ : am_H) : Option (Bool × am_H) :=
  if v9 = true then
   (if k0 = true then
    ((f_X11_isWithin v7 0 23 σ).bind fun p3 =>
    if p3 = true then
     ((f_X11_isWithin v8 0 23 σ).bind fun p5 =>
     if p5 = true then
      ((some (am_wI σ 2 0 0 v1)).bind fun s7 =>
      (some (am_wI s7 2 0 1 v2)).bind fun s8 =>
      (some (am_wI s8 2 0 2 v3)).bind fun s9 =>
      (some (am_wI s9 2 0 3 (am_b v4))).bind fun s10 =>
      (some (am_wI s10 2 0 4 v5)).bind fun s11 =>
      (some (am_wI s11 2 0 5 v6)).bind fun s12 =>
      (some (am_wI s12 2 0 6 v7)).bind fun s13 =>
      (some (am_wI s13 2 0 7 v8)).bind fun s14 =>
      (f_X11_yes s14).bind fun p15 =>
      some (p15.1, p15.2))
     else
     f_X11_ask_97 σ)
    else
    f_X11_ask_97 σ)
   else
   f_X11_ask_97 σ)
  else
  f_X11_ask_97 σ
set_option maxRecDepth 100000 in
set_option maxHeartbeats 4000000 in
theorem q_X11_ask_63 {X : am_X} (hX : am_wC X) {Q : Option Value → am_H → Prop} (v1 : Int32) (v2 : Int32) (v3 : Int32) (v4 : Bool) (v5 : Int32) (v6 : Int32) (v7 : Int32) (v8 : Int32) (v9 : Bool) (k0 : Bool) (σ : am_H) {o : Bool × am_H} (hf : f_X11_ask_63 v1 v2 v3 v4 v5 v6 v7 v8 v9 k0 σ = some o) (hk : Q (some (.int (am_b o.1))) o.2) : am_G X gm_X11_ask Q 63 [(0, .ref (am_ad X 11 0)), (1, .int v1), (2, .int v2), (3, .int v3), (4, .int (am_b v4)), (5, .int v5), (6, .int v6), (7, .int v7), (8, .int v8), (9, .int (am_b v9))] [.int (am_b k0)] σ := by
  unfold f_X11_ask_63 at hf
  refine g_istore (pc := 63) [(10, .int (am_b k0)), (0, .ref (am_ad X 11 0)), (1, .int v1), (2, .int v2), (3, .int v3), (4, .int (am_b v4)), (5, .int v5), (6, .int v6), (7, .int v7), (8, .int v8), (9, .int (am_b v9))] dX11_ask_63 (Nat.le_of_ble_eq_true rfl) rfl ?_
  refine g_iload (pc := 65) 10 rfl dX11_ask_65 ?_
  refine bt_eq (pc := 67) 97 dX11_ask_67 rfl (fun c1 => ?_) (fun c1 => ?_)
  · replace hf := am_ifT c1 hf
    refine g_iload (pc := 70) 0 rfl dX11_ask_70 ?_
    refine bt_eq (pc := 72) 97 dX11_ask_72 rfl (fun c2 => ?_) (fun c2 => ?_)
    · replace hf := am_ifT c2 hf
      refine g_iload (pc := 75) 8 rfl dX11_ask_75 ?_
      refine g_iconst (pc := 77) (v := 0) dX11_ask_77 (by decide) ?_
      refine g_bipush (pc := 78) (v := 23) dX11_ask_78 (by decide) ?_
      obtain ⟨p3, hp3, hf⟩ := am_bd hf
      refine g_cS (pc := 80) (As := [.int v7, .int 0, .int 23]) (st := []) (st1 := [.int (am_b p3)]) mS_X11_isWithin ln_X11_222 rfl (Nat.le_of_ble_eq_true rfl) (Nat.le_of_ble_eq_true rfl) (k_X11_isWithin hX v7 0 23 σ hp3) dX11_ask_80 rfl rfl ?_
      refine bt_eq (pc := 83) 97 dX11_ask_83 rfl (fun c4 => ?_) (fun c4 => ?_)
      · replace hf := am_ifT c4 hf
        refine g_iload (pc := 86) 9 rfl dX11_ask_86 ?_
        refine g_iconst (pc := 88) (v := 0) dX11_ask_88 (by decide) ?_
        refine g_bipush (pc := 89) (v := 23) dX11_ask_89 (by decide) ?_
        obtain ⟨p5, hp5, hf⟩ := am_bd hf
        refine g_cS (pc := 91) (As := [.int v8, .int 0, .int 23]) (st := []) (st1 := [.int (am_b p5)]) mS_X11_isWithin ln_X11_222 rfl (Nat.le_of_ble_eq_true rfl) (Nat.le_of_ble_eq_true rfl) (k_X11_isWithin hX v8 0 23 σ hp5) dX11_ask_91 rfl rfl ?_
        refine bt_ne (pc := 94) 103 dX11_ask_94 rfl (fun c6 => ?_) (fun c6 => ?_)
        · replace hf := am_ifT c6 hf
          refine g_aload_n (pc := 103) 1 rfl dX11_ask_103 rfl ?_
          refine g_getC (pc := 104) (e := 0) (in_11 hX.1 (by omega)) fr_X11_96 dX11_ask_104 rfl ?_
          refine g_iload_n (pc := 107) 2 rfl dX11_ask_107 rfl ?_
          obtain ⟨s7, hs7, hf⟩ := am_bd hf
          refine g_setI (pc := 108) (in_2 hX.1 (by omega)) fr_X11_373 dX11_ask_108 (Option.some.inj hs7) ?_
          refine g_aload_n (pc := 111) 1 rfl dX11_ask_111 rfl ?_
          refine g_getC (pc := 112) (e := 0) (in_11 hX.1 (by omega)) fr_X11_96 dX11_ask_112 rfl ?_
          refine g_iload_n (pc := 115) 3 rfl dX11_ask_115 rfl ?_
          obtain ⟨s8, hs8, hf⟩ := am_bd hf
          refine g_setI (pc := 116) (in_2 hX.1 (by omega)) fr_X11_376 dX11_ask_116 (Option.some.inj hs8) ?_
          refine g_aload_n (pc := 119) 1 rfl dX11_ask_119 rfl ?_
          refine g_getC (pc := 120) (e := 0) (in_11 hX.1 (by omega)) fr_X11_96 dX11_ask_120 rfl ?_
          refine g_iload_n (pc := 123) 4 rfl dX11_ask_123 rfl ?_
          obtain ⟨s9, hs9, hf⟩ := am_bd hf
          refine g_setI (pc := 124) (in_2 hX.1 (by omega)) fr_X11_379 dX11_ask_124 (Option.some.inj hs9) ?_
          refine g_aload_n (pc := 127) 1 rfl dX11_ask_127 rfl ?_
          refine g_getC (pc := 128) (e := 0) (in_11 hX.1 (by omega)) fr_X11_96 dX11_ask_128 rfl ?_
          refine g_iload (pc := 131) 5 rfl dX11_ask_131 ?_
          obtain ⟨s10, hs10, hf⟩ := am_bd hf
          refine g_setZ (x := v4) (pc := 133) (in_2 hX.1 (by omega)) fr_X11_382 dX11_ask_133 (Option.some.inj hs10) ?_
          refine g_aload_n (pc := 136) 1 rfl dX11_ask_136 rfl ?_
          refine g_getC (pc := 137) (e := 0) (in_11 hX.1 (by omega)) fr_X11_96 dX11_ask_137 rfl ?_
          refine g_iload (pc := 140) 6 rfl dX11_ask_140 ?_
          obtain ⟨s11, hs11, hf⟩ := am_bd hf
          refine g_setI (pc := 142) (in_2 hX.1 (by omega)) fr_X11_385 dX11_ask_142 (Option.some.inj hs11) ?_
          refine g_aload_n (pc := 145) 1 rfl dX11_ask_145 rfl ?_
          refine g_getC (pc := 146) (e := 0) (in_11 hX.1 (by omega)) fr_X11_96 dX11_ask_146 rfl ?_
          refine g_iload (pc := 149) 7 rfl dX11_ask_149 ?_
          obtain ⟨s12, hs12, hf⟩ := am_bd hf
          refine g_setI (pc := 151) (in_2 hX.1 (by omega)) fr_X11_388 dX11_ask_151 (Option.some.inj hs12) ?_
          refine g_aload_n (pc := 154) 1 rfl dX11_ask_154 rfl ?_
          refine g_getC (pc := 155) (e := 0) (in_11 hX.1 (by omega)) fr_X11_96 dX11_ask_155 rfl ?_
          refine g_iload (pc := 158) 8 rfl dX11_ask_158 ?_
          obtain ⟨s13, hs13, hf⟩ := am_bd hf
          refine g_setI (pc := 160) (in_2 hX.1 (by omega)) fr_X11_391 dX11_ask_160 (Option.some.inj hs13) ?_
          refine g_aload_n (pc := 163) 1 rfl dX11_ask_163 rfl ?_
          refine g_getC (pc := 164) (e := 0) (in_11 hX.1 (by omega)) fr_X11_96 dX11_ask_164 rfl ?_
          refine g_iload (pc := 167) 9 rfl dX11_ask_167 ?_
          obtain ⟨s14, hs14, hf⟩ := am_bd hf
          refine g_setI (pc := 169) (in_2 hX.1 (by omega)) fr_X11_394 dX11_ask_169 (Option.some.inj hs14) ?_
          refine g_aload_n (pc := 172) 1 rfl dX11_ask_172 rfl ?_
          obtain ⟨p15, hp15, hf⟩ := am_bd hf
          refine g_cV (pc := 173) (As := []) (st := []) (st1 := [.int (am_b p15.1)]) (in_11 hX.1 (by omega)) kk_11 mV_X11_yes ln_X11_112 rfl (Nat.le_of_ble_eq_true rfl) (Nat.le_of_ble_eq_true rfl) (k_X11_yes hX s14 hp15) dX11_ask_173 rfl rfl ?_
          have ho := Option.some.inj hf
          subst ho
          exact g_zreturn (pc := 176) (st := []) (x := p15.1) rfl dX11_ask_176 hk
        replace hf := am_ifF c6 hf
        exact am_sub [1] rfl (q_X11_ask_97 hX σ hf hk)
      replace hf := am_ifF c4 hf
      exact am_sub [1] rfl (q_X11_ask_97 hX σ hf hk)
    replace hf := am_ifF c2 hf
    exact am_sub [1] rfl (q_X11_ask_97 hX σ hf hk)
  replace hf := am_ifF c1 hf
  exact am_sub [1] rfl (q_X11_ask_97 hX σ hf hk)
noncomputable def f_X11_ask_36 (v1 : Int32) (v2 : Int32) (v3 : Int32) (v4 : Bool) (v5 : Int32) (v6 : Int32) (v7 : Int32) (v8 : Int32) (k0 : Bool) (σ : am_H) : Option (Bool × am_H) :=
  (f_X11_isWithin v3 0 5 σ).bind fun p1 =>
  if p1 = true then
   ((f_X11_isWithin v6 0 12 σ).bind fun p3 =>
   if p3 = true then
    (f_X11_ask_63 v1 v2 v3 v4 v5 v6 v7 v8 k0 true σ)
   else
   f_X11_ask_63 v1 v2 v3 v4 v5 v6 v7 v8 k0 false σ)
  else
  f_X11_ask_63 v1 v2 v3 v4 v5 v6 v7 v8 k0 false σ
set_option maxRecDepth 100000 in
set_option maxHeartbeats 4000000 in
theorem q_X11_ask_36 {X : am_X} (hX : am_wC X) {Q : Option Value → am_H → Prop} (v1 : Int32) (v2 : Int32) (v3 : Int32) (v4 : Bool) (v5 : Int32) (v6 : Int32) (v7 : Int32) (v8 : Int32) (k0 : Bool) (σ : am_H) {o : Bool × am_H} (hf : f_X11_ask_36 v1 v2 v3 v4 v5 v6 v7 v8 k0 σ = some o) (hk : Q (some (.int (am_b o.1))) o.2) : am_G X gm_X11_ask Q 36 [(0, .ref (am_ad X 11 0)), (1, .int v1), (2, .int v2), (3, .int v3), (4, .int (am_b v4)), (5, .int v5), (6, .int v6), (7, .int v7), (8, .int v8)] [.int (am_b k0)] σ := by
  unfold f_X11_ask_36 at hf
  refine g_istore (pc := 36) [(9, .int (am_b k0)), (0, .ref (am_ad X 11 0)), (1, .int v1), (2, .int v2), (3, .int v3), (4, .int (am_b v4)), (5, .int v5), (6, .int v6), (7, .int v7), (8, .int v8)] dX11_ask_36 (Nat.le_of_ble_eq_true rfl) rfl ?_
  refine g_iload_n (pc := 38) 4 rfl dX11_ask_38 rfl ?_
  refine g_iconst (pc := 39) (v := 0) dX11_ask_39 (by decide) ?_
  refine g_iconst (pc := 40) (v := 5) dX11_ask_40 (by decide) ?_
  obtain ⟨p1, hp1, hf⟩ := am_bd hf
  refine g_cS (pc := 41) (As := [.int v3, .int 0, .int 5]) (st := []) (st1 := [.int (am_b p1)]) mS_X11_isWithin ln_X11_222 rfl (Nat.le_of_ble_eq_true rfl) (Nat.le_of_ble_eq_true rfl) (k_X11_isWithin hX v3 0 5 σ hp1) dX11_ask_41 rfl rfl ?_
  refine bt_eq (pc := 44) 62 dX11_ask_44 rfl (fun c2 => ?_) (fun c2 => ?_)
  · replace hf := am_ifT c2 hf
    refine g_iload (pc := 47) 7 rfl dX11_ask_47 ?_
    refine g_iconst (pc := 49) (v := 0) dX11_ask_49 (by decide) ?_
    refine g_bipush (pc := 50) (v := 12) dX11_ask_50 (by decide) ?_
    obtain ⟨p3, hp3, hf⟩ := am_bd hf
    refine g_cS (pc := 52) (As := [.int v6, .int 0, .int 12]) (st := []) (st1 := [.int (am_b p3)]) mS_X11_isWithin ln_X11_222 rfl (Nat.le_of_ble_eq_true rfl) (Nat.le_of_ble_eq_true rfl) (k_X11_isWithin hX v6 0 12 σ hp3) dX11_ask_52 rfl rfl ?_
    refine bt_eq (pc := 55) 62 dX11_ask_55 rfl (fun c4 => ?_) (fun c4 => ?_)
    · replace hf := am_ifT c4 hf
      refine g_iconst (pc := 58) (v := 1) dX11_ask_58 (by decide) ?_
      refine g_goto (pc := 59) 63 dX11_ask_59 rfl ?_
      exact am_sub [1, 2, 3, 4, 5, 6, 7, 8, 9, 0] rfl (q_X11_ask_63 hX v1 v2 v3 v4 v5 v6 v7 v8 k0 true σ hf hk)
    replace hf := am_ifF c4 hf
    refine g_iconst (pc := 62) (v := 0) dX11_ask_62 (by decide) ?_
    exact am_sub [1, 2, 3, 4, 5, 6, 7, 8, 9, 0] rfl (q_X11_ask_63 hX v1 v2 v3 v4 v5 v6 v7 v8 k0 false σ hf hk)
  replace hf := am_ifF c2 hf
  refine g_iconst (pc := 62) (v := 0) dX11_ask_62 (by decide) ?_
  exact am_sub [1, 2, 3, 4, 5, 6, 7, 8, 9, 0] rfl (q_X11_ask_63 hX v1 v2 v3 v4 v5 v6 v7 v8 k0 false σ hf hk)
noncomputable def f_X11_ask (v1 : Int32) (v2 : Int32) (v3 : Int32) (v4 : Bool) (v5 : Int32) (v6 : Int32) (v7 : Int32) (v8 : Int32) (σ : am_H) : Option (Bool × am_H) :=
  if v5 < (-1) then
   ((f_X11_no 2 σ).bind fun p2 =>
   some (p2.1, p2.2))
  else
  if v1 < (-99999) then
   (f_X11_ask_36 v1 v2 v3 v4 v5 v6 v7 v8 false σ)
  else
  if 99999 < v2 then
   (f_X11_ask_36 v1 v2 v3 v4 v5 v6 v7 v8 false σ)
  else
  if v2 < v1 then
   (f_X11_ask_36 v1 v2 v3 v4 v5 v6 v7 v8 false σ)
  else
  f_X11_ask_36 v1 v2 v3 v4 v5 v6 v7 v8 true σ
set_option maxRecDepth 100000 in
set_option maxHeartbeats 4000000 in
theorem q_X11_ask {X : am_X} (hX : am_wC X) {Q : Option Value → am_H → Prop} (v1 : Int32) (v2 : Int32) (v3 : Int32) (v4 : Bool) (v5 : Int32) (v6 : Int32) (v7 : Int32) (v8 : Int32) (σ : am_H) {o : Bool × am_H} (hf : f_X11_ask v1 v2 v3 v4 v5 v6 v7 v8 σ = some o) (hk : Q (some (.int (am_b o.1))) o.2) : am_G X gm_X11_ask Q 0 [(0, .ref (am_ad X 11 0)), (1, .int v1), (2, .int v2), (3, .int v3), (4, .int (am_b v4)), (5, .int v5), (6, .int v6), (7, .int v7), (8, .int v8)] [] σ := by
  unfold f_X11_ask at hf
  refine g_iload (pc := 0) 5 rfl dX11_ask_0 ?_
  refine g_iconst (pc := 2) (v := (-1)) dX11_ask_2 (by decide) ?_
  refine bi_ge (pc := 3) 12 dX11_ask_3 rfl (fun c1 => ?_) (fun c1 => ?_)
  · replace hf := am_ifT c1 hf
    refine g_aload_n (pc := 6) 0 rfl dX11_ask_6 rfl ?_
    refine g_iconst (pc := 7) (v := 2) dX11_ask_7 (by decide) ?_
    obtain ⟨p2, hp2, hf⟩ := am_bd hf
    refine g_cV (pc := 8) (As := [.int 2]) (st := []) (st1 := [.int (am_b p2.1)]) (in_11 hX.1 (by omega)) kk_11 mV_X11_no ln_X11_104 rfl (Nat.le_of_ble_eq_true rfl) (Nat.le_of_ble_eq_true rfl) (k_X11_no hX 2 σ hp2) dX11_ask_8 rfl rfl ?_
    have ho := Option.some.inj hf
    subst ho
    exact g_zreturn (pc := 11) (st := []) (x := p2.1) rfl dX11_ask_11 hk
  replace hf := am_ifF c1 hf
  refine g_iload_n (pc := 12) 1 rfl dX11_ask_12 rfl ?_
  refine g_ldcw (pc := 13) (v := (-99999)) (tb_5 (List.mem_of_getElem? (i := 231) (by decide +kernel))) dX11_ask_13 ?_
  refine bi_lt (pc := 16) 35 dX11_ask_16 rfl (fun c3 => ?_) (fun c3 => ?_)
  · replace hf := am_ifT c3 hf
    refine g_iconst (pc := 35) (v := 0) dX11_ask_35 (by decide) ?_
    exact q_X11_ask_36 hX v1 v2 v3 v4 v5 v6 v7 v8 false σ hf hk
  replace hf := am_ifF c3 hf
  refine g_iload_n (pc := 19) 2 rfl dX11_ask_19 rfl ?_
  refine g_ldcw (pc := 20) (v := 99999) (tb_4 (List.mem_of_getElem? (i := 169) (by decide +kernel))) dX11_ask_20 ?_
  refine bi_gt (pc := 23) 35 dX11_ask_23 rfl (fun c4 => ?_) (fun c4 => ?_)
  · replace hf := am_ifT c4 hf
    refine g_iconst (pc := 35) (v := 0) dX11_ask_35 (by decide) ?_
    exact q_X11_ask_36 hX v1 v2 v3 v4 v5 v6 v7 v8 false σ hf hk
  replace hf := am_ifF c4 hf
  refine g_iload_n (pc := 26) 1 rfl dX11_ask_26 rfl ?_
  refine g_iload_n (pc := 27) 2 rfl dX11_ask_27 rfl ?_
  refine bi_gt (pc := 28) 35 dX11_ask_28 rfl (fun c5 => ?_) (fun c5 => ?_)
  · replace hf := am_ifT c5 hf
    refine g_iconst (pc := 35) (v := 0) dX11_ask_35 (by decide) ?_
    exact q_X11_ask_36 hX v1 v2 v3 v4 v5 v6 v7 v8 false σ hf hk
  replace hf := am_ifF c5 hf
  refine g_iconst (pc := 31) (v := 1) dX11_ask_31 (by decide) ?_
  refine g_goto (pc := 32) 36 dX11_ask_32 rfl ?_
  exact q_X11_ask_36 hX v1 v2 v3 v4 v5 v6 v7 v8 true σ hf hk
theorem k_X11_ask {X : am_X} (hX : am_wC X) (v1 : Int32) (v2 : Int32) (v3 : Int32) (v4 : Bool) (v5 : Int32) (v6 : Int32) (v7 : Int32) (v8 : Int32) (σ : am_H) {o : Bool × am_H} (hf : f_X11_ask v1 v2 v3 v4 v5 v6 v7 v8 σ = some o) : am_C X gm_X11_ask [.ref (am_ad X 11 0), .int v1, .int v2, .int v3, .int (am_b v4), .int v5, .int v6, .int v7, .int v8] σ (am_is (some (.int (am_b o.1))) o.2) :=
  am_ofG rfl (Nat.le_of_ble_eq_true rfl) rfl (q_X11_ask hX v1 v2 v3 v4 v5 v6 v7 v8 σ hf ⟨rfl, rfl⟩)
theorem dX11_landing_0 : decode cX11_landing 0 = .ok (.aload_n 0, 1) := by decide +kernel
theorem dX11_landing_1 : decode cX11_landing 1 = .ok (.iload_n 1, 1) := by decide +kernel
theorem dX11_landing_2 : decode cX11_landing 2 = .ok (.invokevirtual 159, 3) := by decide +kernel
theorem dX11_landing_5 : decode cX11_landing 5 = .ok (.astore 4, 2) := by decide +kernel
theorem dX11_landing_7 : decode cX11_landing 7 = .ok (.aload 4, 2) := by decide +kernel
theorem dX11_landing_9 : decode cX11_landing 9 = .ok (.ifnull 18, 3) := by decide +kernel
theorem dX11_landing_12 : decode cX11_landing 12 = .ok (.aload_n 0, 1) := by decide +kernel
theorem dX11_landing_13 : decode cX11_landing 13 = .ok (.getfield 96, 3) := by decide +kernel
theorem dX11_landing_16 : decode cX11_landing 16 = .ok (.getfield 385, 3) := by decide +kernel
theorem dX11_landing_19 : decode cX11_landing 19 = .ok (.aload 4, 2) := by decide +kernel
theorem dX11_landing_21 : decode cX11_landing 21 = .ok (.getfield 173, 3) := by decide +kernel
theorem dX11_landing_24 : decode cX11_landing 24 = .ok (.if_icmp .lt 9, 3) := by decide +kernel
theorem dX11_landing_27 : decode cX11_landing 27 = .ok (.aload_n 0, 1) := by decide +kernel
theorem dX11_landing_28 : decode cX11_landing 28 = .ok (.iconst 2, 1) := by decide +kernel
theorem dX11_landing_29 : decode cX11_landing 29 = .ok (.invokevirtual 124, 3) := by decide +kernel
theorem dX11_landing_32 : decode cX11_landing 32 = .ok (.ireturn, 1) := by decide +kernel
theorem dX11_landing_33 : decode cX11_landing 33 = .ok (.iload_n 2, 1) := by decide +kernel
theorem dX11_landing_34 : decode cX11_landing 34 = .ok (.iload_n 3, 1) := by decide +kernel
theorem dX11_landing_35 : decode cX11_landing 35 = .ok (.sipush 2000, 3) := by decide +kernel
theorem dX11_landing_38 : decode cX11_landing 38 = .ok (.invokestatic 236, 3) := by decide +kernel
theorem dX11_landing_41 : decode cX11_landing 41 = .ok (.ifCond .ne 9, 3) := by decide +kernel
theorem dX11_landing_44 : decode cX11_landing 44 = .ok (.aload_n 0, 1) := by decide +kernel
theorem dX11_landing_45 : decode cX11_landing 45 = .ok (.iconst 5, 1) := by decide +kernel
theorem dX11_landing_46 : decode cX11_landing 46 = .ok (.invokevirtual 124, 3) := by decide +kernel
theorem dX11_landing_49 : decode cX11_landing 49 = .ok (.ireturn, 1) := by decide +kernel
theorem dX11_landing_50 : decode cX11_landing 50 = .ok (.aload_n 0, 1) := by decide +kernel
theorem dX11_landing_51 : decode cX11_landing 51 = .ok (.getfield 96, 3) := by decide +kernel
theorem dX11_landing_54 : decode cX11_landing 54 = .ok (.aload 4, 2) := by decide +kernel
theorem dX11_landing_56 : decode cX11_landing 56 = .ok (.iload_n 2, 1) := by decide +kernel
theorem dX11_landing_57 : decode cX11_landing 57 = .ok (.iload_n 3, 1) := by decide +kernel
theorem dX11_landing_58 : decode cX11_landing 58 = .ok (.invokevirtual 397, 3) := by decide +kernel
theorem dX11_landing_61 : decode cX11_landing 61 = .ok (.istore 5, 2) := by decide +kernel
theorem dX11_landing_63 : decode cX11_landing 63 = .ok (.iload 5, 2) := by decide +kernel
theorem dX11_landing_65 : decode cX11_landing 65 = .ok (.iconst (-1), 1) := by decide +kernel
theorem dX11_landing_66 : decode cX11_landing 66 = .ok (.if_icmp .ne 12, 3) := by decide +kernel
theorem dX11_landing_69 : decode cX11_landing 69 = .ok (.aload_n 0, 1) := by decide +kernel
theorem dX11_landing_70 : decode cX11_landing 70 = .ok (.bipush 8, 2) := by decide +kernel
theorem dX11_landing_72 : decode cX11_landing 72 = .ok (.invokevirtual 124, 3) := by decide +kernel
theorem dX11_landing_75 : decode cX11_landing 75 = .ok (.goto 9, 3) := by decide +kernel
theorem dX11_landing_78 : decode cX11_landing 78 = .ok (.aload_n 0, 1) := by decide +kernel
theorem dX11_landing_79 : decode cX11_landing 79 = .ok (.iload 5, 2) := by decide +kernel
theorem dX11_landing_81 : decode cX11_landing 81 = .ok (.invokevirtual 176, 3) := by decide +kernel
theorem dX11_landing_84 : decode cX11_landing 84 = .ok (.ireturn, 1) := by decide +kernel
noncomputable def f_X11_landing_27 (σ : am_H) : Option (Int32 × am_H) :=
  (f_X11_none 2 σ).bind fun p1 =>
  some (p1.1, p1.2)
set_option maxRecDepth 100000 in
set_option maxHeartbeats 4000000 in
theorem q_X11_landing_27 {X : am_X} (hX : am_wC X) {Q : Option Value → am_H → Prop} (σ : am_H) {o : Int32 × am_H} (hf : f_X11_landing_27 σ = some o) (hk : Q (some (.int o.1)) o.2) : am_G X gm_X11_landing Q 27 [(0, .ref (am_ad X 11 0))] [] σ := by
  unfold f_X11_landing_27 at hf
  refine g_aload_n (pc := 27) 0 rfl dX11_landing_27 rfl ?_
  refine g_iconst (pc := 28) (v := 2) dX11_landing_28 (by decide) ?_
  obtain ⟨p1, hp1, hf⟩ := am_bd hf
  refine g_cV (pc := 29) (As := [.int 2]) (st := []) (st1 := [.int p1.1]) (in_11 hX.1 (by omega)) kk_11 mV_X11_none ln_X11_124 rfl (Nat.le_of_ble_eq_true rfl) (Nat.le_of_ble_eq_true rfl) (k_X11_none hX 2 σ hp1) dX11_landing_29 rfl rfl ?_
  have ho := Option.some.inj hf
  subst ho
  exact g_ireturn (pc := 32) (st := []) rfl dX11_landing_32 hk
noncomputable def f_X11_landing (v1 : Int32) (v2 : Int32) (v3 : Int32) (σ : am_H) : Option (Int32 × am_H) :=
  (f_X11_machineOf v1 σ).bind fun p1 =>
  am_nn 3 p1
   (f_X11_landing_27 σ)
   (fun a2 =>
   if (σ.1 2 0 4) < (σ.1 3 a2 1) then
    ((f_X11_isSpan v2 v3 2000 σ).bind fun p4 =>
    if p4 = true then
     ((f_X2_firstHour a2 v2 v3 σ).bind fun p6 =>
     if p6 = (-1) then
      ((f_X11_none 8 σ).bind fun p8 =>
      some (p8.1, p8.2))
     else
     (f_X11_answer p6 σ).bind fun p9 =>
     some (p9.1, p9.2))
    else
    (f_X11_none 5 σ).bind fun p10 =>
    some (p10.1, p10.2))
   else
   f_X11_landing_27 σ)
set_option maxRecDepth 100000 in
set_option maxHeartbeats 4000000 in
theorem q_X11_landing {X : am_X} (hX : am_wC X) {Q : Option Value → am_H → Prop} (v1 : Int32) (v2 : Int32) (v3 : Int32) (σ : am_H) {o : Int32 × am_H} (hf : f_X11_landing v1 v2 v3 σ = some o) (hk : Q (some (.int o.1)) o.2) : am_G X gm_X11_landing Q 0 [(0, .ref (am_ad X 11 0)), (1, .int v1), (2, .int v2), (3, .int v3)] [] σ := by
  unfold f_X11_landing at hf
  refine g_aload_n (pc := 0) 0 rfl dX11_landing_0 rfl ?_
  refine g_iload_n (pc := 1) 1 rfl dX11_landing_1 rfl ?_
  obtain ⟨p1, hp1, hf⟩ := am_bd hf
  have hq := am_nn_c hf
  clear hf
  rcases hq with ⟨ep1, hf⟩ | ⟨a2, ep1, ga2, hf⟩
  · subst ep1
    refine g_cV (pc := 2) (As := [.int v1]) (st := []) (st1 := [.null]) (in_11 hX.1 (by omega)) kk_11 mV_X11_machineOf ln_X11_159 rfl (Nat.le_of_ble_eq_true rfl) (Nat.le_of_ble_eq_true rfl) (k_X11_machineOf hX v1 σ hp1) dX11_landing_2 rfl rfl ?_
    refine g_astoreN (pc := 5) [(4, .null), (0, .ref (am_ad X 11 0)), (1, .int v1), (2, .int v2), (3, .int v3)] dX11_landing_5 (Nat.le_of_ble_eq_true rfl) rfl ?_
    refine g_aloadN (pc := 7) 0 rfl dX11_landing_7 ?_
    refine g_ifnullN (pc := 9) 27 dX11_landing_9 rfl ?_
    exact am_sub [1] rfl (q_X11_landing_27 hX σ hf hk)
  · subst ep1
    refine g_cV (pc := 2) (As := [.int v1]) (st := []) (st1 := [.ref (am_ad X 3 a2)]) (in_11 hX.1 (by omega)) kk_11 mV_X11_machineOf ln_X11_159 rfl (Nat.le_of_ble_eq_true rfl) (Nat.le_of_ble_eq_true rfl) (k_X11_machineOf hX v1 σ hp1) dX11_landing_2 rfl rfl ?_
    refine g_astore (pc := 5) [(4, .ref (am_ad X 3 a2)), (0, .ref (am_ad X 11 0)), (1, .int v1), (2, .int v2), (3, .int v3)] dX11_landing_5 (Nat.le_of_ble_eq_true rfl) rfl ?_
    refine g_aload (pc := 7) 0 rfl dX11_landing_7 ?_
    refine g_ifnull (pc := 9) dX11_landing_9 ?_
    refine g_aload_n (pc := 12) 1 rfl dX11_landing_12 rfl ?_
    refine g_getC (pc := 13) (e := 0) (in_11 hX.1 (by omega)) fr_X11_96 dX11_landing_13 rfl ?_
    refine g_getI (pc := 16) (in_2 hX.1 (by omega)) fr_X11_385 dX11_landing_16 ?_
    refine g_aload (pc := 19) 0 rfl dX11_landing_19 ?_
    refine g_getI (pc := 21) (in_3 hX.1 (by omega)) fr_X11_173 dX11_landing_21 ?_
    refine bi_lt (pc := 24) 33 dX11_landing_24 rfl (fun c3 => ?_) (fun c3 => ?_)
    · replace hf := am_ifT c3 hf
      refine g_iload_n (pc := 33) 3 rfl dX11_landing_33 rfl ?_
      refine g_iload_n (pc := 34) 4 rfl dX11_landing_34 rfl ?_
      refine g_sipush (pc := 35) (v := 2000) dX11_landing_35 (by decide) ?_
      obtain ⟨p4, hp4, hf⟩ := am_bd hf
      refine g_cS (pc := 38) (As := [.int v2, .int v3, .int 2000]) (st := []) (st1 := [.int (am_b p4)]) mS_X11_isSpan ln_X11_236 rfl (Nat.le_of_ble_eq_true rfl) (Nat.le_of_ble_eq_true rfl) (k_X11_isSpan hX v2 v3 2000 σ hp4) dX11_landing_38 rfl rfl ?_
      refine bt_ne (pc := 41) 50 dX11_landing_41 rfl (fun c5 => ?_) (fun c5 => ?_)
      · replace hf := am_ifT c5 hf
        refine g_aload_n (pc := 50) 1 rfl dX11_landing_50 rfl ?_
        refine g_getC (pc := 51) (e := 0) (in_11 hX.1 (by omega)) fr_X11_96 dX11_landing_51 rfl ?_
        refine g_aload (pc := 54) 0 rfl dX11_landing_54 ?_
        refine g_iload_n (pc := 56) 3 rfl dX11_landing_56 rfl ?_
        refine g_iload_n (pc := 57) 4 rfl dX11_landing_57 rfl ?_
        obtain ⟨p6, hp6, hf⟩ := am_bd hf
        refine g_cV (pc := 58) (As := [.ref (am_ad X 3 a2), .int v2, .int v3]) (st := []) (st1 := [.int p6]) (in_2 hX.1 (by omega)) kk_2 mV_X2_firstHour ln_X11_397 rfl (Nat.le_of_ble_eq_true rfl) (Nat.le_of_ble_eq_true rfl) (k_X2_firstHour hX a2 v2 v3 (by omega) σ hp6) dX11_landing_58 rfl rfl ?_
        refine g_istore (pc := 61) [(5, .int p6), (4, .ref (am_ad X 3 a2)), (0, .ref (am_ad X 11 0)), (1, .int v1), (2, .int v2), (3, .int v3)] dX11_landing_61 (Nat.le_of_ble_eq_true rfl) rfl ?_
        refine g_iload (pc := 63) 0 rfl dX11_landing_63 ?_
        refine g_iconst (pc := 65) (v := (-1)) dX11_landing_65 (by decide) ?_
        refine bi_ne (pc := 66) 78 dX11_landing_66 rfl (fun c7 => ?_) (fun c7 => ?_)
        · replace hf := am_ifT c7 hf
          refine g_aload_n (pc := 69) 2 rfl dX11_landing_69 rfl ?_
          refine g_bipush (pc := 70) (v := 8) dX11_landing_70 (by decide) ?_
          obtain ⟨p8, hp8, hf⟩ := am_bd hf
          refine g_cV (pc := 72) (As := [.int 8]) (st := []) (st1 := [.int p8.1]) (in_11 hX.1 (by omega)) kk_11 mV_X11_none ln_X11_124 rfl (Nat.le_of_ble_eq_true rfl) (Nat.le_of_ble_eq_true rfl) (k_X11_none hX 8 σ hp8) dX11_landing_72 rfl rfl ?_
          refine g_goto (pc := 75) 84 dX11_landing_75 rfl ?_
          have ho := Option.some.inj hf
          subst ho
          exact g_ireturn (pc := 84) (st := []) rfl dX11_landing_84 hk
        replace hf := am_ifF c7 hf
        refine g_aload_n (pc := 78) 2 rfl dX11_landing_78 rfl ?_
        refine g_iload (pc := 79) 0 rfl dX11_landing_79 ?_
        obtain ⟨p9, hp9, hf⟩ := am_bd hf
        refine g_cV (pc := 81) (As := [.int p6]) (st := []) (st1 := [.int p9.1]) (in_11 hX.1 (by omega)) kk_11 mV_X11_answer ln_X11_176 rfl (Nat.le_of_ble_eq_true rfl) (Nat.le_of_ble_eq_true rfl) (k_X11_answer hX p6 σ hp9) dX11_landing_81 rfl rfl ?_
        have ho := Option.some.inj hf
        subst ho
        exact g_ireturn (pc := 84) (st := []) rfl dX11_landing_84 hk
      replace hf := am_ifF c5 hf
      refine g_aload_n (pc := 44) 1 rfl dX11_landing_44 rfl ?_
      refine g_iconst (pc := 45) (v := 5) dX11_landing_45 (by decide) ?_
      obtain ⟨p10, hp10, hf⟩ := am_bd hf
      refine g_cV (pc := 46) (As := [.int 5]) (st := []) (st1 := [.int p10.1]) (in_11 hX.1 (by omega)) kk_11 mV_X11_none ln_X11_124 rfl (Nat.le_of_ble_eq_true rfl) (Nat.le_of_ble_eq_true rfl) (k_X11_none hX 5 σ hp10) dX11_landing_46 rfl rfl ?_
      have ho := Option.some.inj hf
      subst ho
      exact g_ireturn (pc := 49) (st := []) rfl dX11_landing_49 hk
    replace hf := am_ifF c3 hf
    exact am_sub [1] rfl (q_X11_landing_27 hX σ hf hk)
theorem k_X11_landing {X : am_X} (hX : am_wC X) (v1 : Int32) (v2 : Int32) (v3 : Int32) (σ : am_H) {o : Int32 × am_H} (hf : f_X11_landing v1 v2 v3 σ = some o) : am_C X gm_X11_landing [.ref (am_ad X 11 0), .int v1, .int v2, .int v3] σ (am_is (some (.int o.1)) o.2) :=
  am_ofG rfl (Nat.le_of_ble_eq_true rfl) rfl (q_X11_landing hX v1 v2 v3 σ hf ⟨rfl, rfl⟩)
theorem dX11_spread_0 : decode cX11_spread 0 = .ok (.aload_n 0, 1) := by decide +kernel
theorem dX11_spread_1 : decode cX11_spread 1 = .ok (.iload_n 1, 1) := by decide +kernel
theorem dX11_spread_2 : decode cX11_spread 2 = .ok (.invokevirtual 159, 3) := by decide +kernel
theorem dX11_spread_5 : decode cX11_spread 5 = .ok (.astore 5, 2) := by decide +kernel
theorem dX11_spread_7 : decode cX11_spread 7 = .ok (.aload 5, 2) := by decide +kernel
theorem dX11_spread_9 : decode cX11_spread 9 = .ok (.ifnull 12, 3) := by decide +kernel
theorem dX11_spread_12 : decode cX11_spread 12 = .ok (.aload 5, 2) := by decide +kernel
theorem dX11_spread_14 : decode cX11_spread 14 = .ok (.iload_n 2, 1) := by decide +kernel
theorem dX11_spread_15 : decode cX11_spread 15 = .ok (.invokevirtual 401, 3) := by decide +kernel
theorem dX11_spread_18 : decode cX11_spread 18 = .ok (.ifnonnull 9, 3) := by decide +kernel
theorem dX11_spread_21 : decode cX11_spread 21 = .ok (.aload_n 0, 1) := by decide +kernel
theorem dX11_spread_22 : decode cX11_spread 22 = .ok (.iconst 2, 1) := by decide +kernel
theorem dX11_spread_23 : decode cX11_spread 23 = .ok (.invokevirtual 124, 3) := by decide +kernel
theorem dX11_spread_26 : decode cX11_spread 26 = .ok (.ireturn, 1) := by decide +kernel
theorem dX11_spread_27 : decode cX11_spread 27 = .ok (.iload_n 3, 1) := by decide +kernel
theorem dX11_spread_28 : decode cX11_spread 28 = .ok (.iload 4, 2) := by decide +kernel
theorem dX11_spread_30 : decode cX11_spread 30 = .ok (.bipush 48, 2) := by decide +kernel
theorem dX11_spread_32 : decode cX11_spread 32 = .ok (.invokestatic 236, 3) := by decide +kernel
theorem dX11_spread_35 : decode cX11_spread 35 = .ok (.ifCond .ne 9, 3) := by decide +kernel
theorem dX11_spread_38 : decode cX11_spread 38 = .ok (.aload_n 0, 1) := by decide +kernel
theorem dX11_spread_39 : decode cX11_spread 39 = .ok (.iconst 5, 1) := by decide +kernel
theorem dX11_spread_40 : decode cX11_spread 40 = .ok (.invokevirtual 124, 3) := by decide +kernel
theorem dX11_spread_43 : decode cX11_spread 43 = .ok (.ireturn, 1) := by decide +kernel
theorem dX11_spread_44 : decode cX11_spread 44 = .ok (.aload_n 0, 1) := by decide +kernel
theorem dX11_spread_45 : decode cX11_spread 45 = .ok (.getfield 89, 3) := by decide +kernel
theorem dX11_spread_48 : decode cX11_spread 48 = .ok (.aload 5, 2) := by decide +kernel
theorem dX11_spread_50 : decode cX11_spread 50 = .ok (.iload_n 2, 1) := by decide +kernel
theorem dX11_spread_51 : decode cX11_spread 51 = .ok (.iload_n 3, 1) := by decide +kernel
theorem dX11_spread_52 : decode cX11_spread 52 = .ok (.iload 4, 2) := by decide +kernel
theorem dX11_spread_54 : decode cX11_spread 54 = .ok (.invokevirtual 405, 3) := by decide +kernel
theorem dX11_spread_57 : decode cX11_spread 57 = .ok (.aload_n 0, 1) := by decide +kernel
theorem dX11_spread_58 : decode cX11_spread 58 = .ok (.aload_n 0, 1) := by decide +kernel
theorem dX11_spread_59 : decode cX11_spread 59 = .ok (.getfield 89, 3) := by decide +kernel
theorem dX11_spread_62 : decode cX11_spread 62 = .ok (.getfield 409, 3) := by decide +kernel
theorem dX11_spread_65 : decode cX11_spread 65 = .ok (.invokevirtual 176, 3) := by decide +kernel
theorem dX11_spread_68 : decode cX11_spread 68 = .ok (.ireturn, 1) := by decide +kernel
noncomputable def f_X11_spread_21 (σ : am_H) : Option (Int32 × am_H) :=
  (f_X11_none 2 σ).bind fun p1 =>
  some (p1.1, p1.2)
set_option maxRecDepth 100000 in
set_option maxHeartbeats 4000000 in
theorem q_X11_spread_21 {X : am_X} (hX : am_wC X) {Q : Option Value → am_H → Prop} (σ : am_H) {o : Int32 × am_H} (hf : f_X11_spread_21 σ = some o) (hk : Q (some (.int o.1)) o.2) : am_G X gm_X11_spread Q 21 [(0, .ref (am_ad X 11 0))] [] σ := by
  unfold f_X11_spread_21 at hf
  refine g_aload_n (pc := 21) 0 rfl dX11_spread_21 rfl ?_
  refine g_iconst (pc := 22) (v := 2) dX11_spread_22 (by decide) ?_
  obtain ⟨p1, hp1, hf⟩ := am_bd hf
  refine g_cV (pc := 23) (As := [.int 2]) (st := []) (st1 := [.int p1.1]) (in_11 hX.1 (by omega)) kk_11 mV_X11_none ln_X11_124 rfl (Nat.le_of_ble_eq_true rfl) (Nat.le_of_ble_eq_true rfl) (k_X11_none hX 2 σ hp1) dX11_spread_23 rfl rfl ?_
  have ho := Option.some.inj hf
  subst ho
  exact g_ireturn (pc := 26) (st := []) rfl dX11_spread_26 hk
noncomputable def f_X11_spread (v1 : Int32) (v2 : Int32) (v3 : Int32) (v4 : Int32) (σ : am_H) : Option (Int32 × am_H) :=
  (f_X11_machineOf v1 σ).bind fun p1 =>
  am_nn 3 p1
   (f_X11_spread_21 σ)
   (fun a2 =>
   (f_X3_waveAt a2 v2 σ).bind fun p3 =>
   am_nn 18 p3
    (f_X11_spread_21 σ)
    (fun a4 =>
    (f_X11_isSpan v3 v4 48 σ).bind fun p5 =>
    if p5 = true then
     ((f_X0_findSpread a2 v2 v3 v4 σ).bind fun p7 =>
     (f_X11_answer (p7.1 0 0 13) p7).bind fun p8 =>
     some (p8.1, p8.2))
    else
    (f_X11_none 5 σ).bind fun p9 =>
    some (p9.1, p9.2)))
set_option maxRecDepth 100000 in
set_option maxHeartbeats 4000000 in
theorem q_X11_spread {X : am_X} (hX : am_wC X) {Q : Option Value → am_H → Prop} (v1 : Int32) (v2 : Int32) (v3 : Int32) (v4 : Int32) (σ : am_H) {o : Int32 × am_H} (hf : f_X11_spread v1 v2 v3 v4 σ = some o) (hk : Q (some (.int o.1)) o.2) : am_G X gm_X11_spread Q 0 [(0, .ref (am_ad X 11 0)), (1, .int v1), (2, .int v2), (3, .int v3), (4, .int v4)] [] σ := by
  unfold f_X11_spread at hf
  refine g_aload_n (pc := 0) 0 rfl dX11_spread_0 rfl ?_
  refine g_iload_n (pc := 1) 1 rfl dX11_spread_1 rfl ?_
  obtain ⟨p1, hp1, hf⟩ := am_bd hf
  have hq := am_nn_c hf
  clear hf
  rcases hq with ⟨ep1, hf⟩ | ⟨a2, ep1, ga2, hf⟩
  · subst ep1
    refine g_cV (pc := 2) (As := [.int v1]) (st := []) (st1 := [.null]) (in_11 hX.1 (by omega)) kk_11 mV_X11_machineOf ln_X11_159 rfl (Nat.le_of_ble_eq_true rfl) (Nat.le_of_ble_eq_true rfl) (k_X11_machineOf hX v1 σ hp1) dX11_spread_2 rfl rfl ?_
    refine g_astoreN (pc := 5) [(5, .null), (0, .ref (am_ad X 11 0)), (1, .int v1), (2, .int v2), (3, .int v3), (4, .int v4)] dX11_spread_5 (Nat.le_of_ble_eq_true rfl) rfl ?_
    refine g_aloadN (pc := 7) 0 rfl dX11_spread_7 ?_
    refine g_ifnullN (pc := 9) 21 dX11_spread_9 rfl ?_
    exact am_sub [1] rfl (q_X11_spread_21 hX σ hf hk)
  · subst ep1
    refine g_cV (pc := 2) (As := [.int v1]) (st := []) (st1 := [.ref (am_ad X 3 a2)]) (in_11 hX.1 (by omega)) kk_11 mV_X11_machineOf ln_X11_159 rfl (Nat.le_of_ble_eq_true rfl) (Nat.le_of_ble_eq_true rfl) (k_X11_machineOf hX v1 σ hp1) dX11_spread_2 rfl rfl ?_
    refine g_astore (pc := 5) [(5, .ref (am_ad X 3 a2)), (0, .ref (am_ad X 11 0)), (1, .int v1), (2, .int v2), (3, .int v3), (4, .int v4)] dX11_spread_5 (Nat.le_of_ble_eq_true rfl) rfl ?_
    refine g_aload (pc := 7) 0 rfl dX11_spread_7 ?_
    refine g_ifnull (pc := 9) dX11_spread_9 ?_
    refine g_aload (pc := 12) 0 rfl dX11_spread_12 ?_
    refine g_iload_n (pc := 14) 3 rfl dX11_spread_14 rfl ?_
    obtain ⟨p3, hp3, hf⟩ := am_bd hf
    have hq := am_nn_c hf
    clear hf
    rcases hq with ⟨ep3, hf⟩ | ⟨a4, ep3, ga4, hf⟩
    · subst ep3
      refine g_cV (pc := 15) (As := [.int v2]) (st := []) (st1 := [.null]) (in_3 hX.1 (by omega)) kk_3 mV_X3_waveAt ln_X11_401 rfl (Nat.le_of_ble_eq_true rfl) (Nat.le_of_ble_eq_true rfl) (k_X3_waveAt hX a2 v2 (by omega) σ hp3) dX11_spread_15 rfl rfl ?_
      refine g_ifnonnullN (pc := 18) dX11_spread_18 ?_
      exact am_sub [1] rfl (q_X11_spread_21 hX σ hf hk)
    · subst ep3
      refine g_cV (pc := 15) (As := [.int v2]) (st := []) (st1 := [.ref (am_ad X 10 a4)]) (in_3 hX.1 (by omega)) kk_3 mV_X3_waveAt ln_X11_401 rfl (Nat.le_of_ble_eq_true rfl) (Nat.le_of_ble_eq_true rfl) (k_X3_waveAt hX a2 v2 (by omega) σ hp3) dX11_spread_15 rfl rfl ?_
      refine g_ifnonnull (pc := 18) 27 dX11_spread_18 rfl ?_
      refine g_iload_n (pc := 27) 4 rfl dX11_spread_27 rfl ?_
      refine g_iload (pc := 28) 5 rfl dX11_spread_28 ?_
      refine g_bipush (pc := 30) (v := 48) dX11_spread_30 (by decide) ?_
      obtain ⟨p5, hp5, hf⟩ := am_bd hf
      refine g_cS (pc := 32) (As := [.int v3, .int v4, .int 48]) (st := []) (st1 := [.int (am_b p5)]) mS_X11_isSpan ln_X11_236 rfl (Nat.le_of_ble_eq_true rfl) (Nat.le_of_ble_eq_true rfl) (k_X11_isSpan hX v3 v4 48 σ hp5) dX11_spread_32 rfl rfl ?_
      refine bt_ne (pc := 35) 44 dX11_spread_35 rfl (fun c6 => ?_) (fun c6 => ?_)
      · replace hf := am_ifT c6 hf
        refine g_aload_n (pc := 44) 1 rfl dX11_spread_44 rfl ?_
        refine g_getC (pc := 45) (e := 0) (in_11 hX.1 (by omega)) fr_X11_89 dX11_spread_45 rfl ?_
        refine g_aload (pc := 48) 0 rfl dX11_spread_48 ?_
        refine g_iload_n (pc := 50) 3 rfl dX11_spread_50 rfl ?_
        refine g_iload_n (pc := 51) 4 rfl dX11_spread_51 rfl ?_
        refine g_iload (pc := 52) 5 rfl dX11_spread_52 ?_
        obtain ⟨p7, hp7, hf⟩ := am_bd hf
        refine g_cV (pc := 54) (As := [.ref (am_ad X 3 a2), .int v2, .int v3, .int v4]) (st := []) (st1 := []) (in_0 hX.1 (by omega)) kk_0 mV_X0_findSpread ln_X11_405 rfl (Nat.le_of_ble_eq_true rfl) (Nat.le_of_ble_eq_true rfl) (k_X0_findSpread hX a2 v2 v3 v4 (by omega) σ hp7) dX11_spread_54 rfl rfl ?_
        refine g_aload_n (pc := 57) 1 rfl dX11_spread_57 rfl ?_
        refine g_aload_n (pc := 58) 1 rfl dX11_spread_58 rfl ?_
        refine g_getC (pc := 59) (e := 0) (in_11 hX.1 (by omega)) fr_X11_89 dX11_spread_59 rfl ?_
        refine g_getI (pc := 62) (in_0 hX.1 (by omega)) fr_X11_409 dX11_spread_62 ?_
        obtain ⟨p8, hp8, hf⟩ := am_bd hf
        refine g_cV (pc := 65) (As := [.int (p7.1 0 0 13)]) (st := []) (st1 := [.int p8.1]) (in_11 hX.1 (by omega)) kk_11 mV_X11_answer ln_X11_176 rfl (Nat.le_of_ble_eq_true rfl) (Nat.le_of_ble_eq_true rfl) (k_X11_answer hX (p7.1 0 0 13) p7 hp8) dX11_spread_65 rfl rfl ?_
        have ho := Option.some.inj hf
        subst ho
        exact g_ireturn (pc := 68) (st := []) rfl dX11_spread_68 hk
      replace hf := am_ifF c6 hf
      refine g_aload_n (pc := 38) 1 rfl dX11_spread_38 rfl ?_
      refine g_iconst (pc := 39) (v := 5) dX11_spread_39 (by decide) ?_
      obtain ⟨p9, hp9, hf⟩ := am_bd hf
      refine g_cV (pc := 40) (As := [.int 5]) (st := []) (st1 := [.int p9.1]) (in_11 hX.1 (by omega)) kk_11 mV_X11_none ln_X11_124 rfl (Nat.le_of_ble_eq_true rfl) (Nat.le_of_ble_eq_true rfl) (k_X11_none hX 5 σ hp9) dX11_spread_40 rfl rfl ?_
      have ho := Option.some.inj hf
      subst ho
      exact g_ireturn (pc := 43) (st := []) rfl dX11_spread_43 hk
theorem k_X11_spread {X : am_X} (hX : am_wC X) (v1 : Int32) (v2 : Int32) (v3 : Int32) (v4 : Int32) (σ : am_H) {o : Int32 × am_H} (hf : f_X11_spread v1 v2 v3 v4 σ = some o) : am_C X gm_X11_spread [.ref (am_ad X 11 0), .int v1, .int v2, .int v3, .int v4] σ (am_is (some (.int o.1)) o.2) :=
  am_ofG rfl (Nat.le_of_ble_eq_true rfl) rfl (q_X11_spread hX v1 v2 v3 v4 σ hf ⟨rfl, rfl⟩)
theorem dX11_spreadTold_0 : decode cX11_spreadTold 0 = .ok (.iload_n 1, 1) := by decide +kernel
theorem dX11_spreadTold_1 : decode cX11_spreadTold 1 = .ok (.iconst 0, 1) := by decide +kernel
theorem dX11_spreadTold_2 : decode cX11_spreadTold 2 = .ok (.iconst 2, 1) := by decide +kernel
theorem dX11_spreadTold_3 : decode cX11_spreadTold 3 = .ok (.invokestatic 222, 3) := by decide +kernel
theorem dX11_spreadTold_6 : decode cX11_spreadTold 6 = .ok (.ifCond .ne 9, 3) := by decide +kernel
theorem dX11_spreadTold_9 : decode cX11_spreadTold 9 = .ok (.aload_n 0, 1) := by decide +kernel
theorem dX11_spreadTold_10 : decode cX11_spreadTold 10 = .ok (.iconst 5, 1) := by decide +kernel
theorem dX11_spreadTold_11 : decode cX11_spreadTold 11 = .ok (.invokevirtual 124, 3) := by decide +kernel
theorem dX11_spreadTold_14 : decode cX11_spreadTold 14 = .ok (.ireturn, 1) := by decide +kernel
theorem dX11_spreadTold_15 : decode cX11_spreadTold 15 = .ok (.iload_n 1, 1) := by decide +kernel
theorem dX11_spreadTold_16 : decode cX11_spreadTold 16 = .ok (.iconst 2, 1) := by decide +kernel
theorem dX11_spreadTold_17 : decode cX11_spreadTold 17 = .ok (.if_icmp .ne 34, 3) := by decide +kernel
theorem dX11_spreadTold_20 : decode cX11_spreadTold 20 = .ok (.aload_n 0, 1) := by decide +kernel
theorem dX11_spreadTold_21 : decode cX11_spreadTold 21 = .ok (.getfield 89, 3) := by decide +kernel
theorem dX11_spreadTold_24 : decode cX11_spreadTold 24 = .ok (.getfield 412, 3) := by decide +kernel
theorem dX11_spreadTold_27 : decode cX11_spreadTold 27 = .ok (.ifCond .eq 17, 3) := by decide +kernel
theorem dX11_spreadTold_30 : decode cX11_spreadTold 30 = .ok (.aload_n 0, 1) := by decide +kernel
theorem dX11_spreadTold_31 : decode cX11_spreadTold 31 = .ok (.aload_n 0, 1) := by decide +kernel
theorem dX11_spreadTold_32 : decode cX11_spreadTold 32 = .ok (.getfield 89, 3) := by decide +kernel
theorem dX11_spreadTold_35 : decode cX11_spreadTold 35 = .ok (.getfield 415, 3) := by decide +kernel
theorem dX11_spreadTold_38 : decode cX11_spreadTold 38 = .ok (.invokevirtual 176, 3) := by decide +kernel
theorem dX11_spreadTold_41 : decode cX11_spreadTold 41 = .ok (.goto 9, 3) := by decide +kernel
theorem dX11_spreadTold_44 : decode cX11_spreadTold 44 = .ok (.aload_n 0, 1) := by decide +kernel
theorem dX11_spreadTold_45 : decode cX11_spreadTold 45 = .ok (.bipush 8, 2) := by decide +kernel
theorem dX11_spreadTold_47 : decode cX11_spreadTold 47 = .ok (.invokevirtual 124, 3) := by decide +kernel
theorem dX11_spreadTold_50 : decode cX11_spreadTold 50 = .ok (.ireturn, 1) := by decide +kernel
theorem dX11_spreadTold_51 : decode cX11_spreadTold 51 = .ok (.aload_n 0, 1) := by decide +kernel
theorem dX11_spreadTold_52 : decode cX11_spreadTold 52 = .ok (.getfield 89, 3) := by decide +kernel
theorem dX11_spreadTold_55 : decode cX11_spreadTold 55 = .ok (.getfield 409, 3) := by decide +kernel
theorem dX11_spreadTold_58 : decode cX11_spreadTold 58 = .ok (.iconst (-1), 1) := by decide +kernel
theorem dX11_spreadTold_59 : decode cX11_spreadTold 59 = .ok (.if_icmp .ne 10, 3) := by decide +kernel
theorem dX11_spreadTold_62 : decode cX11_spreadTold 62 = .ok (.aload_n 0, 1) := by decide +kernel
theorem dX11_spreadTold_63 : decode cX11_spreadTold 63 = .ok (.bipush 8, 2) := by decide +kernel
theorem dX11_spreadTold_65 : decode cX11_spreadTold 65 = .ok (.invokevirtual 124, 3) := by decide +kernel
theorem dX11_spreadTold_68 : decode cX11_spreadTold 68 = .ok (.ireturn, 1) := by decide +kernel
theorem dX11_spreadTold_69 : decode cX11_spreadTold 69 = .ok (.aload_n 0, 1) := by decide +kernel
theorem dX11_spreadTold_70 : decode cX11_spreadTold 70 = .ok (.iload_n 1, 1) := by decide +kernel
theorem dX11_spreadTold_71 : decode cX11_spreadTold 71 = .ok (.ifCond .ne 13, 3) := by decide +kernel
theorem dX11_spreadTold_74 : decode cX11_spreadTold 74 = .ok (.aload_n 0, 1) := by decide +kernel
theorem dX11_spreadTold_75 : decode cX11_spreadTold 75 = .ok (.getfield 89, 3) := by decide +kernel
theorem dX11_spreadTold_78 : decode cX11_spreadTold 78 = .ok (.getfield 418, 3) := by decide +kernel
theorem dX11_spreadTold_81 : decode cX11_spreadTold 81 = .ok (.goto 10, 3) := by decide +kernel
theorem dX11_spreadTold_84 : decode cX11_spreadTold 84 = .ok (.aload_n 0, 1) := by decide +kernel
theorem dX11_spreadTold_85 : decode cX11_spreadTold 85 = .ok (.getfield 89, 3) := by decide +kernel
theorem dX11_spreadTold_88 : decode cX11_spreadTold 88 = .ok (.getfield 421, 3) := by decide +kernel
theorem dX11_spreadTold_91 : decode cX11_spreadTold 91 = .ok (.invokevirtual 176, 3) := by decide +kernel
theorem dX11_spreadTold_94 : decode cX11_spreadTold 94 = .ok (.ireturn, 1) := by decide +kernel
noncomputable def f_X11_spreadTold_91 (k1 : Int32) (σ : am_H) : Option (Int32 × am_H) :=
  (f_X11_answer k1 σ).bind fun p1 =>
  some (p1.1, p1.2)
set_option maxRecDepth 100000 in
set_option maxHeartbeats 4000000 in
theorem q_X11_spreadTold_91 {X : am_X} (hX : am_wC X) {Q : Option Value → am_H → Prop} (k1 : Int32) (σ : am_H) {o : Int32 × am_H} (hf : f_X11_spreadTold_91 k1 σ = some o) (hk : Q (some (.int o.1)) o.2) : am_G X gm_X11_spreadTold Q 91 [] [.int k1, .ref (am_ad X 11 0)] σ := by
  unfold f_X11_spreadTold_91 at hf
  obtain ⟨p1, hp1, hf⟩ := am_bd hf
  refine g_cV (pc := 91) (As := [.int k1]) (st := []) (st1 := [.int p1.1]) (in_11 hX.1 (by omega)) kk_11 mV_X11_answer ln_X11_176 rfl (Nat.le_of_ble_eq_true rfl) (Nat.le_of_ble_eq_true rfl) (k_X11_answer hX k1 σ hp1) dX11_spreadTold_91 rfl rfl ?_
  have ho := Option.some.inj hf
  subst ho
  exact g_ireturn (pc := 94) (st := []) rfl dX11_spreadTold_94 hk
noncomputable def f_X11_spreadTold (v1 : Int32) (σ : am_H) : Option (Int32 × am_H) :=
  (f_X11_isWithin v1 0 2 σ).bind fun p1 =>
  if p1 = true then
   (if v1 = 2 then
    (if (σ.1 0 0 12) = 0 then
     ((f_X11_none 8 σ).bind fun p5 =>
     some (p5.1, p5.2))
    else
    (f_X11_answer (σ.1 0 0 16) σ).bind fun p6 =>
    some (p6.1, p6.2))
   else
   if (σ.1 0 0 13) = (-1) then
    ((f_X11_none 8 σ).bind fun p8 =>
    some (p8.1, p8.2))
   else
   if v1 = 0 then
    (f_X11_spreadTold_91 (σ.1 0 0 14) σ)
   else
   f_X11_spreadTold_91 (σ.1 0 0 15) σ)
  else
  (f_X11_none 5 σ).bind fun p10 =>
  some (p10.1, p10.2)
set_option maxRecDepth 100000 in
set_option maxHeartbeats 4000000 in
theorem q_X11_spreadTold {X : am_X} (hX : am_wC X) {Q : Option Value → am_H → Prop} (v1 : Int32) (σ : am_H) {o : Int32 × am_H} (hf : f_X11_spreadTold v1 σ = some o) (hk : Q (some (.int o.1)) o.2) : am_G X gm_X11_spreadTold Q 0 [(0, .ref (am_ad X 11 0)), (1, .int v1)] [] σ := by
  unfold f_X11_spreadTold at hf
  refine g_iload_n (pc := 0) 1 rfl dX11_spreadTold_0 rfl ?_
  refine g_iconst (pc := 1) (v := 0) dX11_spreadTold_1 (by decide) ?_
  refine g_iconst (pc := 2) (v := 2) dX11_spreadTold_2 (by decide) ?_
  obtain ⟨p1, hp1, hf⟩ := am_bd hf
  refine g_cS (pc := 3) (As := [.int v1, .int 0, .int 2]) (st := []) (st1 := [.int (am_b p1)]) mS_X11_isWithin ln_X11_222 rfl (Nat.le_of_ble_eq_true rfl) (Nat.le_of_ble_eq_true rfl) (k_X11_isWithin hX v1 0 2 σ hp1) dX11_spreadTold_3 rfl rfl ?_
  refine bt_ne (pc := 6) 15 dX11_spreadTold_6 rfl (fun c2 => ?_) (fun c2 => ?_)
  · replace hf := am_ifT c2 hf
    refine g_iload_n (pc := 15) 1 rfl dX11_spreadTold_15 rfl ?_
    refine g_iconst (pc := 16) (v := 2) dX11_spreadTold_16 (by decide) ?_
    refine bi_ne (pc := 17) 51 dX11_spreadTold_17 rfl (fun c3 => ?_) (fun c3 => ?_)
    · replace hf := am_ifT c3 hf
      refine g_aload_n (pc := 20) 0 rfl dX11_spreadTold_20 rfl ?_
      refine g_getC (pc := 21) (e := 0) (in_11 hX.1 (by omega)) fr_X11_89 dX11_spreadTold_21 rfl ?_
      refine g_getZ (pc := 24) (in_0 hX.1 (by omega)) fr_X11_412 dX11_spreadTold_24 ?_
      refine bz_eq (pc := 27) 44 dX11_spreadTold_27 rfl (fun c4 => ?_) (fun c4 => ?_)
      · replace hf := am_ifT c4 hf
        refine g_aload_n (pc := 44) 0 rfl dX11_spreadTold_44 rfl ?_
        refine g_bipush (pc := 45) (v := 8) dX11_spreadTold_45 (by decide) ?_
        obtain ⟨p5, hp5, hf⟩ := am_bd hf
        refine g_cV (pc := 47) (As := [.int 8]) (st := []) (st1 := [.int p5.1]) (in_11 hX.1 (by omega)) kk_11 mV_X11_none ln_X11_124 rfl (Nat.le_of_ble_eq_true rfl) (Nat.le_of_ble_eq_true rfl) (k_X11_none hX 8 σ hp5) dX11_spreadTold_47 rfl rfl ?_
        have ho := Option.some.inj hf
        subst ho
        exact g_ireturn (pc := 50) (st := []) rfl dX11_spreadTold_50 hk
      replace hf := am_ifF c4 hf
      refine g_aload_n (pc := 30) 0 rfl dX11_spreadTold_30 rfl ?_
      refine g_aload_n (pc := 31) 0 rfl dX11_spreadTold_31 rfl ?_
      refine g_getC (pc := 32) (e := 0) (in_11 hX.1 (by omega)) fr_X11_89 dX11_spreadTold_32 rfl ?_
      refine g_getI (pc := 35) (in_0 hX.1 (by omega)) fr_X11_415 dX11_spreadTold_35 ?_
      obtain ⟨p6, hp6, hf⟩ := am_bd hf
      refine g_cV (pc := 38) (As := [.int (σ.1 0 0 16)]) (st := []) (st1 := [.int p6.1]) (in_11 hX.1 (by omega)) kk_11 mV_X11_answer ln_X11_176 rfl (Nat.le_of_ble_eq_true rfl) (Nat.le_of_ble_eq_true rfl) (k_X11_answer hX (σ.1 0 0 16) σ hp6) dX11_spreadTold_38 rfl rfl ?_
      refine g_goto (pc := 41) 50 dX11_spreadTold_41 rfl ?_
      have ho := Option.some.inj hf
      subst ho
      exact g_ireturn (pc := 50) (st := []) rfl dX11_spreadTold_50 hk
    replace hf := am_ifF c3 hf
    refine g_aload_n (pc := 51) 0 rfl dX11_spreadTold_51 rfl ?_
    refine g_getC (pc := 52) (e := 0) (in_11 hX.1 (by omega)) fr_X11_89 dX11_spreadTold_52 rfl ?_
    refine g_getI (pc := 55) (in_0 hX.1 (by omega)) fr_X11_409 dX11_spreadTold_55 ?_
    refine g_iconst (pc := 58) (v := (-1)) dX11_spreadTold_58 (by decide) ?_
    refine bi_ne (pc := 59) 69 dX11_spreadTold_59 rfl (fun c7 => ?_) (fun c7 => ?_)
    · replace hf := am_ifT c7 hf
      refine g_aload_n (pc := 62) 0 rfl dX11_spreadTold_62 rfl ?_
      refine g_bipush (pc := 63) (v := 8) dX11_spreadTold_63 (by decide) ?_
      obtain ⟨p8, hp8, hf⟩ := am_bd hf
      refine g_cV (pc := 65) (As := [.int 8]) (st := []) (st1 := [.int p8.1]) (in_11 hX.1 (by omega)) kk_11 mV_X11_none ln_X11_124 rfl (Nat.le_of_ble_eq_true rfl) (Nat.le_of_ble_eq_true rfl) (k_X11_none hX 8 σ hp8) dX11_spreadTold_65 rfl rfl ?_
      have ho := Option.some.inj hf
      subst ho
      exact g_ireturn (pc := 68) (st := []) rfl dX11_spreadTold_68 hk
    replace hf := am_ifF c7 hf
    refine g_aload_n (pc := 69) 0 rfl dX11_spreadTold_69 rfl ?_
    refine g_iload_n (pc := 70) 1 rfl dX11_spreadTold_70 rfl ?_
    refine bz_ne (pc := 71) 84 dX11_spreadTold_71 rfl (fun c9 => ?_) (fun c9 => ?_)
    · replace hf := am_ifT c9 hf
      refine g_aload_n (pc := 74) 0 rfl dX11_spreadTold_74 rfl ?_
      refine g_getC (pc := 75) (e := 0) (in_11 hX.1 (by omega)) fr_X11_89 dX11_spreadTold_75 rfl ?_
      refine g_getI (pc := 78) (in_0 hX.1 (by omega)) fr_X11_418 dX11_spreadTold_78 ?_
      refine g_goto (pc := 81) 91 dX11_spreadTold_81 rfl ?_
      exact am_sub [] rfl (q_X11_spreadTold_91 hX (σ.1 0 0 14) σ hf hk)
    replace hf := am_ifF c9 hf
    refine g_aload_n (pc := 84) 0 rfl dX11_spreadTold_84 rfl ?_
    refine g_getC (pc := 85) (e := 0) (in_11 hX.1 (by omega)) fr_X11_89 dX11_spreadTold_85 rfl ?_
    refine g_getI (pc := 88) (in_0 hX.1 (by omega)) fr_X11_421 dX11_spreadTold_88 ?_
    exact am_sub [] rfl (q_X11_spreadTold_91 hX (σ.1 0 0 15) σ hf hk)
  replace hf := am_ifF c2 hf
  refine g_aload_n (pc := 9) 0 rfl dX11_spreadTold_9 rfl ?_
  refine g_iconst (pc := 10) (v := 5) dX11_spreadTold_10 (by decide) ?_
  obtain ⟨p10, hp10, hf⟩ := am_bd hf
  refine g_cV (pc := 11) (As := [.int 5]) (st := []) (st1 := [.int p10.1]) (in_11 hX.1 (by omega)) kk_11 mV_X11_none ln_X11_124 rfl (Nat.le_of_ble_eq_true rfl) (Nat.le_of_ble_eq_true rfl) (k_X11_none hX 5 σ hp10) dX11_spreadTold_11 rfl rfl ?_
  have ho := Option.some.inj hf
  subst ho
  exact g_ireturn (pc := 14) (st := []) rfl dX11_spreadTold_14 hk
theorem k_X11_spreadTold {X : am_X} (hX : am_wC X) (v1 : Int32) (σ : am_H) {o : Int32 × am_H} (hf : f_X11_spreadTold v1 σ = some o) : am_C X gm_X11_spreadTold [.ref (am_ad X 11 0), .int v1] σ (am_is (some (.int o.1)) o.2) :=
  am_ofG rfl (Nat.le_of_ble_eq_true rfl) rfl (q_X11_spreadTold hX v1 σ hf ⟨rfl, rfl⟩)
theorem dX11_compare_0 : decode cX11_compare 0 = .ok (.iload_n 1, 1) := by decide +kernel
theorem dX11_compare_1 : decode cX11_compare 1 = .ok (.iload_n 2, 1) := by decide +kernel
theorem dX11_compare_2 : decode cX11_compare 2 = .ok (.sipush 2000, 3) := by decide +kernel
theorem dX11_compare_5 : decode cX11_compare 5 = .ok (.invokestatic 236, 3) := by decide +kernel
theorem dX11_compare_8 : decode cX11_compare 8 = .ok (.ifCond .eq 14, 3) := by decide +kernel
theorem dX11_compare_11 : decode cX11_compare 11 = .ok (.iload_n 3, 1) := by decide +kernel
theorem dX11_compare_12 : decode cX11_compare 12 = .ok (.iconst 0, 1) := by decide +kernel
theorem dX11_compare_13 : decode cX11_compare 13 = .ok (.ldc_w 372, 3) := by decide +kernel
theorem dX11_compare_16 : decode cX11_compare 16 = .ok (.invokestatic 222, 3) := by decide +kernel
theorem dX11_compare_19 : decode cX11_compare 19 = .ok (.ifCond .ne 9, 3) := by decide +kernel
theorem dX11_compare_22 : decode cX11_compare 22 = .ok (.aload_n 0, 1) := by decide +kernel
theorem dX11_compare_23 : decode cX11_compare 23 = .ok (.iconst 5, 1) := by decide +kernel
theorem dX11_compare_24 : decode cX11_compare 24 = .ok (.invokevirtual 124, 3) := by decide +kernel
theorem dX11_compare_27 : decode cX11_compare 27 = .ok (.ireturn, 1) := by decide +kernel
theorem dX11_compare_28 : decode cX11_compare 28 = .ok (.iload_n 1, 1) := by decide +kernel
theorem dX11_compare_29 : decode cX11_compare 29 = .ok (.istore 4, 2) := by decide +kernel
theorem dX11_compare_31 : decode cX11_compare 31 = .ok (.iload 4, 2) := by decide +kernel
theorem dX11_compare_33 : decode cX11_compare 33 = .ok (.iload_n 2, 1) := by decide +kernel
theorem dX11_compare_34 : decode cX11_compare 34 = .ok (.if_icmp .gt 54, 3) := by decide +kernel
theorem dX11_compare_37 : decode cX11_compare 37 = .ok (.aload_n 0, 1) := by decide +kernel
theorem dX11_compare_38 : decode cX11_compare 38 = .ok (.getfield 36, 3) := by decide +kernel
theorem dX11_compare_41 : decode cX11_compare 41 = .ok (.iconst 0, 1) := by decide +kernel
theorem dX11_compare_42 : decode cX11_compare 42 = .ok (.aaload, 1) := by decide +kernel
theorem dX11_compare_43 : decode cX11_compare 43 = .ok (.iload 4, 2) := by decide +kernel
theorem dX11_compare_45 : decode cX11_compare 45 = .ok (.i2l, 1) := by decide +kernel
theorem dX11_compare_46 : decode cX11_compare 46 = .ok (.iconst 1, 1) := by decide +kernel
theorem dX11_compare_47 : decode cX11_compare 47 = .ok (.invokevirtual 233, 3) := by decide +kernel
theorem dX11_compare_50 : decode cX11_compare 50 = .ok (.aload_n 0, 1) := by decide +kernel
theorem dX11_compare_51 : decode cX11_compare 51 = .ok (.getfield 36, 3) := by decide +kernel
theorem dX11_compare_54 : decode cX11_compare 54 = .ok (.iconst 1, 1) := by decide +kernel
theorem dX11_compare_55 : decode cX11_compare 55 = .ok (.aaload, 1) := by decide +kernel
theorem dX11_compare_56 : decode cX11_compare 56 = .ok (.iload 4, 2) := by decide +kernel
theorem dX11_compare_58 : decode cX11_compare 58 = .ok (.i2l, 1) := by decide +kernel
theorem dX11_compare_59 : decode cX11_compare 59 = .ok (.iconst 1, 1) := by decide +kernel
theorem dX11_compare_60 : decode cX11_compare 60 = .ok (.invokevirtual 233, 3) := by decide +kernel
theorem dX11_compare_63 : decode cX11_compare 63 = .ok (.isub, 1) := by decide +kernel
theorem dX11_compare_64 : decode cX11_compare 64 = .ok (.istore 5, 2) := by decide +kernel
theorem dX11_compare_66 : decode cX11_compare 66 = .ok (.iload 5, 2) := by decide +kernel
theorem dX11_compare_68 : decode cX11_compare 68 = .ok (.invokestatic 424, 3) := by decide +kernel
theorem dX11_compare_71 : decode cX11_compare 71 = .ok (.iload_n 3, 1) := by decide +kernel
theorem dX11_compare_72 : decode cX11_compare 72 = .ok (.if_icmp .le 10, 3) := by decide +kernel
theorem dX11_compare_75 : decode cX11_compare 75 = .ok (.aload_n 0, 1) := by decide +kernel
theorem dX11_compare_76 : decode cX11_compare 76 = .ok (.iload 4, 2) := by decide +kernel
theorem dX11_compare_78 : decode cX11_compare 78 = .ok (.invokevirtual 176, 3) := by decide +kernel
theorem dX11_compare_81 : decode cX11_compare 81 = .ok (.ireturn, 1) := by decide +kernel
theorem dX11_compare_82 : decode cX11_compare 82 = .ok (.iinc 4 1, 3) := by decide +kernel
theorem dX11_compare_85 : decode cX11_compare 85 = .ok (.goto (-54), 3) := by decide +kernel
theorem dX11_compare_88 : decode cX11_compare 88 = .ok (.aload_n 0, 1) := by decide +kernel
theorem dX11_compare_89 : decode cX11_compare 89 = .ok (.iconst (-1), 1) := by decide +kernel
theorem dX11_compare_90 : decode cX11_compare 90 = .ok (.invokevirtual 176, 3) := by decide +kernel
theorem dX11_compare_93 : decode cX11_compare 93 = .ok (.ireturn, 1) := by decide +kernel
noncomputable def f_X11_compare_31 (v2 : Int32) (v3 : Int32) (v4 : Int32) (σ : am_H) : Option ((Int32) ⊕ ((Int32) ⊕ (Unit))) :=
  if v2 < v4 then
   (some (.inr (.inr ())))
  else
  (am_ix 2 0).bind fun j2 =>
  (am_rr 3 (σ.2.2 1205 0 j2)).bind fun a3 =>
  (f_X3_heightAt a3 (Int32.toInt64 v4) true σ).bind fun p4 =>
  (am_ix 2 1).bind fun j5 =>
  (am_rr 3 (σ.2.2 1205 0 j5)).bind fun a6 =>
  (f_X3_heightAt a6 (Int32.toInt64 v4) true σ).bind fun p7 =>
  if v3 < (am_ab (p4 - p7)) then
   (some (.inr (.inl v4)))
  else
  some (.inl (v4 + 1))
set_option maxRecDepth 100000 in
set_option maxHeartbeats 4000000 in
theorem q_X11_compare_31 {X : am_X} (hX : am_wC X) {Q : Option Value → am_H → Prop} (v2 : Int32) (v3 : Int32) (v4 : Int32) (σ : am_H) {o : (Int32) ⊕ ((Int32) ⊕ (Unit))} (hf : f_X11_compare_31 v2 v3 v4 σ = some o) (hk0 : ∀ s, o = .inl s → am_G X gm_X11_compare Q 31 [(0, .ref (am_ad X 11 0)), (2, .int v2), (3, .int v3), (4, .int s)] [] σ) (hk1 : ∀ t, o = .inr (.inl t) → am_G X gm_X11_compare Q 75 [(0, .ref (am_ad X 11 0)), (4, .int t)] [] σ) (hk2 : ∀ t, o = .inr (.inr t) → am_G X gm_X11_compare Q 88 [(0, .ref (am_ad X 11 0))] [] σ) : am_G X gm_X11_compare Q 31 [(0, .ref (am_ad X 11 0)), (2, .int v2), (3, .int v3), (4, .int v4)] [] σ := by
  unfold f_X11_compare_31 at hf
  refine g_iload (pc := 31) 3 rfl dX11_compare_31 ?_
  refine g_iload_n (pc := 33) 1 rfl dX11_compare_33 rfl ?_
  refine bi_gt (pc := 34) 88 dX11_compare_34 rfl (fun c1 => ?_) (fun c1 => ?_)
  · replace hf := am_ifT c1 hf
    have hz := hk2 _ (Option.some.inj hf).symm
    exact am_sub [0] rfl hz
  replace hf := am_ifF c1 hf
  refine g_aload_n (pc := 37) 0 rfl dX11_compare_37 rfl ?_
  refine g_getC (pc := 38) (e := 0) (in_11 hX.1 (by omega)) fr_X11_36 dX11_compare_38 rfl ?_
  refine g_iconst (pc := 41) (v := 0) dX11_compare_41 (by decide) ?_
  obtain ⟨j2, hj2, hf⟩ := am_bd hf
  have gj2 := am_ix_lt hj2
  obtain ⟨a3, ha3, hf⟩ := am_bd hf
  obtain ⟨ha3, ga3⟩ := am_rr_in ha3
  refine g_aM (pc := 42) (in_1205 hX.1 (by omega)) ak_1205 hj2 ha3 dX11_compare_42 ?_
  refine g_iload (pc := 43) 3 rfl dX11_compare_43 ?_
  refine g_i2l (pc := 45) dX11_compare_45 ?_
  refine g_iconst (pc := 46) (v := 1) dX11_compare_46 (by decide) ?_
  obtain ⟨p4, hp4, hf⟩ := am_bd hf
  refine g_cV (pc := 47) (As := [.long (Int32.toInt64 v4), .int (am_b true)]) (st := []) (st1 := [.int p4]) (in_3 hX.1 (by omega)) kk_3 mV_X3_heightAt ln_X11_233 rfl (Nat.le_of_ble_eq_true rfl) (Nat.le_of_ble_eq_true rfl) (k_X3_heightAt hX a3 (Int32.toInt64 v4) true (by omega) σ hp4) dX11_compare_47 rfl rfl ?_
  refine g_aload_n (pc := 50) 0 rfl dX11_compare_50 rfl ?_
  refine g_getC (pc := 51) (e := 0) (in_11 hX.1 (by omega)) fr_X11_36 dX11_compare_51 rfl ?_
  refine g_iconst (pc := 54) (v := 1) dX11_compare_54 (by decide) ?_
  obtain ⟨j5, hj5, hf⟩ := am_bd hf
  have gj5 := am_ix_lt hj5
  obtain ⟨a6, ha6, hf⟩ := am_bd hf
  obtain ⟨ha6, ga6⟩ := am_rr_in ha6
  refine g_aM (pc := 55) (in_1205 hX.1 (by omega)) ak_1205 hj5 ha6 dX11_compare_55 ?_
  refine g_iload (pc := 56) 3 rfl dX11_compare_56 ?_
  refine g_i2l (pc := 58) dX11_compare_58 ?_
  refine g_iconst (pc := 59) (v := 1) dX11_compare_59 (by decide) ?_
  obtain ⟨p7, hp7, hf⟩ := am_bd hf
  refine g_cV (pc := 60) (As := [.long (Int32.toInt64 v4), .int (am_b true)]) (st := [.int p4]) (st1 := [.int p7, .int p4]) (in_3 hX.1 (by omega)) kk_3 mV_X3_heightAt ln_X11_233 rfl (Nat.le_of_ble_eq_true rfl) (Nat.le_of_ble_eq_true rfl) (k_X3_heightAt hX a6 (Int32.toInt64 v4) true (by omega) σ hp7) dX11_compare_60 rfl rfl ?_
  refine g_isub (pc := 63) dX11_compare_63 ?_
  refine g_istore (pc := 64) [(5, .int (p4 - p7)), (0, .ref (am_ad X 11 0)), (2, .int v2), (3, .int v3), (4, .int v4)] dX11_compare_64 (Nat.le_of_ble_eq_true rfl) rfl ?_
  refine g_iload (pc := 66) 0 rfl dX11_compare_66 ?_
  refine g_mabs (pc := 68) (Nat.le_of_ble_eq_true rfl) (Nat.le_of_ble_eq_true rfl) sp_X11_424 dX11_compare_68 ?_
  refine g_iload_n (pc := 71) 3 rfl dX11_compare_71 rfl ?_
  refine bi_le (pc := 72) 82 dX11_compare_72 rfl (fun c8 => ?_) (fun c8 => ?_)
  · replace hf := am_ifT c8 hf
    have hz := hk1 _ (Option.some.inj hf).symm
    exact am_sub [1, 4] rfl hz
  replace hf := am_ifF c8 hf
  refine g_iinc (pc := 82) (v := (v4 + 1)) 4 [(4, .int (v4 + 1)), (5, .int (p4 - p7)), (0, .ref (am_ad X 11 0)), (2, .int v2), (3, .int v3)] dX11_compare_82 rfl rfl (Nat.le_of_ble_eq_true rfl) rfl ?_
  refine g_goto (pc := 85) 31 dX11_compare_85 rfl ?_
  have hz := hk0 _ (Option.some.inj hf).symm
  exact am_sub [2, 3, 4, 0] rfl hz
set_option maxRecDepth 100000 in
set_option maxHeartbeats 4000000 in
theorem l_X11_compare_31 {X : am_X} (hX : am_wC X) {Q : Option Value → am_H → Prop} (v2 : Int32) (v3 : Int32) (σ : am_H) (s : Int32) {o : (Int32) ⊕ (Unit)} (hf : am_loop (fun s => f_X11_compare_31 v2 v3 s σ) s = some o) (hk1 : ∀ t, o = (.inl t) → am_G X gm_X11_compare Q 75 [(0, .ref (am_ad X 11 0)), (4, .int t)] [] σ) (hk2 : ∀ t, o = (.inr t) → am_G X gm_X11_compare Q 88 [(0, .ref (am_ad X 11 0))] [] σ) : am_G X gm_X11_compare Q 31 [(0, .ref (am_ad X 11 0)), (2, .int v2), (3, .int v3), (4, .int s)] [] σ := by
  refine am_loop_ind (P := fun s => am_G X gm_X11_compare Q 31 [(0, .ref (am_ad X 11 0)), (2, .int v2), (3, .int v3), (4, .int s)] [] σ) (K := fun r => r = o) ?_ hf rfl
  intro s o1 hb hi hr
  exact q_X11_compare_31 hX v2 v3 s  σ hb hi (fun t e => hk1 t (hr _ e).symm) (fun t e => hk2 t (hr _ e).symm)
noncomputable def f_X11_compare_22 (σ : am_H) : Option (Int32 × am_H) :=
  (f_X11_none 5 σ).bind fun p1 =>
  some (p1.1, p1.2)
set_option maxRecDepth 100000 in
set_option maxHeartbeats 4000000 in
theorem q_X11_compare_22 {X : am_X} (hX : am_wC X) {Q : Option Value → am_H → Prop} (σ : am_H) {o : Int32 × am_H} (hf : f_X11_compare_22 σ = some o) (hk : Q (some (.int o.1)) o.2) : am_G X gm_X11_compare Q 22 [(0, .ref (am_ad X 11 0))] [] σ := by
  unfold f_X11_compare_22 at hf
  refine g_aload_n (pc := 22) 0 rfl dX11_compare_22 rfl ?_
  refine g_iconst (pc := 23) (v := 5) dX11_compare_23 (by decide) ?_
  obtain ⟨p1, hp1, hf⟩ := am_bd hf
  refine g_cV (pc := 24) (As := [.int 5]) (st := []) (st1 := [.int p1.1]) (in_11 hX.1 (by omega)) kk_11 mV_X11_none ln_X11_124 rfl (Nat.le_of_ble_eq_true rfl) (Nat.le_of_ble_eq_true rfl) (k_X11_none hX 5 σ hp1) dX11_compare_24 rfl rfl ?_
  have ho := Option.some.inj hf
  subst ho
  exact g_ireturn (pc := 27) (st := []) rfl dX11_compare_27 hk
noncomputable def f_X11_compare (v1 : Int32) (v2 : Int32) (v3 : Int32) (σ : am_H) : Option (Int32 × am_H) :=
  (f_X11_isSpan v1 v2 2000 σ).bind fun p1 =>
  if p1 = true then
   ((f_X11_isWithin v3 0 99999 σ).bind fun p3 =>
   if p3 = true then
    ((am_loop (fun s => f_X11_compare_31 v2 v3 s σ) v1).bind fun w5 =>
    Sum.elim (fun t5_0 =>
     (f_X11_answer t5_0 σ).bind fun p6 =>
     some (p6.1, p6.2)) (fun u5_0 =>
     (f_X11_answer (-1) σ).bind fun p7 =>
     some (p7.1, p7.2)) w5)
   else
   f_X11_compare_22 σ)
  else
  f_X11_compare_22 σ
set_option maxRecDepth 100000 in
set_option maxHeartbeats 4000000 in
theorem q_X11_compare {X : am_X} (hX : am_wC X) {Q : Option Value → am_H → Prop} (v1 : Int32) (v2 : Int32) (v3 : Int32) (σ : am_H) {o : Int32 × am_H} (hf : f_X11_compare v1 v2 v3 σ = some o) (hk : Q (some (.int o.1)) o.2) : am_G X gm_X11_compare Q 0 [(0, .ref (am_ad X 11 0)), (1, .int v1), (2, .int v2), (3, .int v3)] [] σ := by
  unfold f_X11_compare at hf
  refine g_iload_n (pc := 0) 1 rfl dX11_compare_0 rfl ?_
  refine g_iload_n (pc := 1) 2 rfl dX11_compare_1 rfl ?_
  refine g_sipush (pc := 2) (v := 2000) dX11_compare_2 (by decide) ?_
  obtain ⟨p1, hp1, hf⟩ := am_bd hf
  refine g_cS (pc := 5) (As := [.int v1, .int v2, .int 2000]) (st := []) (st1 := [.int (am_b p1)]) mS_X11_isSpan ln_X11_236 rfl (Nat.le_of_ble_eq_true rfl) (Nat.le_of_ble_eq_true rfl) (k_X11_isSpan hX v1 v2 2000 σ hp1) dX11_compare_5 rfl rfl ?_
  refine bt_eq (pc := 8) 22 dX11_compare_8 rfl (fun c2 => ?_) (fun c2 => ?_)
  · replace hf := am_ifT c2 hf
    refine g_iload_n (pc := 11) 3 rfl dX11_compare_11 rfl ?_
    refine g_iconst (pc := 12) (v := 0) dX11_compare_12 (by decide) ?_
    refine g_ldcw (pc := 13) (v := 99999) (tb_4 (List.mem_of_getElem? (i := 169) (by decide +kernel))) dX11_compare_13 ?_
    obtain ⟨p3, hp3, hf⟩ := am_bd hf
    refine g_cS (pc := 16) (As := [.int v3, .int 0, .int 99999]) (st := []) (st1 := [.int (am_b p3)]) mS_X11_isWithin ln_X11_222 rfl (Nat.le_of_ble_eq_true rfl) (Nat.le_of_ble_eq_true rfl) (k_X11_isWithin hX v3 0 99999 σ hp3) dX11_compare_16 rfl rfl ?_
    refine bt_ne (pc := 19) 28 dX11_compare_19 rfl (fun c4 => ?_) (fun c4 => ?_)
    · replace hf := am_ifT c4 hf
      refine g_iload_n (pc := 28) 1 rfl dX11_compare_28 rfl ?_
      refine g_istore (pc := 29) [(4, .int v1), (0, .ref (am_ad X 11 0)), (1, .int v1), (2, .int v2), (3, .int v3)] dX11_compare_29 (Nat.le_of_ble_eq_true rfl) rfl ?_
      obtain ⟨w5, hw5, hf⟩ := am_bd hf
      refine am_sub [1, 3, 4, 0] rfl (l_X11_compare_31 hX v2 v3  σ v1 hw5 ?_ ?_)
      · intro t5_0 e
        subst e
        replace hf := am_elL hf
        refine g_aload_n (pc := 75) 0 rfl dX11_compare_75 rfl ?_
        refine g_iload (pc := 76) 1 rfl dX11_compare_76 ?_
        obtain ⟨p6, hp6, hf⟩ := am_bd hf
        refine g_cV (pc := 78) (As := [.int t5_0]) (st := []) (st1 := [.int p6.1]) (in_11 hX.1 (by omega)) kk_11 mV_X11_answer ln_X11_176 rfl (Nat.le_of_ble_eq_true rfl) (Nat.le_of_ble_eq_true rfl) (k_X11_answer hX t5_0 σ hp6) dX11_compare_78 rfl rfl ?_
        have ho := Option.some.inj hf
        subst ho
        exact g_ireturn (pc := 81) (st := []) rfl dX11_compare_81 hk
      · intro u5_0 e
        subst e
        replace hf := am_elR hf
        refine g_aload_n (pc := 88) 0 rfl dX11_compare_88 rfl ?_
        refine g_iconst (pc := 89) (v := (-1)) dX11_compare_89 (by decide) ?_
        obtain ⟨p7, hp7, hf⟩ := am_bd hf
        refine g_cV (pc := 90) (As := [.int (-1)]) (st := []) (st1 := [.int p7.1]) (in_11 hX.1 (by omega)) kk_11 mV_X11_answer ln_X11_176 rfl (Nat.le_of_ble_eq_true rfl) (Nat.le_of_ble_eq_true rfl) (k_X11_answer hX (-1) σ hp7) dX11_compare_90 rfl rfl ?_
        have ho := Option.some.inj hf
        subst ho
        exact g_ireturn (pc := 93) (st := []) rfl dX11_compare_93 hk
    replace hf := am_ifF c4 hf
    exact am_sub [0] rfl (q_X11_compare_22 hX σ hf hk)
  replace hf := am_ifF c2 hf
  exact am_sub [0] rfl (q_X11_compare_22 hX σ hf hk)
theorem k_X11_compare {X : am_X} (hX : am_wC X) (v1 : Int32) (v2 : Int32) (v3 : Int32) (σ : am_H) {o : Int32 × am_H} (hf : f_X11_compare v1 v2 v3 σ = some o) : am_C X gm_X11_compare [.ref (am_ad X 11 0), .int v1, .int v2, .int v3] σ (am_is (some (.int o.1)) o.2) :=
  am_ofG rfl (Nat.le_of_ble_eq_true rfl) rfl (q_X11_compare hX v1 v2 v3 σ hf ⟨rfl, rfl⟩)
theorem dX11_waters_0 : decode cX11_waters 0 = .ok (.aload_n 0, 1) := by decide +kernel
theorem dX11_waters_1 : decode cX11_waters 1 = .ok (.iload_n 1, 1) := by decide +kernel
theorem dX11_waters_2 : decode cX11_waters 2 = .ok (.invokevirtual 159, 3) := by decide +kernel
theorem dX11_waters_5 : decode cX11_waters 5 = .ok (.astore 5, 2) := by decide +kernel
theorem dX11_waters_7 : decode cX11_waters 7 = .ok (.aload 5, 2) := by decide +kernel
theorem dX11_waters_9 : decode cX11_waters 9 = .ok (.ifnonnull 9, 3) := by decide +kernel
theorem dX11_waters_12 : decode cX11_waters 12 = .ok (.aload_n 0, 1) := by decide +kernel
theorem dX11_waters_13 : decode cX11_waters 13 = .ok (.iconst 2, 1) := by decide +kernel
theorem dX11_waters_14 : decode cX11_waters 14 = .ok (.invokevirtual 124, 3) := by decide +kernel
theorem dX11_waters_17 : decode cX11_waters 17 = .ok (.ireturn, 1) := by decide +kernel
theorem dX11_waters_18 : decode cX11_waters 18 = .ok (.iload_n 2, 1) := by decide +kernel
theorem dX11_waters_19 : decode cX11_waters 19 = .ok (.iconst 0, 1) := by decide +kernel
theorem dX11_waters_20 : decode cX11_waters 20 = .ok (.sipush 4166, 3) := by decide +kernel
theorem dX11_waters_23 : decode cX11_waters 23 = .ok (.invokestatic 222, 3) := by decide +kernel
theorem dX11_waters_26 : decode cX11_waters 26 = .ok (.ifCond .ne 9, 3) := by decide +kernel
theorem dX11_waters_29 : decode cX11_waters 29 = .ok (.aload_n 0, 1) := by decide +kernel
theorem dX11_waters_30 : decode cX11_waters 30 = .ok (.iconst 5, 1) := by decide +kernel
theorem dX11_waters_31 : decode cX11_waters 31 = .ok (.invokevirtual 124, 3) := by decide +kernel
theorem dX11_waters_34 : decode cX11_waters 34 = .ok (.ireturn, 1) := by decide +kernel
theorem dX11_waters_35 : decode cX11_waters 35 = .ok (.aload_n 0, 1) := by decide +kernel
theorem dX11_waters_36 : decode cX11_waters 36 = .ok (.aload 5, 2) := by decide +kernel
theorem dX11_waters_38 : decode cX11_waters 38 = .ok (.iload_n 2, 1) := by decide +kernel
theorem dX11_waters_39 : decode cX11_waters 39 = .ok (.iload_n 3, 1) := by decide +kernel
theorem dX11_waters_40 : decode cX11_waters 40 = .ok (.iload 4, 2) := by decide +kernel
theorem dX11_waters_42 : decode cX11_waters 42 = .ok (.invokevirtual 427, 3) := by decide +kernel
theorem dX11_waters_45 : decode cX11_waters 45 = .ok (.invokevirtual 176, 3) := by decide +kernel
theorem dX11_waters_48 : decode cX11_waters 48 = .ok (.ireturn, 1) := by decide +kernel
noncomputable def f_X11_waters (v1 : Int32) (v2 : Int32) (v3 : Bool) (v4 : Bool) (σ : am_H) : Option (Int32 × am_H) :=
  (f_X11_machineOf v1 σ).bind fun p1 =>
  am_nn 3 p1
   ((f_X11_none 2 σ).bind fun p3 =>
   some (p3.1, p3.2))
   (fun a2 =>
   (f_X11_isWithin v2 0 4166 σ).bind fun p4 =>
   if p4 = true then
    ((f_X3_watersOf a2 v2 v3 v4 σ).bind fun p6 =>
    (f_X11_answer p6 σ).bind fun p7 =>
    some (p7.1, p7.2))
   else
   (f_X11_none 5 σ).bind fun p8 =>
   some (p8.1, p8.2))
set_option maxRecDepth 100000 in
set_option maxHeartbeats 4000000 in
theorem q_X11_waters {X : am_X} (hX : am_wC X) {Q : Option Value → am_H → Prop} (v1 : Int32) (v2 : Int32) (v3 : Bool) (v4 : Bool) (σ : am_H) {o : Int32 × am_H} (hf : f_X11_waters v1 v2 v3 v4 σ = some o) (hk : Q (some (.int o.1)) o.2) : am_G X gm_X11_waters Q 0 [(0, .ref (am_ad X 11 0)), (1, .int v1), (2, .int v2), (3, .int (am_b v3)), (4, .int (am_b v4))] [] σ := by
  unfold f_X11_waters at hf
  refine g_aload_n (pc := 0) 0 rfl dX11_waters_0 rfl ?_
  refine g_iload_n (pc := 1) 1 rfl dX11_waters_1 rfl ?_
  obtain ⟨p1, hp1, hf⟩ := am_bd hf
  have hq := am_nn_c hf
  clear hf
  rcases hq with ⟨ep1, hf⟩ | ⟨a2, ep1, ga2, hf⟩
  · subst ep1
    refine g_cV (pc := 2) (As := [.int v1]) (st := []) (st1 := [.null]) (in_11 hX.1 (by omega)) kk_11 mV_X11_machineOf ln_X11_159 rfl (Nat.le_of_ble_eq_true rfl) (Nat.le_of_ble_eq_true rfl) (k_X11_machineOf hX v1 σ hp1) dX11_waters_2 rfl rfl ?_
    refine g_astoreN (pc := 5) [(5, .null), (0, .ref (am_ad X 11 0)), (1, .int v1), (2, .int v2), (3, .int (am_b v3)), (4, .int (am_b v4))] dX11_waters_5 (Nat.le_of_ble_eq_true rfl) rfl ?_
    refine g_aloadN (pc := 7) 0 rfl dX11_waters_7 ?_
    refine g_ifnonnullN (pc := 9) dX11_waters_9 ?_
    refine g_aload_n (pc := 12) 1 rfl dX11_waters_12 rfl ?_
    refine g_iconst (pc := 13) (v := 2) dX11_waters_13 (by decide) ?_
    obtain ⟨p3, hp3, hf⟩ := am_bd hf
    refine g_cV (pc := 14) (As := [.int 2]) (st := []) (st1 := [.int p3.1]) (in_11 hX.1 (by omega)) kk_11 mV_X11_none ln_X11_124 rfl (Nat.le_of_ble_eq_true rfl) (Nat.le_of_ble_eq_true rfl) (k_X11_none hX 2 σ hp3) dX11_waters_14 rfl rfl ?_
    have ho := Option.some.inj hf
    subst ho
    exact g_ireturn (pc := 17) (st := []) rfl dX11_waters_17 hk
  · subst ep1
    refine g_cV (pc := 2) (As := [.int v1]) (st := []) (st1 := [.ref (am_ad X 3 a2)]) (in_11 hX.1 (by omega)) kk_11 mV_X11_machineOf ln_X11_159 rfl (Nat.le_of_ble_eq_true rfl) (Nat.le_of_ble_eq_true rfl) (k_X11_machineOf hX v1 σ hp1) dX11_waters_2 rfl rfl ?_
    refine g_astore (pc := 5) [(5, .ref (am_ad X 3 a2)), (0, .ref (am_ad X 11 0)), (1, .int v1), (2, .int v2), (3, .int (am_b v3)), (4, .int (am_b v4))] dX11_waters_5 (Nat.le_of_ble_eq_true rfl) rfl ?_
    refine g_aload (pc := 7) 0 rfl dX11_waters_7 ?_
    refine g_ifnonnull (pc := 9) 18 dX11_waters_9 rfl ?_
    refine g_iload_n (pc := 18) 3 rfl dX11_waters_18 rfl ?_
    refine g_iconst (pc := 19) (v := 0) dX11_waters_19 (by decide) ?_
    refine g_sipush (pc := 20) (v := 4166) dX11_waters_20 (by decide) ?_
    obtain ⟨p4, hp4, hf⟩ := am_bd hf
    refine g_cS (pc := 23) (As := [.int v2, .int 0, .int 4166]) (st := []) (st1 := [.int (am_b p4)]) mS_X11_isWithin ln_X11_222 rfl (Nat.le_of_ble_eq_true rfl) (Nat.le_of_ble_eq_true rfl) (k_X11_isWithin hX v2 0 4166 σ hp4) dX11_waters_23 rfl rfl ?_
    refine bt_ne (pc := 26) 35 dX11_waters_26 rfl (fun c5 => ?_) (fun c5 => ?_)
    · replace hf := am_ifT c5 hf
      refine g_aload_n (pc := 35) 1 rfl dX11_waters_35 rfl ?_
      refine g_aload (pc := 36) 0 rfl dX11_waters_36 ?_
      refine g_iload_n (pc := 38) 3 rfl dX11_waters_38 rfl ?_
      refine g_iload_n (pc := 39) 4 rfl dX11_waters_39 rfl ?_
      refine g_iload (pc := 40) 5 rfl dX11_waters_40 ?_
      obtain ⟨p6, hp6, hf⟩ := am_bd hf
      refine g_cV (pc := 42) (As := [.int v2, .int (am_b v3), .int (am_b v4)]) (st := [.ref (am_ad X 11 0)]) (st1 := [.int p6, .ref (am_ad X 11 0)]) (in_3 hX.1 (by omega)) kk_3 mV_X3_watersOf ln_X11_427 rfl (Nat.le_of_ble_eq_true rfl) (Nat.le_of_ble_eq_true rfl) (k_X3_watersOf hX a2 v2 v3 v4 (by omega) σ hp6) dX11_waters_42 rfl rfl ?_
      obtain ⟨p7, hp7, hf⟩ := am_bd hf
      refine g_cV (pc := 45) (As := [.int p6]) (st := []) (st1 := [.int p7.1]) (in_11 hX.1 (by omega)) kk_11 mV_X11_answer ln_X11_176 rfl (Nat.le_of_ble_eq_true rfl) (Nat.le_of_ble_eq_true rfl) (k_X11_answer hX p6 σ hp7) dX11_waters_45 rfl rfl ?_
      have ho := Option.some.inj hf
      subst ho
      exact g_ireturn (pc := 48) (st := []) rfl dX11_waters_48 hk
    replace hf := am_ifF c5 hf
    refine g_aload_n (pc := 29) 1 rfl dX11_waters_29 rfl ?_
    refine g_iconst (pc := 30) (v := 5) dX11_waters_30 (by decide) ?_
    obtain ⟨p8, hp8, hf⟩ := am_bd hf
    refine g_cV (pc := 31) (As := [.int 5]) (st := []) (st1 := [.int p8.1]) (in_11 hX.1 (by omega)) kk_11 mV_X11_none ln_X11_124 rfl (Nat.le_of_ble_eq_true rfl) (Nat.le_of_ble_eq_true rfl) (k_X11_none hX 5 σ hp8) dX11_waters_31 rfl rfl ?_
    have ho := Option.some.inj hf
    subst ho
    exact g_ireturn (pc := 34) (st := []) rfl dX11_waters_34 hk
theorem k_X11_waters {X : am_X} (hX : am_wC X) (v1 : Int32) (v2 : Int32) (v3 : Bool) (v4 : Bool) (σ : am_H) {o : Int32 × am_H} (hf : f_X11_waters v1 v2 v3 v4 σ = some o) : am_C X gm_X11_waters [.ref (am_ad X 11 0), .int v1, .int v2, .int (am_b v3), .int (am_b v4)] σ (am_is (some (.int o.1)) o.2) :=
  am_ofG rfl (Nat.le_of_ble_eq_true rfl) rfl (q_X11_waters hX v1 v2 v3 v4 σ hf ⟨rfl, rfl⟩)
theorem dX11_water_0 : decode cX11_water 0 = .ok (.aload_n 0, 1) := by decide +kernel
theorem dX11_water_1 : decode cX11_water 1 = .ok (.iload_n 1, 1) := by decide +kernel
theorem dX11_water_2 : decode cX11_water 2 = .ok (.invokevirtual 159, 3) := by decide +kernel
theorem dX11_water_5 : decode cX11_water 5 = .ok (.astore 6, 2) := by decide +kernel
theorem dX11_water_7 : decode cX11_water 7 = .ok (.aload 6, 2) := by decide +kernel
theorem dX11_water_9 : decode cX11_water 9 = .ok (.ifnonnull 9, 3) := by decide +kernel
theorem dX11_water_12 : decode cX11_water 12 = .ok (.aload_n 0, 1) := by decide +kernel
theorem dX11_water_13 : decode cX11_water 13 = .ok (.iconst 2, 1) := by decide +kernel
theorem dX11_water_14 : decode cX11_water 14 = .ok (.invokevirtual 124, 3) := by decide +kernel
theorem dX11_water_17 : decode cX11_water 17 = .ok (.ireturn, 1) := by decide +kernel
theorem dX11_water_18 : decode cX11_water 18 = .ok (.iload_n 2, 1) := by decide +kernel
theorem dX11_water_19 : decode cX11_water 19 = .ok (.iconst 0, 1) := by decide +kernel
theorem dX11_water_20 : decode cX11_water 20 = .ok (.sipush 4166, 3) := by decide +kernel
theorem dX11_water_23 : decode cX11_water 23 = .ok (.invokestatic 222, 3) := by decide +kernel
theorem dX11_water_26 : decode cX11_water 26 = .ok (.ifCond .ne 9, 3) := by decide +kernel
theorem dX11_water_29 : decode cX11_water 29 = .ok (.aload_n 0, 1) := by decide +kernel
theorem dX11_water_30 : decode cX11_water 30 = .ok (.iconst 5, 1) := by decide +kernel
theorem dX11_water_31 : decode cX11_water 31 = .ok (.invokevirtual 124, 3) := by decide +kernel
theorem dX11_water_34 : decode cX11_water 34 = .ok (.ireturn, 1) := by decide +kernel
theorem dX11_water_35 : decode cX11_water 35 = .ok (.aload 6, 2) := by decide +kernel
theorem dX11_water_37 : decode cX11_water 37 = .ok (.iload_n 2, 1) := by decide +kernel
theorem dX11_water_38 : decode cX11_water 38 = .ok (.iload_n 3, 1) := by decide +kernel
theorem dX11_water_39 : decode cX11_water 39 = .ok (.iload 4, 2) := by decide +kernel
theorem dX11_water_41 : decode cX11_water 41 = .ok (.iload 5, 2) := by decide +kernel
theorem dX11_water_43 : decode cX11_water 43 = .ok (.invokevirtual 431, 3) := by decide +kernel
theorem dX11_water_46 : decode cX11_water 46 = .ok (.istore 7, 2) := by decide +kernel
theorem dX11_water_48 : decode cX11_water 48 = .ok (.iload 7, 2) := by decide +kernel
theorem dX11_water_50 : decode cX11_water 50 = .ok (.iconst (-1), 1) := by decide +kernel
theorem dX11_water_51 : decode cX11_water 51 = .ok (.if_icmp .ne 12, 3) := by decide +kernel
theorem dX11_water_54 : decode cX11_water 54 = .ok (.aload_n 0, 1) := by decide +kernel
theorem dX11_water_55 : decode cX11_water 55 = .ok (.bipush 8, 2) := by decide +kernel
theorem dX11_water_57 : decode cX11_water 57 = .ok (.invokevirtual 124, 3) := by decide +kernel
theorem dX11_water_60 : decode cX11_water 60 = .ok (.goto 9, 3) := by decide +kernel
theorem dX11_water_63 : decode cX11_water 63 = .ok (.aload_n 0, 1) := by decide +kernel
theorem dX11_water_64 : decode cX11_water 64 = .ok (.iload 7, 2) := by decide +kernel
theorem dX11_water_66 : decode cX11_water 66 = .ok (.invokevirtual 176, 3) := by decide +kernel
theorem dX11_water_69 : decode cX11_water 69 = .ok (.ireturn, 1) := by decide +kernel
noncomputable def f_X11_water (v1 : Int32) (v2 : Int32) (v3 : Bool) (v4 : Bool) (v5 : Int32) (σ : am_H) : Option (Int32 × am_H) :=
  (f_X11_machineOf v1 σ).bind fun p1 =>
  am_nn 3 p1
   ((f_X11_none 2 σ).bind fun p3 =>
   some (p3.1, p3.2))
   (fun a2 =>
   (f_X11_isWithin v2 0 4166 σ).bind fun p4 =>
   if p4 = true then
    ((f_X3_waterOf a2 v2 v3 v4 v5 σ).bind fun p6 =>
    if p6 = (-1) then
     ((f_X11_none 8 σ).bind fun p8 =>
     some (p8.1, p8.2))
    else
    (f_X11_answer p6 σ).bind fun p9 =>
    some (p9.1, p9.2))
   else
   (f_X11_none 5 σ).bind fun p10 =>
   some (p10.1, p10.2))
set_option maxRecDepth 100000 in
set_option maxHeartbeats 4000000 in
theorem q_X11_water {X : am_X} (hX : am_wC X) {Q : Option Value → am_H → Prop} (v1 : Int32) (v2 : Int32) (v3 : Bool) (v4 : Bool) (v5 : Int32) (σ : am_H) {o : Int32 × am_H} (hf : f_X11_water v1 v2 v3 v4 v5 σ = some o) (hk : Q (some (.int o.1)) o.2) : am_G X gm_X11_water Q 0 [(0, .ref (am_ad X 11 0)), (1, .int v1), (2, .int v2), (3, .int (am_b v3)), (4, .int (am_b v4)), (5, .int v5)] [] σ := by
  unfold f_X11_water at hf
  refine g_aload_n (pc := 0) 0 rfl dX11_water_0 rfl ?_
  refine g_iload_n (pc := 1) 1 rfl dX11_water_1 rfl ?_
  obtain ⟨p1, hp1, hf⟩ := am_bd hf
  have hq := am_nn_c hf
  clear hf
  rcases hq with ⟨ep1, hf⟩ | ⟨a2, ep1, ga2, hf⟩
  · subst ep1
    refine g_cV (pc := 2) (As := [.int v1]) (st := []) (st1 := [.null]) (in_11 hX.1 (by omega)) kk_11 mV_X11_machineOf ln_X11_159 rfl (Nat.le_of_ble_eq_true rfl) (Nat.le_of_ble_eq_true rfl) (k_X11_machineOf hX v1 σ hp1) dX11_water_2 rfl rfl ?_
    refine g_astoreN (pc := 5) [(6, .null), (0, .ref (am_ad X 11 0)), (1, .int v1), (2, .int v2), (3, .int (am_b v3)), (4, .int (am_b v4)), (5, .int v5)] dX11_water_5 (Nat.le_of_ble_eq_true rfl) rfl ?_
    refine g_aloadN (pc := 7) 0 rfl dX11_water_7 ?_
    refine g_ifnonnullN (pc := 9) dX11_water_9 ?_
    refine g_aload_n (pc := 12) 1 rfl dX11_water_12 rfl ?_
    refine g_iconst (pc := 13) (v := 2) dX11_water_13 (by decide) ?_
    obtain ⟨p3, hp3, hf⟩ := am_bd hf
    refine g_cV (pc := 14) (As := [.int 2]) (st := []) (st1 := [.int p3.1]) (in_11 hX.1 (by omega)) kk_11 mV_X11_none ln_X11_124 rfl (Nat.le_of_ble_eq_true rfl) (Nat.le_of_ble_eq_true rfl) (k_X11_none hX 2 σ hp3) dX11_water_14 rfl rfl ?_
    have ho := Option.some.inj hf
    subst ho
    exact g_ireturn (pc := 17) (st := []) rfl dX11_water_17 hk
  · subst ep1
    refine g_cV (pc := 2) (As := [.int v1]) (st := []) (st1 := [.ref (am_ad X 3 a2)]) (in_11 hX.1 (by omega)) kk_11 mV_X11_machineOf ln_X11_159 rfl (Nat.le_of_ble_eq_true rfl) (Nat.le_of_ble_eq_true rfl) (k_X11_machineOf hX v1 σ hp1) dX11_water_2 rfl rfl ?_
    refine g_astore (pc := 5) [(6, .ref (am_ad X 3 a2)), (0, .ref (am_ad X 11 0)), (1, .int v1), (2, .int v2), (3, .int (am_b v3)), (4, .int (am_b v4)), (5, .int v5)] dX11_water_5 (Nat.le_of_ble_eq_true rfl) rfl ?_
    refine g_aload (pc := 7) 0 rfl dX11_water_7 ?_
    refine g_ifnonnull (pc := 9) 18 dX11_water_9 rfl ?_
    refine g_iload_n (pc := 18) 3 rfl dX11_water_18 rfl ?_
    refine g_iconst (pc := 19) (v := 0) dX11_water_19 (by decide) ?_
    refine g_sipush (pc := 20) (v := 4166) dX11_water_20 (by decide) ?_
    obtain ⟨p4, hp4, hf⟩ := am_bd hf
    refine g_cS (pc := 23) (As := [.int v2, .int 0, .int 4166]) (st := []) (st1 := [.int (am_b p4)]) mS_X11_isWithin ln_X11_222 rfl (Nat.le_of_ble_eq_true rfl) (Nat.le_of_ble_eq_true rfl) (k_X11_isWithin hX v2 0 4166 σ hp4) dX11_water_23 rfl rfl ?_
    refine bt_ne (pc := 26) 35 dX11_water_26 rfl (fun c5 => ?_) (fun c5 => ?_)
    · replace hf := am_ifT c5 hf
      refine g_aload (pc := 35) 0 rfl dX11_water_35 ?_
      refine g_iload_n (pc := 37) 3 rfl dX11_water_37 rfl ?_
      refine g_iload_n (pc := 38) 4 rfl dX11_water_38 rfl ?_
      refine g_iload (pc := 39) 5 rfl dX11_water_39 ?_
      refine g_iload (pc := 41) 6 rfl dX11_water_41 ?_
      obtain ⟨p6, hp6, hf⟩ := am_bd hf
      refine g_cV (pc := 43) (As := [.int v2, .int (am_b v3), .int (am_b v4), .int v5]) (st := []) (st1 := [.int p6]) (in_3 hX.1 (by omega)) kk_3 mV_X3_waterOf ln_X11_431 rfl (Nat.le_of_ble_eq_true rfl) (Nat.le_of_ble_eq_true rfl) (k_X3_waterOf hX a2 v2 v3 v4 v5 (by omega) σ hp6) dX11_water_43 rfl rfl ?_
      refine g_istore (pc := 46) [(7, .int p6), (6, .ref (am_ad X 3 a2)), (0, .ref (am_ad X 11 0)), (1, .int v1), (2, .int v2), (3, .int (am_b v3)), (4, .int (am_b v4)), (5, .int v5)] dX11_water_46 (Nat.le_of_ble_eq_true rfl) rfl ?_
      refine g_iload (pc := 48) 0 rfl dX11_water_48 ?_
      refine g_iconst (pc := 50) (v := (-1)) dX11_water_50 (by decide) ?_
      refine bi_ne (pc := 51) 63 dX11_water_51 rfl (fun c7 => ?_) (fun c7 => ?_)
      · replace hf := am_ifT c7 hf
        refine g_aload_n (pc := 54) 2 rfl dX11_water_54 rfl ?_
        refine g_bipush (pc := 55) (v := 8) dX11_water_55 (by decide) ?_
        obtain ⟨p8, hp8, hf⟩ := am_bd hf
        refine g_cV (pc := 57) (As := [.int 8]) (st := []) (st1 := [.int p8.1]) (in_11 hX.1 (by omega)) kk_11 mV_X11_none ln_X11_124 rfl (Nat.le_of_ble_eq_true rfl) (Nat.le_of_ble_eq_true rfl) (k_X11_none hX 8 σ hp8) dX11_water_57 rfl rfl ?_
        refine g_goto (pc := 60) 69 dX11_water_60 rfl ?_
        have ho := Option.some.inj hf
        subst ho
        exact g_ireturn (pc := 69) (st := []) rfl dX11_water_69 hk
      replace hf := am_ifF c7 hf
      refine g_aload_n (pc := 63) 2 rfl dX11_water_63 rfl ?_
      refine g_iload (pc := 64) 0 rfl dX11_water_64 ?_
      obtain ⟨p9, hp9, hf⟩ := am_bd hf
      refine g_cV (pc := 66) (As := [.int p6]) (st := []) (st1 := [.int p9.1]) (in_11 hX.1 (by omega)) kk_11 mV_X11_answer ln_X11_176 rfl (Nat.le_of_ble_eq_true rfl) (Nat.le_of_ble_eq_true rfl) (k_X11_answer hX p6 σ hp9) dX11_water_66 rfl rfl ?_
      have ho := Option.some.inj hf
      subst ho
      exact g_ireturn (pc := 69) (st := []) rfl dX11_water_69 hk
    replace hf := am_ifF c5 hf
    refine g_aload_n (pc := 29) 1 rfl dX11_water_29 rfl ?_
    refine g_iconst (pc := 30) (v := 5) dX11_water_30 (by decide) ?_
    obtain ⟨p10, hp10, hf⟩ := am_bd hf
    refine g_cV (pc := 31) (As := [.int 5]) (st := []) (st1 := [.int p10.1]) (in_11 hX.1 (by omega)) kk_11 mV_X11_none ln_X11_124 rfl (Nat.le_of_ble_eq_true rfl) (Nat.le_of_ble_eq_true rfl) (k_X11_none hX 5 σ hp10) dX11_water_31 rfl rfl ?_
    have ho := Option.some.inj hf
    subst ho
    exact g_ireturn (pc := 34) (st := []) rfl dX11_water_34 hk
theorem k_X11_water {X : am_X} (hX : am_wC X) (v1 : Int32) (v2 : Int32) (v3 : Bool) (v4 : Bool) (v5 : Int32) (σ : am_H) {o : Int32 × am_H} (hf : f_X11_water v1 v2 v3 v4 v5 σ = some o) : am_C X gm_X11_water [.ref (am_ad X 11 0), .int v1, .int v2, .int (am_b v3), .int (am_b v4), .int v5] σ (am_is (some (.int o.1)) o.2) :=
  am_ofG rfl (Nat.le_of_ble_eq_true rfl) rfl (q_X11_water hX v1 v2 v3 v4 v5 σ hf ⟨rfl, rfl⟩)
theorem dX11_range_0 : decode cX11_range 0 = .ok (.aload_n 0, 1) := by decide +kernel
theorem dX11_range_1 : decode cX11_range 1 = .ok (.iload_n 1, 1) := by decide +kernel
theorem dX11_range_2 : decode cX11_range 2 = .ok (.invokevirtual 159, 3) := by decide +kernel
theorem dX11_range_5 : decode cX11_range 5 = .ok (.astore 4, 2) := by decide +kernel
theorem dX11_range_7 : decode cX11_range 7 = .ok (.aload 4, 2) := by decide +kernel
theorem dX11_range_9 : decode cX11_range 9 = .ok (.ifnonnull 9, 3) := by decide +kernel
theorem dX11_range_12 : decode cX11_range 12 = .ok (.aload_n 0, 1) := by decide +kernel
theorem dX11_range_13 : decode cX11_range 13 = .ok (.iconst 2, 1) := by decide +kernel
theorem dX11_range_14 : decode cX11_range 14 = .ok (.invokevirtual 124, 3) := by decide +kernel
theorem dX11_range_17 : decode cX11_range 17 = .ok (.ireturn, 1) := by decide +kernel
theorem dX11_range_18 : decode cX11_range 18 = .ok (.iload_n 2, 1) := by decide +kernel
theorem dX11_range_19 : decode cX11_range 19 = .ok (.iconst 0, 1) := by decide +kernel
theorem dX11_range_20 : decode cX11_range 20 = .ok (.sipush 4166, 3) := by decide +kernel
theorem dX11_range_23 : decode cX11_range 23 = .ok (.invokestatic 222, 3) := by decide +kernel
theorem dX11_range_26 : decode cX11_range 26 = .ok (.ifCond .ne 9, 3) := by decide +kernel
theorem dX11_range_29 : decode cX11_range 29 = .ok (.aload_n 0, 1) := by decide +kernel
theorem dX11_range_30 : decode cX11_range 30 = .ok (.iconst 5, 1) := by decide +kernel
theorem dX11_range_31 : decode cX11_range 31 = .ok (.invokevirtual 124, 3) := by decide +kernel
theorem dX11_range_34 : decode cX11_range 34 = .ok (.ireturn, 1) := by decide +kernel
theorem dX11_range_35 : decode cX11_range 35 = .ok (.aload_n 0, 1) := by decide +kernel
theorem dX11_range_36 : decode cX11_range 36 = .ok (.aload 4, 2) := by decide +kernel
theorem dX11_range_38 : decode cX11_range 38 = .ok (.iload_n 2, 1) := by decide +kernel
theorem dX11_range_39 : decode cX11_range 39 = .ok (.iload_n 3, 1) := by decide +kernel
theorem dX11_range_40 : decode cX11_range 40 = .ok (.invokevirtual 435, 3) := by decide +kernel
theorem dX11_range_43 : decode cX11_range 43 = .ok (.invokevirtual 176, 3) := by decide +kernel
theorem dX11_range_46 : decode cX11_range 46 = .ok (.ireturn, 1) := by decide +kernel
noncomputable def f_X11_range (v1 : Int32) (v2 : Int32) (v3 : Bool) (σ : am_H) : Option (Int32 × am_H) :=
  (f_X11_machineOf v1 σ).bind fun p1 =>
  am_nn 3 p1
   ((f_X11_none 2 σ).bind fun p3 =>
   some (p3.1, p3.2))
   (fun a2 =>
   (f_X11_isWithin v2 0 4166 σ).bind fun p4 =>
   if p4 = true then
    ((f_X3_rangeOf a2 v2 v3 σ).bind fun p6 =>
    (f_X11_answer p6 σ).bind fun p7 =>
    some (p7.1, p7.2))
   else
   (f_X11_none 5 σ).bind fun p8 =>
   some (p8.1, p8.2))
set_option maxRecDepth 100000 in
set_option maxHeartbeats 4000000 in
theorem q_X11_range {X : am_X} (hX : am_wC X) {Q : Option Value → am_H → Prop} (v1 : Int32) (v2 : Int32) (v3 : Bool) (σ : am_H) {o : Int32 × am_H} (hf : f_X11_range v1 v2 v3 σ = some o) (hk : Q (some (.int o.1)) o.2) : am_G X gm_X11_range Q 0 [(0, .ref (am_ad X 11 0)), (1, .int v1), (2, .int v2), (3, .int (am_b v3))] [] σ := by
  unfold f_X11_range at hf
  refine g_aload_n (pc := 0) 0 rfl dX11_range_0 rfl ?_
  refine g_iload_n (pc := 1) 1 rfl dX11_range_1 rfl ?_
  obtain ⟨p1, hp1, hf⟩ := am_bd hf
  have hq := am_nn_c hf
  clear hf
  rcases hq with ⟨ep1, hf⟩ | ⟨a2, ep1, ga2, hf⟩
  · subst ep1
    refine g_cV (pc := 2) (As := [.int v1]) (st := []) (st1 := [.null]) (in_11 hX.1 (by omega)) kk_11 mV_X11_machineOf ln_X11_159 rfl (Nat.le_of_ble_eq_true rfl) (Nat.le_of_ble_eq_true rfl) (k_X11_machineOf hX v1 σ hp1) dX11_range_2 rfl rfl ?_
    refine g_astoreN (pc := 5) [(4, .null), (0, .ref (am_ad X 11 0)), (1, .int v1), (2, .int v2), (3, .int (am_b v3))] dX11_range_5 (Nat.le_of_ble_eq_true rfl) rfl ?_
    refine g_aloadN (pc := 7) 0 rfl dX11_range_7 ?_
    refine g_ifnonnullN (pc := 9) dX11_range_9 ?_
    refine g_aload_n (pc := 12) 1 rfl dX11_range_12 rfl ?_
    refine g_iconst (pc := 13) (v := 2) dX11_range_13 (by decide) ?_
    obtain ⟨p3, hp3, hf⟩ := am_bd hf
    refine g_cV (pc := 14) (As := [.int 2]) (st := []) (st1 := [.int p3.1]) (in_11 hX.1 (by omega)) kk_11 mV_X11_none ln_X11_124 rfl (Nat.le_of_ble_eq_true rfl) (Nat.le_of_ble_eq_true rfl) (k_X11_none hX 2 σ hp3) dX11_range_14 rfl rfl ?_
    have ho := Option.some.inj hf
    subst ho
    exact g_ireturn (pc := 17) (st := []) rfl dX11_range_17 hk
  · subst ep1
    refine g_cV (pc := 2) (As := [.int v1]) (st := []) (st1 := [.ref (am_ad X 3 a2)]) (in_11 hX.1 (by omega)) kk_11 mV_X11_machineOf ln_X11_159 rfl (Nat.le_of_ble_eq_true rfl) (Nat.le_of_ble_eq_true rfl) (k_X11_machineOf hX v1 σ hp1) dX11_range_2 rfl rfl ?_
    refine g_astore (pc := 5) [(4, .ref (am_ad X 3 a2)), (0, .ref (am_ad X 11 0)), (1, .int v1), (2, .int v2), (3, .int (am_b v3))] dX11_range_5 (Nat.le_of_ble_eq_true rfl) rfl ?_
    refine g_aload (pc := 7) 0 rfl dX11_range_7 ?_
    refine g_ifnonnull (pc := 9) 18 dX11_range_9 rfl ?_
    refine g_iload_n (pc := 18) 3 rfl dX11_range_18 rfl ?_
    refine g_iconst (pc := 19) (v := 0) dX11_range_19 (by decide) ?_
    refine g_sipush (pc := 20) (v := 4166) dX11_range_20 (by decide) ?_
    obtain ⟨p4, hp4, hf⟩ := am_bd hf
    refine g_cS (pc := 23) (As := [.int v2, .int 0, .int 4166]) (st := []) (st1 := [.int (am_b p4)]) mS_X11_isWithin ln_X11_222 rfl (Nat.le_of_ble_eq_true rfl) (Nat.le_of_ble_eq_true rfl) (k_X11_isWithin hX v2 0 4166 σ hp4) dX11_range_23 rfl rfl ?_
    refine bt_ne (pc := 26) 35 dX11_range_26 rfl (fun c5 => ?_) (fun c5 => ?_)
    · replace hf := am_ifT c5 hf
      refine g_aload_n (pc := 35) 1 rfl dX11_range_35 rfl ?_
      refine g_aload (pc := 36) 0 rfl dX11_range_36 ?_
      refine g_iload_n (pc := 38) 3 rfl dX11_range_38 rfl ?_
      refine g_iload_n (pc := 39) 4 rfl dX11_range_39 rfl ?_
      obtain ⟨p6, hp6, hf⟩ := am_bd hf
      refine g_cV (pc := 40) (As := [.int v2, .int (am_b v3)]) (st := [.ref (am_ad X 11 0)]) (st1 := [.int p6, .ref (am_ad X 11 0)]) (in_3 hX.1 (by omega)) kk_3 mV_X3_rangeOf ln_X11_435 rfl (Nat.le_of_ble_eq_true rfl) (Nat.le_of_ble_eq_true rfl) (k_X3_rangeOf hX a2 v2 v3 (by omega) σ hp6) dX11_range_40 rfl rfl ?_
      obtain ⟨p7, hp7, hf⟩ := am_bd hf
      refine g_cV (pc := 43) (As := [.int p6]) (st := []) (st1 := [.int p7.1]) (in_11 hX.1 (by omega)) kk_11 mV_X11_answer ln_X11_176 rfl (Nat.le_of_ble_eq_true rfl) (Nat.le_of_ble_eq_true rfl) (k_X11_answer hX p6 σ hp7) dX11_range_43 rfl rfl ?_
      have ho := Option.some.inj hf
      subst ho
      exact g_ireturn (pc := 46) (st := []) rfl dX11_range_46 hk
    replace hf := am_ifF c5 hf
    refine g_aload_n (pc := 29) 1 rfl dX11_range_29 rfl ?_
    refine g_iconst (pc := 30) (v := 5) dX11_range_30 (by decide) ?_
    obtain ⟨p8, hp8, hf⟩ := am_bd hf
    refine g_cV (pc := 31) (As := [.int 5]) (st := []) (st1 := [.int p8.1]) (in_11 hX.1 (by omega)) kk_11 mV_X11_none ln_X11_124 rfl (Nat.le_of_ble_eq_true rfl) (Nat.le_of_ble_eq_true rfl) (k_X11_none hX 5 σ hp8) dX11_range_31 rfl rfl ?_
    have ho := Option.some.inj hf
    subst ho
    exact g_ireturn (pc := 34) (st := []) rfl dX11_range_34 hk
theorem k_X11_range {X : am_X} (hX : am_wC X) (v1 : Int32) (v2 : Int32) (v3 : Bool) (σ : am_H) {o : Int32 × am_H} (hf : f_X11_range v1 v2 v3 σ = some o) : am_C X gm_X11_range [.ref (am_ad X 11 0), .int v1, .int v2, .int (am_b v3)] σ (am_is (some (.int o.1)) o.2) :=
  am_ofG rfl (Nat.le_of_ble_eq_true rfl) rfl (q_X11_range hX v1 v2 v3 σ hf ⟨rfl, rfl⟩)
theorem dX11_gap_0 : decode cX11_gap 0 = .ok (.aload_n 0, 1) := by decide +kernel
theorem dX11_gap_1 : decode cX11_gap 1 = .ok (.iload_n 1, 1) := by decide +kernel
theorem dX11_gap_2 : decode cX11_gap 2 = .ok (.invokevirtual 159, 3) := by decide +kernel
theorem dX11_gap_5 : decode cX11_gap 5 = .ok (.astore 5, 2) := by decide +kernel
theorem dX11_gap_7 : decode cX11_gap 7 = .ok (.aload 5, 2) := by decide +kernel
theorem dX11_gap_9 : decode cX11_gap 9 = .ok (.ifnonnull 9, 3) := by decide +kernel
theorem dX11_gap_12 : decode cX11_gap 12 = .ok (.aload_n 0, 1) := by decide +kernel
theorem dX11_gap_13 : decode cX11_gap 13 = .ok (.iconst 2, 1) := by decide +kernel
theorem dX11_gap_14 : decode cX11_gap 14 = .ok (.invokevirtual 124, 3) := by decide +kernel
theorem dX11_gap_17 : decode cX11_gap 17 = .ok (.ireturn, 1) := by decide +kernel
theorem dX11_gap_18 : decode cX11_gap 18 = .ok (.iload_n 2, 1) := by decide +kernel
theorem dX11_gap_19 : decode cX11_gap 19 = .ok (.iconst 0, 1) := by decide +kernel
theorem dX11_gap_20 : decode cX11_gap 20 = .ok (.sipush 4166, 3) := by decide +kernel
theorem dX11_gap_23 : decode cX11_gap 23 = .ok (.invokestatic 222, 3) := by decide +kernel
theorem dX11_gap_26 : decode cX11_gap 26 = .ok (.ifCond .ne 9, 3) := by decide +kernel
theorem dX11_gap_29 : decode cX11_gap 29 = .ok (.aload_n 0, 1) := by decide +kernel
theorem dX11_gap_30 : decode cX11_gap 30 = .ok (.iconst 5, 1) := by decide +kernel
theorem dX11_gap_31 : decode cX11_gap 31 = .ok (.invokevirtual 124, 3) := by decide +kernel
theorem dX11_gap_34 : decode cX11_gap 34 = .ok (.ireturn, 1) := by decide +kernel
theorem dX11_gap_35 : decode cX11_gap 35 = .ok (.aload 5, 2) := by decide +kernel
theorem dX11_gap_37 : decode cX11_gap 37 = .ok (.iload_n 2, 1) := by decide +kernel
theorem dX11_gap_38 : decode cX11_gap 38 = .ok (.iconst 1, 1) := by decide +kernel
theorem dX11_gap_39 : decode cX11_gap 39 = .ok (.iload_n 3, 1) := by decide +kernel
theorem dX11_gap_40 : decode cX11_gap 40 = .ok (.iload 4, 2) := by decide +kernel
theorem dX11_gap_42 : decode cX11_gap 42 = .ok (.invokevirtual 431, 3) := by decide +kernel
theorem dX11_gap_45 : decode cX11_gap 45 = .ok (.istore 6, 2) := by decide +kernel
theorem dX11_gap_47 : decode cX11_gap 47 = .ok (.iload 6, 2) := by decide +kernel
theorem dX11_gap_49 : decode cX11_gap 49 = .ok (.iconst (-1), 1) := by decide +kernel
theorem dX11_gap_50 : decode cX11_gap 50 = .ok (.if_icmp .ne 10, 3) := by decide +kernel
theorem dX11_gap_53 : decode cX11_gap 53 = .ok (.aload_n 0, 1) := by decide +kernel
theorem dX11_gap_54 : decode cX11_gap 54 = .ok (.bipush 8, 2) := by decide +kernel
theorem dX11_gap_56 : decode cX11_gap 56 = .ok (.invokevirtual 124, 3) := by decide +kernel
theorem dX11_gap_59 : decode cX11_gap 59 = .ok (.ireturn, 1) := by decide +kernel
theorem dX11_gap_60 : decode cX11_gap 60 = .ok (.aload 5, 2) := by decide +kernel
theorem dX11_gap_62 : decode cX11_gap 62 = .ok (.iload 6, 2) := by decide +kernel
theorem dX11_gap_64 : decode cX11_gap 64 = .ok (.iconst 1, 1) := by decide +kernel
theorem dX11_gap_65 : decode cX11_gap 65 = .ok (.iadd, 1) := by decide +kernel
theorem dX11_gap_66 : decode cX11_gap 66 = .ok (.iload 6, 2) := by decide +kernel
theorem dX11_gap_68 : decode cX11_gap 68 = .ok (.sipush 200, 3) := by decide +kernel
theorem dX11_gap_71 : decode cX11_gap 71 = .ok (.iadd, 1) := by decide +kernel
theorem dX11_gap_72 : decode cX11_gap 72 = .ok (.ldc_w 372, 3) := by decide +kernel
theorem dX11_gap_75 : decode cX11_gap 75 = .ok (.invokestatic 439, 3) := by decide +kernel
theorem dX11_gap_78 : decode cX11_gap 78 = .ok (.iconst 1, 1) := by decide +kernel
theorem dX11_gap_79 : decode cX11_gap 79 = .ok (.iload_n 3, 1) := by decide +kernel
theorem dX11_gap_80 : decode cX11_gap 80 = .ok (.invokevirtual 442, 3) := by decide +kernel
theorem dX11_gap_83 : decode cX11_gap 83 = .ok (.istore 7, 2) := by decide +kernel
theorem dX11_gap_85 : decode cX11_gap 85 = .ok (.iload 7, 2) := by decide +kernel
theorem dX11_gap_87 : decode cX11_gap 87 = .ok (.iconst (-1), 1) := by decide +kernel
theorem dX11_gap_88 : decode cX11_gap 88 = .ok (.if_icmp .ne 12, 3) := by decide +kernel
theorem dX11_gap_91 : decode cX11_gap 91 = .ok (.aload_n 0, 1) := by decide +kernel
theorem dX11_gap_92 : decode cX11_gap 92 = .ok (.bipush 8, 2) := by decide +kernel
theorem dX11_gap_94 : decode cX11_gap 94 = .ok (.invokevirtual 124, 3) := by decide +kernel
theorem dX11_gap_97 : decode cX11_gap 97 = .ok (.goto 12, 3) := by decide +kernel
theorem dX11_gap_100 : decode cX11_gap 100 = .ok (.aload_n 0, 1) := by decide +kernel
theorem dX11_gap_101 : decode cX11_gap 101 = .ok (.iload 7, 2) := by decide +kernel
theorem dX11_gap_103 : decode cX11_gap 103 = .ok (.iload 6, 2) := by decide +kernel
theorem dX11_gap_105 : decode cX11_gap 105 = .ok (.isub, 1) := by decide +kernel
theorem dX11_gap_106 : decode cX11_gap 106 = .ok (.invokevirtual 176, 3) := by decide +kernel
theorem dX11_gap_109 : decode cX11_gap 109 = .ok (.ireturn, 1) := by decide +kernel
noncomputable def f_X11_gap (v1 : Int32) (v2 : Int32) (v3 : Bool) (v4 : Int32) (σ : am_H) : Option (Int32 × am_H) :=
  (f_X11_machineOf v1 σ).bind fun p1 =>
  am_nn 3 p1
   ((f_X11_none 2 σ).bind fun p3 =>
   some (p3.1, p3.2))
   (fun a2 =>
   (f_X11_isWithin v2 0 4166 σ).bind fun p4 =>
   if p4 = true then
    ((f_X3_waterOf a2 v2 true v3 v4 σ).bind fun p6 =>
    if p6 = (-1) then
     ((f_X11_none 8 σ).bind fun p8 =>
     some (p8.1, p8.2))
    else
    (f_X3_nextWater a2 (p6 + 1) (am_mn (p6 + 200) 99999) true v3 σ).bind fun p9 =>
    if p9 = (-1) then
     ((f_X11_none 8 σ).bind fun p11 =>
     some (p11.1, p11.2))
    else
    (f_X11_answer (p9 - p6) σ).bind fun p12 =>
    some (p12.1, p12.2))
   else
   (f_X11_none 5 σ).bind fun p13 =>
   some (p13.1, p13.2))
set_option maxRecDepth 100000 in
set_option maxHeartbeats 4000000 in
theorem q_X11_gap {X : am_X} (hX : am_wC X) {Q : Option Value → am_H → Prop} (v1 : Int32) (v2 : Int32) (v3 : Bool) (v4 : Int32) (σ : am_H) {o : Int32 × am_H} (hf : f_X11_gap v1 v2 v3 v4 σ = some o) (hk : Q (some (.int o.1)) o.2) : am_G X gm_X11_gap Q 0 [(0, .ref (am_ad X 11 0)), (1, .int v1), (2, .int v2), (3, .int (am_b v3)), (4, .int v4)] [] σ := by
  unfold f_X11_gap at hf
  refine g_aload_n (pc := 0) 0 rfl dX11_gap_0 rfl ?_
  refine g_iload_n (pc := 1) 1 rfl dX11_gap_1 rfl ?_
  obtain ⟨p1, hp1, hf⟩ := am_bd hf
  have hq := am_nn_c hf
  clear hf
  rcases hq with ⟨ep1, hf⟩ | ⟨a2, ep1, ga2, hf⟩
  · subst ep1
    refine g_cV (pc := 2) (As := [.int v1]) (st := []) (st1 := [.null]) (in_11 hX.1 (by omega)) kk_11 mV_X11_machineOf ln_X11_159 rfl (Nat.le_of_ble_eq_true rfl) (Nat.le_of_ble_eq_true rfl) (k_X11_machineOf hX v1 σ hp1) dX11_gap_2 rfl rfl ?_
    refine g_astoreN (pc := 5) [(5, .null), (0, .ref (am_ad X 11 0)), (1, .int v1), (2, .int v2), (3, .int (am_b v3)), (4, .int v4)] dX11_gap_5 (Nat.le_of_ble_eq_true rfl) rfl ?_
    refine g_aloadN (pc := 7) 0 rfl dX11_gap_7 ?_
    refine g_ifnonnullN (pc := 9) dX11_gap_9 ?_
    refine g_aload_n (pc := 12) 1 rfl dX11_gap_12 rfl ?_
    refine g_iconst (pc := 13) (v := 2) dX11_gap_13 (by decide) ?_
    obtain ⟨p3, hp3, hf⟩ := am_bd hf
    refine g_cV (pc := 14) (As := [.int 2]) (st := []) (st1 := [.int p3.1]) (in_11 hX.1 (by omega)) kk_11 mV_X11_none ln_X11_124 rfl (Nat.le_of_ble_eq_true rfl) (Nat.le_of_ble_eq_true rfl) (k_X11_none hX 2 σ hp3) dX11_gap_14 rfl rfl ?_
    have ho := Option.some.inj hf
    subst ho
    exact g_ireturn (pc := 17) (st := []) rfl dX11_gap_17 hk
  · subst ep1
    refine g_cV (pc := 2) (As := [.int v1]) (st := []) (st1 := [.ref (am_ad X 3 a2)]) (in_11 hX.1 (by omega)) kk_11 mV_X11_machineOf ln_X11_159 rfl (Nat.le_of_ble_eq_true rfl) (Nat.le_of_ble_eq_true rfl) (k_X11_machineOf hX v1 σ hp1) dX11_gap_2 rfl rfl ?_
    refine g_astore (pc := 5) [(5, .ref (am_ad X 3 a2)), (0, .ref (am_ad X 11 0)), (1, .int v1), (2, .int v2), (3, .int (am_b v3)), (4, .int v4)] dX11_gap_5 (Nat.le_of_ble_eq_true rfl) rfl ?_
    refine g_aload (pc := 7) 0 rfl dX11_gap_7 ?_
    refine g_ifnonnull (pc := 9) 18 dX11_gap_9 rfl ?_
    refine g_iload_n (pc := 18) 3 rfl dX11_gap_18 rfl ?_
    refine g_iconst (pc := 19) (v := 0) dX11_gap_19 (by decide) ?_
    refine g_sipush (pc := 20) (v := 4166) dX11_gap_20 (by decide) ?_
    obtain ⟨p4, hp4, hf⟩ := am_bd hf
    refine g_cS (pc := 23) (As := [.int v2, .int 0, .int 4166]) (st := []) (st1 := [.int (am_b p4)]) mS_X11_isWithin ln_X11_222 rfl (Nat.le_of_ble_eq_true rfl) (Nat.le_of_ble_eq_true rfl) (k_X11_isWithin hX v2 0 4166 σ hp4) dX11_gap_23 rfl rfl ?_
    refine bt_ne (pc := 26) 35 dX11_gap_26 rfl (fun c5 => ?_) (fun c5 => ?_)
    · replace hf := am_ifT c5 hf
      refine g_aload (pc := 35) 0 rfl dX11_gap_35 ?_
      refine g_iload_n (pc := 37) 3 rfl dX11_gap_37 rfl ?_
      refine g_iconst (pc := 38) (v := 1) dX11_gap_38 (by decide) ?_
      refine g_iload_n (pc := 39) 4 rfl dX11_gap_39 rfl ?_
      refine g_iload (pc := 40) 5 rfl dX11_gap_40 ?_
      obtain ⟨p6, hp6, hf⟩ := am_bd hf
      refine g_cV (pc := 42) (As := [.int v2, .int (am_b true), .int (am_b v3), .int v4]) (st := []) (st1 := [.int p6]) (in_3 hX.1 (by omega)) kk_3 mV_X3_waterOf ln_X11_431 rfl (Nat.le_of_ble_eq_true rfl) (Nat.le_of_ble_eq_true rfl) (k_X3_waterOf hX a2 v2 true v3 v4 (by omega) σ hp6) dX11_gap_42 rfl rfl ?_
      refine g_istore (pc := 45) [(6, .int p6), (5, .ref (am_ad X 3 a2)), (0, .ref (am_ad X 11 0)), (1, .int v1), (2, .int v2), (3, .int (am_b v3)), (4, .int v4)] dX11_gap_45 (Nat.le_of_ble_eq_true rfl) rfl ?_
      refine g_iload (pc := 47) 0 rfl dX11_gap_47 ?_
      refine g_iconst (pc := 49) (v := (-1)) dX11_gap_49 (by decide) ?_
      refine bi_ne (pc := 50) 60 dX11_gap_50 rfl (fun c7 => ?_) (fun c7 => ?_)
      · replace hf := am_ifT c7 hf
        refine g_aload_n (pc := 53) 2 rfl dX11_gap_53 rfl ?_
        refine g_bipush (pc := 54) (v := 8) dX11_gap_54 (by decide) ?_
        obtain ⟨p8, hp8, hf⟩ := am_bd hf
        refine g_cV (pc := 56) (As := [.int 8]) (st := []) (st1 := [.int p8.1]) (in_11 hX.1 (by omega)) kk_11 mV_X11_none ln_X11_124 rfl (Nat.le_of_ble_eq_true rfl) (Nat.le_of_ble_eq_true rfl) (k_X11_none hX 8 σ hp8) dX11_gap_56 rfl rfl ?_
        have ho := Option.some.inj hf
        subst ho
        exact g_ireturn (pc := 59) (st := []) rfl dX11_gap_59 hk
      replace hf := am_ifF c7 hf
      refine g_aload (pc := 60) 1 rfl dX11_gap_60 ?_
      refine g_iload (pc := 62) 0 rfl dX11_gap_62 ?_
      refine g_iconst (pc := 64) (v := 1) dX11_gap_64 (by decide) ?_
      refine g_iadd (pc := 65) dX11_gap_65 ?_
      refine g_iload (pc := 66) 0 rfl dX11_gap_66 ?_
      refine g_sipush (pc := 68) (v := 200) dX11_gap_68 (by decide) ?_
      refine g_iadd (pc := 71) dX11_gap_71 ?_
      refine g_ldcw (pc := 72) (v := 99999) (tb_4 (List.mem_of_getElem? (i := 169) (by decide +kernel))) dX11_gap_72 ?_
      refine g_mmin (pc := 75) (Nat.le_of_ble_eq_true rfl) (Nat.le_of_ble_eq_true rfl) sp_X11_439 dX11_gap_75 ?_
      refine g_iconst (pc := 78) (v := 1) dX11_gap_78 (by decide) ?_
      refine g_iload_n (pc := 79) 5 rfl dX11_gap_79 rfl ?_
      obtain ⟨p9, hp9, hf⟩ := am_bd hf
      refine g_cV (pc := 80) (As := [.int (p6 + 1), .int (am_mn (p6 + 200) 99999), .int (am_b true), .int (am_b v3)]) (st := []) (st1 := [.int p9]) (in_3 hX.1 (by omega)) kk_3 mV_X3_nextWater ln_X11_442 rfl (Nat.le_of_ble_eq_true rfl) (Nat.le_of_ble_eq_true rfl) (k_X3_nextWater hX a2 (p6 + 1) (am_mn (p6 + 200) 99999) true v3 (by omega) σ hp9) dX11_gap_80 rfl rfl ?_
      refine g_istore (pc := 83) [(7, .int p9), (6, .int p6), (5, .ref (am_ad X 3 a2)), (0, .ref (am_ad X 11 0)), (1, .int v1), (2, .int v2), (3, .int (am_b v3)), (4, .int v4)] dX11_gap_83 (Nat.le_of_ble_eq_true rfl) rfl ?_
      refine g_iload (pc := 85) 0 rfl dX11_gap_85 ?_
      refine g_iconst (pc := 87) (v := (-1)) dX11_gap_87 (by decide) ?_
      refine bi_ne (pc := 88) 100 dX11_gap_88 rfl (fun c10 => ?_) (fun c10 => ?_)
      · replace hf := am_ifT c10 hf
        refine g_aload_n (pc := 91) 3 rfl dX11_gap_91 rfl ?_
        refine g_bipush (pc := 92) (v := 8) dX11_gap_92 (by decide) ?_
        obtain ⟨p11, hp11, hf⟩ := am_bd hf
        refine g_cV (pc := 94) (As := [.int 8]) (st := []) (st1 := [.int p11.1]) (in_11 hX.1 (by omega)) kk_11 mV_X11_none ln_X11_124 rfl (Nat.le_of_ble_eq_true rfl) (Nat.le_of_ble_eq_true rfl) (k_X11_none hX 8 σ hp11) dX11_gap_94 rfl rfl ?_
        refine g_goto (pc := 97) 109 dX11_gap_97 rfl ?_
        have ho := Option.some.inj hf
        subst ho
        exact g_ireturn (pc := 109) (st := []) rfl dX11_gap_109 hk
      replace hf := am_ifF c10 hf
      refine g_aload_n (pc := 100) 3 rfl dX11_gap_100 rfl ?_
      refine g_iload (pc := 101) 0 rfl dX11_gap_101 ?_
      refine g_iload (pc := 103) 1 rfl dX11_gap_103 ?_
      refine g_isub (pc := 105) dX11_gap_105 ?_
      obtain ⟨p12, hp12, hf⟩ := am_bd hf
      refine g_cV (pc := 106) (As := [.int (p9 - p6)]) (st := []) (st1 := [.int p12.1]) (in_11 hX.1 (by omega)) kk_11 mV_X11_answer ln_X11_176 rfl (Nat.le_of_ble_eq_true rfl) (Nat.le_of_ble_eq_true rfl) (k_X11_answer hX (p9 - p6) σ hp12) dX11_gap_106 rfl rfl ?_
      have ho := Option.some.inj hf
      subst ho
      exact g_ireturn (pc := 109) (st := []) rfl dX11_gap_109 hk
    replace hf := am_ifF c5 hf
    refine g_aload_n (pc := 29) 1 rfl dX11_gap_29 rfl ?_
    refine g_iconst (pc := 30) (v := 5) dX11_gap_30 (by decide) ?_
    obtain ⟨p13, hp13, hf⟩ := am_bd hf
    refine g_cV (pc := 31) (As := [.int 5]) (st := []) (st1 := [.int p13.1]) (in_11 hX.1 (by omega)) kk_11 mV_X11_none ln_X11_124 rfl (Nat.le_of_ble_eq_true rfl) (Nat.le_of_ble_eq_true rfl) (k_X11_none hX 5 σ hp13) dX11_gap_31 rfl rfl ?_
    have ho := Option.some.inj hf
    subst ho
    exact g_ireturn (pc := 34) (st := []) rfl dX11_gap_34 hk
theorem k_X11_gap {X : am_X} (hX : am_wC X) (v1 : Int32) (v2 : Int32) (v3 : Bool) (v4 : Int32) (σ : am_H) {o : Int32 × am_H} (hf : f_X11_gap v1 v2 v3 v4 σ = some o) : am_C X gm_X11_gap [.ref (am_ad X 11 0), .int v1, .int v2, .int (am_b v3), .int v4] σ (am_is (some (.int o.1)) o.2) :=
  am_ofG rfl (Nat.le_of_ble_eq_true rfl) rfl (q_X11_gap hX v1 v2 v3 v4 σ hf ⟨rfl, rfl⟩)
theorem dX11_worn_0 : decode cX11_worn 0 = .ok (.aload_n 0, 1) := by decide +kernel
theorem dX11_worn_1 : decode cX11_worn 1 = .ok (.iload_n 1, 1) := by decide +kernel
theorem dX11_worn_2 : decode cX11_worn 2 = .ok (.iload_n 2, 1) := by decide +kernel
theorem dX11_worn_3 : decode cX11_worn 3 = .ok (.invokevirtual 199, 3) := by decide +kernel
theorem dX11_worn_6 : decode cX11_worn 6 = .ok (.astore 5, 2) := by decide +kernel
theorem dX11_worn_8 : decode cX11_worn 8 = .ok (.aload 5, 2) := by decide +kernel
theorem dX11_worn_10 : decode cX11_worn 10 = .ok (.ifnull 12, 3) := by decide +kernel
theorem dX11_worn_13 : decode cX11_worn 13 = .ok (.iload_n 3, 1) := by decide +kernel
theorem dX11_worn_14 : decode cX11_worn 14 = .ok (.ifCond .lt 8, 3) := by decide +kernel
theorem dX11_worn_17 : decode cX11_worn 17 = .ok (.iload_n 3, 1) := by decide +kernel
theorem dX11_worn_18 : decode cX11_worn 18 = .ok (.iconst 4, 1) := by decide +kernel
theorem dX11_worn_19 : decode cX11_worn 19 = .ok (.if_icmp .lt 9, 3) := by decide +kernel
theorem dX11_worn_22 : decode cX11_worn 22 = .ok (.aload_n 0, 1) := by decide +kernel
theorem dX11_worn_23 : decode cX11_worn 23 = .ok (.iconst 2, 1) := by decide +kernel
theorem dX11_worn_24 : decode cX11_worn 24 = .ok (.invokevirtual 124, 3) := by decide +kernel
theorem dX11_worn_27 : decode cX11_worn 27 = .ok (.ireturn, 1) := by decide +kernel
theorem dX11_worn_28 : decode cX11_worn 28 = .ok (.iload 4, 2) := by decide +kernel
theorem dX11_worn_30 : decode cX11_worn 30 = .ok (.invokestatic 226, 3) := by decide +kernel
theorem dX11_worn_33 : decode cX11_worn 33 = .ok (.ifCond .ne 9, 3) := by decide +kernel
theorem dX11_worn_36 : decode cX11_worn 36 = .ok (.aload_n 0, 1) := by decide +kernel
theorem dX11_worn_37 : decode cX11_worn 37 = .ok (.iconst 5, 1) := by decide +kernel
theorem dX11_worn_38 : decode cX11_worn 38 = .ok (.invokevirtual 124, 3) := by decide +kernel
theorem dX11_worn_41 : decode cX11_worn 41 = .ok (.ireturn, 1) := by decide +kernel
theorem dX11_worn_42 : decode cX11_worn 42 = .ok (.iload_n 3, 1) := by decide +kernel
theorem dX11_worn_43 : decode cX11_worn 43 = .ok (.aload 5, 2) := by decide +kernel
theorem dX11_worn_45 : decode cX11_worn 45 = .ok (.invokevirtual 445, 3) := by decide +kernel
theorem dX11_worn_48 : decode cX11_worn 48 = .ok (.if_icmp .lt 10, 3) := by decide +kernel
theorem dX11_worn_51 : decode cX11_worn 51 = .ok (.aload_n 0, 1) := by decide +kernel
theorem dX11_worn_52 : decode cX11_worn 52 = .ok (.bipush 8, 2) := by decide +kernel
theorem dX11_worn_54 : decode cX11_worn 54 = .ok (.invokevirtual 124, 3) := by decide +kernel
theorem dX11_worn_57 : decode cX11_worn 57 = .ok (.ireturn, 1) := by decide +kernel
theorem dX11_worn_58 : decode cX11_worn 58 = .ok (.aload_n 0, 1) := by decide +kernel
theorem dX11_worn_59 : decode cX11_worn 59 = .ok (.aload 5, 2) := by decide +kernel
theorem dX11_worn_61 : decode cX11_worn 61 = .ok (.iload_n 3, 1) := by decide +kernel
theorem dX11_worn_62 : decode cX11_worn 62 = .ok (.iload 4, 2) := by decide +kernel
theorem dX11_worn_64 : decode cX11_worn 64 = .ok (.invokevirtual 449, 3) := by decide +kernel
theorem dX11_worn_67 : decode cX11_worn 67 = .ok (.invokevirtual 176, 3) := by decide +kernel
theorem dX11_worn_70 : decode cX11_worn 70 = .ok (.ireturn, 1) := by decide +kernel
noncomputable def f_X11_worn_22 (σ : am_H) : Option (Int32 × am_H) :=
  (f_X11_none 2 σ).bind fun p1 =>
  some (p1.1, p1.2)
set_option maxRecDepth 100000 in
set_option maxHeartbeats 4000000 in
theorem q_X11_worn_22 {X : am_X} (hX : am_wC X) {Q : Option Value → am_H → Prop} (σ : am_H) {o : Int32 × am_H} (hf : f_X11_worn_22 σ = some o) (hk : Q (some (.int o.1)) o.2) : am_G X gm_X11_worn Q 22 [(0, .ref (am_ad X 11 0))] [] σ := by
  unfold f_X11_worn_22 at hf
  refine g_aload_n (pc := 22) 0 rfl dX11_worn_22 rfl ?_
  refine g_iconst (pc := 23) (v := 2) dX11_worn_23 (by decide) ?_
  obtain ⟨p1, hp1, hf⟩ := am_bd hf
  refine g_cV (pc := 24) (As := [.int 2]) (st := []) (st1 := [.int p1.1]) (in_11 hX.1 (by omega)) kk_11 mV_X11_none ln_X11_124 rfl (Nat.le_of_ble_eq_true rfl) (Nat.le_of_ble_eq_true rfl) (k_X11_none hX 2 σ hp1) dX11_worn_24 rfl rfl ?_
  have ho := Option.some.inj hf
  subst ho
  exact g_ireturn (pc := 27) (st := []) rfl dX11_worn_27 hk
noncomputable def f_X11_worn (v1 : Int32) (v2 : Int32) (v3 : Int32) (v4 : Int32) (σ : am_H) : Option (Int32 × am_H) :=
  (f_X11_waveOf v1 v2 σ).bind fun p1 =>
  am_nn 18 p1
   (f_X11_worn_22 σ)
   (fun a2 =>
   if v3 < 0 then
    (f_X11_worn_22 σ)
   else
   if v3 < 4 then
    ((f_X11_isHour v4 σ).bind fun p5 =>
    if p5 = true then
     ((f_X10_wheels a2 σ).bind fun p7 =>
     if v3 < p7 then
      ((f_X10_wearOf a2 v3 v4 σ).bind fun p9 =>
      (f_X11_answer p9 σ).bind fun p10 =>
      some (p10.1, p10.2))
     else
     (f_X11_none 8 σ).bind fun p11 =>
     some (p11.1, p11.2))
    else
    (f_X11_none 5 σ).bind fun p12 =>
    some (p12.1, p12.2))
   else
   f_X11_worn_22 σ)
set_option maxRecDepth 100000 in
set_option maxHeartbeats 4000000 in
theorem q_X11_worn {X : am_X} (hX : am_wC X) {Q : Option Value → am_H → Prop} (v1 : Int32) (v2 : Int32) (v3 : Int32) (v4 : Int32) (σ : am_H) {o : Int32 × am_H} (hf : f_X11_worn v1 v2 v3 v4 σ = some o) (hk : Q (some (.int o.1)) o.2) : am_G X gm_X11_worn Q 0 [(0, .ref (am_ad X 11 0)), (1, .int v1), (2, .int v2), (3, .int v3), (4, .int v4)] [] σ := by
  unfold f_X11_worn at hf
  refine g_aload_n (pc := 0) 0 rfl dX11_worn_0 rfl ?_
  refine g_iload_n (pc := 1) 1 rfl dX11_worn_1 rfl ?_
  refine g_iload_n (pc := 2) 2 rfl dX11_worn_2 rfl ?_
  obtain ⟨p1, hp1, hf⟩ := am_bd hf
  have hq := am_nn_c hf
  clear hf
  rcases hq with ⟨ep1, hf⟩ | ⟨a2, ep1, ga2, hf⟩
  · subst ep1
    refine g_cV (pc := 3) (As := [.int v1, .int v2]) (st := []) (st1 := [.null]) (in_11 hX.1 (by omega)) kk_11 mV_X11_waveOf ln_X11_199 rfl (Nat.le_of_ble_eq_true rfl) (Nat.le_of_ble_eq_true rfl) (k_X11_waveOf hX v1 v2 σ hp1) dX11_worn_3 rfl rfl ?_
    refine g_astoreN (pc := 6) [(5, .null), (0, .ref (am_ad X 11 0)), (1, .int v1), (2, .int v2), (3, .int v3), (4, .int v4)] dX11_worn_6 (Nat.le_of_ble_eq_true rfl) rfl ?_
    refine g_aloadN (pc := 8) 0 rfl dX11_worn_8 ?_
    refine g_ifnullN (pc := 10) 22 dX11_worn_10 rfl ?_
    exact am_sub [1] rfl (q_X11_worn_22 hX σ hf hk)
  · subst ep1
    refine g_cV (pc := 3) (As := [.int v1, .int v2]) (st := []) (st1 := [.ref (am_ad X 10 a2)]) (in_11 hX.1 (by omega)) kk_11 mV_X11_waveOf ln_X11_199 rfl (Nat.le_of_ble_eq_true rfl) (Nat.le_of_ble_eq_true rfl) (k_X11_waveOf hX v1 v2 σ hp1) dX11_worn_3 rfl rfl ?_
    refine g_astore (pc := 6) [(5, .ref (am_ad X 10 a2)), (0, .ref (am_ad X 11 0)), (1, .int v1), (2, .int v2), (3, .int v3), (4, .int v4)] dX11_worn_6 (Nat.le_of_ble_eq_true rfl) rfl ?_
    refine g_aload (pc := 8) 0 rfl dX11_worn_8 ?_
    refine g_ifnull (pc := 10) dX11_worn_10 ?_
    refine g_iload_n (pc := 13) 4 rfl dX11_worn_13 rfl ?_
    refine bz_lt (pc := 14) 22 dX11_worn_14 rfl (fun c3 => ?_) (fun c3 => ?_)
    · replace hf := am_ifT c3 hf
      exact am_sub [1] rfl (q_X11_worn_22 hX σ hf hk)
    replace hf := am_ifF c3 hf
    refine g_iload_n (pc := 17) 4 rfl dX11_worn_17 rfl ?_
    refine g_iconst (pc := 18) (v := 4) dX11_worn_18 (by decide) ?_
    refine bi_lt (pc := 19) 28 dX11_worn_19 rfl (fun c4 => ?_) (fun c4 => ?_)
    · replace hf := am_ifT c4 hf
      refine g_iload (pc := 28) 5 rfl dX11_worn_28 ?_
      obtain ⟨p5, hp5, hf⟩ := am_bd hf
      refine g_cS (pc := 30) (As := [.int v4]) (st := []) (st1 := [.int (am_b p5)]) mS_X11_isHour ln_X11_226 rfl (Nat.le_of_ble_eq_true rfl) (Nat.le_of_ble_eq_true rfl) (k_X11_isHour hX v4 σ hp5) dX11_worn_30 rfl rfl ?_
      refine bt_ne (pc := 33) 42 dX11_worn_33 rfl (fun c6 => ?_) (fun c6 => ?_)
      · replace hf := am_ifT c6 hf
        refine g_iload_n (pc := 42) 4 rfl dX11_worn_42 rfl ?_
        refine g_aload (pc := 43) 0 rfl dX11_worn_43 ?_
        obtain ⟨p7, hp7, hf⟩ := am_bd hf
        refine g_cV (pc := 45) (As := []) (st := [.int v3]) (st1 := [.int p7, .int v3]) (in_10 hX.1 (by omega)) kk_10 mV_X10_wheels ln_X11_445 rfl (Nat.le_of_ble_eq_true rfl) (Nat.le_of_ble_eq_true rfl) (k_X10_wheels hX a2 (by omega) σ hp7) dX11_worn_45 rfl rfl ?_
        refine bi_lt (pc := 48) 58 dX11_worn_48 rfl (fun c8 => ?_) (fun c8 => ?_)
        · replace hf := am_ifT c8 hf
          refine g_aload_n (pc := 58) 1 rfl dX11_worn_58 rfl ?_
          refine g_aload (pc := 59) 0 rfl dX11_worn_59 ?_
          refine g_iload_n (pc := 61) 4 rfl dX11_worn_61 rfl ?_
          refine g_iload (pc := 62) 5 rfl dX11_worn_62 ?_
          obtain ⟨p9, hp9, hf⟩ := am_bd hf
          refine g_cV (pc := 64) (As := [.int v3, .int v4]) (st := [.ref (am_ad X 11 0)]) (st1 := [.int p9, .ref (am_ad X 11 0)]) (in_10 hX.1 (by omega)) kk_10 mV_X10_wearOf ln_X11_449 rfl (Nat.le_of_ble_eq_true rfl) (Nat.le_of_ble_eq_true rfl) (k_X10_wearOf hX a2 v3 v4 (by omega) σ hp9) dX11_worn_64 rfl rfl ?_
          obtain ⟨p10, hp10, hf⟩ := am_bd hf
          refine g_cV (pc := 67) (As := [.int p9]) (st := []) (st1 := [.int p10.1]) (in_11 hX.1 (by omega)) kk_11 mV_X11_answer ln_X11_176 rfl (Nat.le_of_ble_eq_true rfl) (Nat.le_of_ble_eq_true rfl) (k_X11_answer hX p9 σ hp10) dX11_worn_67 rfl rfl ?_
          have ho := Option.some.inj hf
          subst ho
          exact g_ireturn (pc := 70) (st := []) rfl dX11_worn_70 hk
        replace hf := am_ifF c8 hf
        refine g_aload_n (pc := 51) 1 rfl dX11_worn_51 rfl ?_
        refine g_bipush (pc := 52) (v := 8) dX11_worn_52 (by decide) ?_
        obtain ⟨p11, hp11, hf⟩ := am_bd hf
        refine g_cV (pc := 54) (As := [.int 8]) (st := []) (st1 := [.int p11.1]) (in_11 hX.1 (by omega)) kk_11 mV_X11_none ln_X11_124 rfl (Nat.le_of_ble_eq_true rfl) (Nat.le_of_ble_eq_true rfl) (k_X11_none hX 8 σ hp11) dX11_worn_54 rfl rfl ?_
        have ho := Option.some.inj hf
        subst ho
        exact g_ireturn (pc := 57) (st := []) rfl dX11_worn_57 hk
      replace hf := am_ifF c6 hf
      refine g_aload_n (pc := 36) 1 rfl dX11_worn_36 rfl ?_
      refine g_iconst (pc := 37) (v := 5) dX11_worn_37 (by decide) ?_
      obtain ⟨p12, hp12, hf⟩ := am_bd hf
      refine g_cV (pc := 38) (As := [.int 5]) (st := []) (st1 := [.int p12.1]) (in_11 hX.1 (by omega)) kk_11 mV_X11_none ln_X11_124 rfl (Nat.le_of_ble_eq_true rfl) (Nat.le_of_ble_eq_true rfl) (k_X11_none hX 5 σ hp12) dX11_worn_38 rfl rfl ?_
      have ho := Option.some.inj hf
      subst ho
      exact g_ireturn (pc := 41) (st := []) rfl dX11_worn_41 hk
    replace hf := am_ifF c4 hf
    exact am_sub [1] rfl (q_X11_worn_22 hX σ hf hk)
theorem k_X11_worn {X : am_X} (hX : am_wC X) (v1 : Int32) (v2 : Int32) (v3 : Int32) (v4 : Int32) (σ : am_H) {o : Int32 × am_H} (hf : f_X11_worn v1 v2 v3 v4 σ = some o) : am_C X gm_X11_worn [.ref (am_ad X 11 0), .int v1, .int v2, .int v3, .int v4] σ (am_is (some (.int o.1)) o.2) :=
  am_ofG rfl (Nat.le_of_ble_eq_true rfl) rfl (q_X11_worn hX v1 v2 v3 v4 σ hf ⟨rfl, rfl⟩)
theorem dX11_lasts_0 : decode cX11_lasts 0 = .ok (.aload_n 0, 1) := by decide +kernel
theorem dX11_lasts_1 : decode cX11_lasts 1 = .ok (.iload_n 1, 1) := by decide +kernel
theorem dX11_lasts_2 : decode cX11_lasts 2 = .ok (.invokevirtual 159, 3) := by decide +kernel
theorem dX11_lasts_5 : decode cX11_lasts 5 = .ok (.astore_n 3, 1) := by decide +kernel
theorem dX11_lasts_6 : decode cX11_lasts 6 = .ok (.aload_n 3, 1) := by decide +kernel
theorem dX11_lasts_7 : decode cX11_lasts 7 = .ok (.ifnonnull 9, 3) := by decide +kernel
theorem dX11_lasts_10 : decode cX11_lasts 10 = .ok (.aload_n 0, 1) := by decide +kernel
theorem dX11_lasts_11 : decode cX11_lasts 11 = .ok (.iconst 2, 1) := by decide +kernel
theorem dX11_lasts_12 : decode cX11_lasts 12 = .ok (.invokevirtual 124, 3) := by decide +kernel
theorem dX11_lasts_15 : decode cX11_lasts 15 = .ok (.ireturn, 1) := by decide +kernel
theorem dX11_lasts_16 : decode cX11_lasts 16 = .ok (.iload_n 2, 1) := by decide +kernel
theorem dX11_lasts_17 : decode cX11_lasts 17 = .ok (.iconst 1, 1) := by decide +kernel
theorem dX11_lasts_18 : decode cX11_lasts 18 = .ok (.ldc_w 452, 3) := by decide +kernel
theorem dX11_lasts_21 : decode cX11_lasts 21 = .ok (.invokestatic 222, 3) := by decide +kernel
theorem dX11_lasts_24 : decode cX11_lasts 24 = .ok (.ifCond .ne 9, 3) := by decide +kernel
theorem dX11_lasts_27 : decode cX11_lasts 27 = .ok (.aload_n 0, 1) := by decide +kernel
theorem dX11_lasts_28 : decode cX11_lasts 28 = .ok (.iconst 5, 1) := by decide +kernel
theorem dX11_lasts_29 : decode cX11_lasts 29 = .ok (.invokevirtual 124, 3) := by decide +kernel
theorem dX11_lasts_32 : decode cX11_lasts 32 = .ok (.ireturn, 1) := by decide +kernel
theorem dX11_lasts_33 : decode cX11_lasts 33 = .ok (.aload_n 3, 1) := by decide +kernel
theorem dX11_lasts_34 : decode cX11_lasts 34 = .ok (.iload_n 2, 1) := by decide +kernel
theorem dX11_lasts_35 : decode cX11_lasts 35 = .ok (.invokevirtual 453, 3) := by decide +kernel
theorem dX11_lasts_38 : decode cX11_lasts 38 = .ok (.lstore 4, 2) := by decide +kernel
theorem dX11_lasts_40 : decode cX11_lasts 40 = .ok (.lload 4, 2) := by decide +kernel
theorem dX11_lasts_42 : decode cX11_lasts 42 = .ok (.ldc2_w 456, 3) := by decide +kernel
theorem dX11_lasts_45 : decode cX11_lasts 45 = .ok (.lcmp, 1) := by decide +kernel
theorem dX11_lasts_46 : decode cX11_lasts 46 = .ok (.ifCond .le 12, 3) := by decide +kernel
theorem dX11_lasts_49 : decode cX11_lasts 49 = .ok (.aload_n 0, 1) := by decide +kernel
theorem dX11_lasts_50 : decode cX11_lasts 50 = .ok (.bipush 8, 2) := by decide +kernel
theorem dX11_lasts_52 : decode cX11_lasts 52 = .ok (.invokevirtual 124, 3) := by decide +kernel
theorem dX11_lasts_55 : decode cX11_lasts 55 = .ok (.goto 10, 3) := by decide +kernel
theorem dX11_lasts_58 : decode cX11_lasts 58 = .ok (.aload_n 0, 1) := by decide +kernel
theorem dX11_lasts_59 : decode cX11_lasts 59 = .ok (.lload 4, 2) := by decide +kernel
theorem dX11_lasts_61 : decode cX11_lasts 61 = .ok (.l2i, 1) := by decide +kernel
theorem dX11_lasts_62 : decode cX11_lasts 62 = .ok (.invokevirtual 176, 3) := by decide +kernel
theorem dX11_lasts_65 : decode cX11_lasts 65 = .ok (.ireturn, 1) := by decide +kernel
noncomputable def f_X11_lasts (v1 : Int32) (v2 : Int32) (σ : am_H) : Option (Int32 × am_H) :=
  (f_X11_machineOf v1 σ).bind fun p1 =>
  am_nn 3 p1
   ((f_X11_none 2 σ).bind fun p3 =>
   some (p3.1, p3.2))
   (fun a2 =>
   (f_X11_isWithin v2 1 9999999 σ).bind fun p4 =>
   if p4 = true then
    ((f_X3_firstWornHour a2 v2 σ).bind fun p6 =>
    if 99999 < p6 then
     ((f_X11_none 8 σ).bind fun p8 =>
     some (p8.1, p8.2))
    else
    (f_X11_answer (Int64.toInt32 p6) σ).bind fun p9 =>
    some (p9.1, p9.2))
   else
   (f_X11_none 5 σ).bind fun p10 =>
   some (p10.1, p10.2))
set_option maxRecDepth 100000 in
set_option maxHeartbeats 4000000 in
theorem q_X11_lasts {X : am_X} (hX : am_wC X) {Q : Option Value → am_H → Prop} (v1 : Int32) (v2 : Int32) (σ : am_H) {o : Int32 × am_H} (hf : f_X11_lasts v1 v2 σ = some o) (hk : Q (some (.int o.1)) o.2) : am_G X gm_X11_lasts Q 0 [(0, .ref (am_ad X 11 0)), (1, .int v1), (2, .int v2)] [] σ := by
  unfold f_X11_lasts at hf
  refine g_aload_n (pc := 0) 0 rfl dX11_lasts_0 rfl ?_
  refine g_iload_n (pc := 1) 1 rfl dX11_lasts_1 rfl ?_
  obtain ⟨p1, hp1, hf⟩ := am_bd hf
  have hq := am_nn_c hf
  clear hf
  rcases hq with ⟨ep1, hf⟩ | ⟨a2, ep1, ga2, hf⟩
  · subst ep1
    refine g_cV (pc := 2) (As := [.int v1]) (st := []) (st1 := [.null]) (in_11 hX.1 (by omega)) kk_11 mV_X11_machineOf ln_X11_159 rfl (Nat.le_of_ble_eq_true rfl) (Nat.le_of_ble_eq_true rfl) (k_X11_machineOf hX v1 σ hp1) dX11_lasts_2 rfl rfl ?_
    refine g_astoreN_n (pc := 5) [(3, .null), (0, .ref (am_ad X 11 0)), (1, .int v1), (2, .int v2)] dX11_lasts_5 rfl (Nat.le_of_ble_eq_true rfl) rfl ?_
    refine g_aloadN_n (pc := 6) 0 rfl dX11_lasts_6 rfl ?_
    refine g_ifnonnullN (pc := 7) dX11_lasts_7 ?_
    refine g_aload_n (pc := 10) 1 rfl dX11_lasts_10 rfl ?_
    refine g_iconst (pc := 11) (v := 2) dX11_lasts_11 (by decide) ?_
    obtain ⟨p3, hp3, hf⟩ := am_bd hf
    refine g_cV (pc := 12) (As := [.int 2]) (st := []) (st1 := [.int p3.1]) (in_11 hX.1 (by omega)) kk_11 mV_X11_none ln_X11_124 rfl (Nat.le_of_ble_eq_true rfl) (Nat.le_of_ble_eq_true rfl) (k_X11_none hX 2 σ hp3) dX11_lasts_12 rfl rfl ?_
    have ho := Option.some.inj hf
    subst ho
    exact g_ireturn (pc := 15) (st := []) rfl dX11_lasts_15 hk
  · subst ep1
    refine g_cV (pc := 2) (As := [.int v1]) (st := []) (st1 := [.ref (am_ad X 3 a2)]) (in_11 hX.1 (by omega)) kk_11 mV_X11_machineOf ln_X11_159 rfl (Nat.le_of_ble_eq_true rfl) (Nat.le_of_ble_eq_true rfl) (k_X11_machineOf hX v1 σ hp1) dX11_lasts_2 rfl rfl ?_
    refine g_astore_n (pc := 5) [(3, .ref (am_ad X 3 a2)), (0, .ref (am_ad X 11 0)), (1, .int v1), (2, .int v2)] dX11_lasts_5 rfl (Nat.le_of_ble_eq_true rfl) rfl ?_
    refine g_aload_n (pc := 6) 0 rfl dX11_lasts_6 rfl ?_
    refine g_ifnonnull (pc := 7) 16 dX11_lasts_7 rfl ?_
    refine g_iload_n (pc := 16) 3 rfl dX11_lasts_16 rfl ?_
    refine g_iconst (pc := 17) (v := 1) dX11_lasts_17 (by decide) ?_
    refine g_ldcw (pc := 18) (v := 9999999) (tb_6 (List.mem_of_getElem? (i := 112) (by decide +kernel))) dX11_lasts_18 ?_
    obtain ⟨p4, hp4, hf⟩ := am_bd hf
    refine g_cS (pc := 21) (As := [.int v2, .int 1, .int 9999999]) (st := []) (st1 := [.int (am_b p4)]) mS_X11_isWithin ln_X11_222 rfl (Nat.le_of_ble_eq_true rfl) (Nat.le_of_ble_eq_true rfl) (k_X11_isWithin hX v2 1 9999999 σ hp4) dX11_lasts_21 rfl rfl ?_
    refine bt_ne (pc := 24) 33 dX11_lasts_24 rfl (fun c5 => ?_) (fun c5 => ?_)
    · replace hf := am_ifT c5 hf
      refine g_aload_n (pc := 33) 0 rfl dX11_lasts_33 rfl ?_
      refine g_iload_n (pc := 34) 3 rfl dX11_lasts_34 rfl ?_
      obtain ⟨p6, hp6, hf⟩ := am_bd hf
      refine g_cV (pc := 35) (As := [.int v2]) (st := []) (st1 := [.long p6]) (in_3 hX.1 (by omega)) kk_3 mV_X3_firstWornHour ln_X11_453 rfl (Nat.le_of_ble_eq_true rfl) (Nat.le_of_ble_eq_true rfl) (k_X3_firstWornHour hX a2 v2 (by omega) σ hp6) dX11_lasts_35 rfl rfl ?_
      refine g_lstore (pc := 38) [(4, .long p6), (3, .ref (am_ad X 3 a2)), (0, .ref (am_ad X 11 0)), (1, .int v1), (2, .int v2)] dX11_lasts_38 (Nat.le_of_ble_eq_true rfl) rfl ?_
      refine g_lload (pc := 40) 0 rfl dX11_lasts_40 ?_
      refine g_ldc2 (pc := 42) (v := 99999) (tb_6 (List.mem_of_getElem? (i := 130) (by decide +kernel))) dX11_lasts_42 ?_
      refine g_lcm (pc := 45) dX11_lasts_45 ?_
      refine bl_le (pc := 46) 58 dX11_lasts_46 rfl (fun c7 => ?_) (fun c7 => ?_)
      · replace hf := am_ifT c7 hf
        refine g_aload_n (pc := 49) 2 rfl dX11_lasts_49 rfl ?_
        refine g_bipush (pc := 50) (v := 8) dX11_lasts_50 (by decide) ?_
        obtain ⟨p8, hp8, hf⟩ := am_bd hf
        refine g_cV (pc := 52) (As := [.int 8]) (st := []) (st1 := [.int p8.1]) (in_11 hX.1 (by omega)) kk_11 mV_X11_none ln_X11_124 rfl (Nat.le_of_ble_eq_true rfl) (Nat.le_of_ble_eq_true rfl) (k_X11_none hX 8 σ hp8) dX11_lasts_52 rfl rfl ?_
        refine g_goto (pc := 55) 65 dX11_lasts_55 rfl ?_
        have ho := Option.some.inj hf
        subst ho
        exact g_ireturn (pc := 65) (st := []) rfl dX11_lasts_65 hk
      replace hf := am_ifF c7 hf
      refine g_aload_n (pc := 58) 2 rfl dX11_lasts_58 rfl ?_
      refine g_lload (pc := 59) 0 rfl dX11_lasts_59 ?_
      refine g_l2i (pc := 61) dX11_lasts_61 ?_
      obtain ⟨p9, hp9, hf⟩ := am_bd hf
      refine g_cV (pc := 62) (As := [.int (Int64.toInt32 p6)]) (st := []) (st1 := [.int p9.1]) (in_11 hX.1 (by omega)) kk_11 mV_X11_answer ln_X11_176 rfl (Nat.le_of_ble_eq_true rfl) (Nat.le_of_ble_eq_true rfl) (k_X11_answer hX (Int64.toInt32 p6) σ hp9) dX11_lasts_62 rfl rfl ?_
      have ho := Option.some.inj hf
      subst ho
      exact g_ireturn (pc := 65) (st := []) rfl dX11_lasts_65 hk
    replace hf := am_ifF c5 hf
    refine g_aload_n (pc := 27) 1 rfl dX11_lasts_27 rfl ?_
    refine g_iconst (pc := 28) (v := 5) dX11_lasts_28 (by decide) ?_
    obtain ⟨p10, hp10, hf⟩ := am_bd hf
    refine g_cV (pc := 29) (As := [.int 5]) (st := []) (st1 := [.int p10.1]) (in_11 hX.1 (by omega)) kk_11 mV_X11_none ln_X11_124 rfl (Nat.le_of_ble_eq_true rfl) (Nat.le_of_ble_eq_true rfl) (k_X11_none hX 5 σ hp10) dX11_lasts_29 rfl rfl ?_
    have ho := Option.some.inj hf
    subst ho
    exact g_ireturn (pc := 32) (st := []) rfl dX11_lasts_32 hk
theorem k_X11_lasts {X : am_X} (hX : am_wC X) (v1 : Int32) (v2 : Int32) (σ : am_H) {o : Int32 × am_H} (hf : f_X11_lasts v1 v2 σ = some o) : am_C X gm_X11_lasts [.ref (am_ad X 11 0), .int v1, .int v2] σ (am_is (some (.int o.1)) o.2) :=
  am_ofG rfl (Nat.le_of_ble_eq_true rfl) rfl (q_X11_lasts hX v1 v2 σ hf ⟨rfl, rfl⟩)
theorem dX11_trade_0 : decode cX11_trade 0 = .ok (.iload_n 1, 1) := by decide +kernel
theorem dX11_trade_1 : decode cX11_trade 1 = .ok (.invokestatic 226, 3) := by decide +kernel
theorem dX11_trade_4 : decode cX11_trade 4 = .ok (.ifCond .ne 10, 3) := by decide +kernel
theorem dX11_trade_7 : decode cX11_trade 7 = .ok (.aload_n 0, 1) := by decide +kernel
theorem dX11_trade_8 : decode cX11_trade 8 = .ok (.iconst 5, 1) := by decide +kernel
theorem dX11_trade_9 : decode cX11_trade 9 = .ok (.invokevirtual 124, 3) := by decide +kernel
theorem dX11_trade_12 : decode cX11_trade 12 = .ok (.i2l, 1) := by decide +kernel
theorem dX11_trade_13 : decode cX11_trade 13 = .ok (.lreturn, 1) := by decide +kernel
theorem dX11_trade_14 : decode cX11_trade 14 = .ok (.aload_n 0, 1) := by decide +kernel
theorem dX11_trade_15 : decode cX11_trade 15 = .ok (.getfield 72, 3) := by decide +kernel
theorem dX11_trade_18 : decode cX11_trade 18 = .ok (.aload_n 0, 1) := by decide +kernel
theorem dX11_trade_19 : decode cX11_trade 19 = .ok (.getfield 36, 3) := by decide +kernel
theorem dX11_trade_22 : decode cX11_trade 22 = .ok (.iconst 0, 1) := by decide +kernel
theorem dX11_trade_23 : decode cX11_trade 23 = .ok (.aaload, 1) := by decide +kernel
theorem dX11_trade_24 : decode cX11_trade 24 = .ok (.aload_n 0, 1) := by decide +kernel
theorem dX11_trade_25 : decode cX11_trade 25 = .ok (.getfield 36, 3) := by decide +kernel
theorem dX11_trade_28 : decode cX11_trade 28 = .ok (.iconst 1, 1) := by decide +kernel
theorem dX11_trade_29 : decode cX11_trade 29 = .ok (.aaload, 1) := by decide +kernel
theorem dX11_trade_30 : decode cX11_trade 30 = .ok (.iload_n 1, 1) := by decide +kernel
theorem dX11_trade_31 : decode cX11_trade 31 = .ok (.invokevirtual 458, 3) := by decide +kernel
theorem dX11_trade_34 : decode cX11_trade 34 = .ok (.aload_n 0, 1) := by decide +kernel
theorem dX11_trade_35 : decode cX11_trade 35 = .ok (.iconst 0, 1) := by decide +kernel
theorem dX11_trade_36 : decode cX11_trade 36 = .ok (.putfield 9, 3) := by decide +kernel
theorem dX11_trade_39 : decode cX11_trade 39 = .ok (.aload_n 0, 1) := by decide +kernel
theorem dX11_trade_40 : decode cX11_trade 40 = .ok (.getfield 72, 3) := by decide +kernel
theorem dX11_trade_43 : decode cX11_trade 43 = .ok (.getfield 462, 3) := by decide +kernel
theorem dX11_trade_46 : decode cX11_trade 46 = .ok (.lreturn, 1) := by decide +kernel
noncomputable def f_X11_trade (v1 : Int32) (σ : am_H) : Option (Int64 × am_H) :=
  (f_X11_isHour v1 σ).bind fun p1 =>
  if p1 = true then
   ((am_ix 2 0).bind fun j3 =>
   (am_rr 3 (σ.2.2 1205 0 j3)).bind fun a4 =>
   (am_ix 2 1).bind fun j5 =>
   (am_rr 3 (σ.2.2 1205 0 j5)).bind fun a6 =>
   (f_X6_findTrade a4 a6 v1 σ).bind fun p7 =>
   (some (am_wI p7 11 0 0 0)).bind fun s8 =>
   some ((s8.2.1 6 0 2), s8))
  else
  (f_X11_none 5 σ).bind fun p9 =>
  some ((Int32.toInt64 p9.1), p9.2)
set_option maxRecDepth 100000 in
set_option maxHeartbeats 4000000 in
theorem q_X11_trade {X : am_X} (hX : am_wC X) {Q : Option Value → am_H → Prop} (v1 : Int32) (σ : am_H) {o : Int64 × am_H} (hf : f_X11_trade v1 σ = some o) (hk : Q (some (.long o.1)) o.2) : am_G X gm_X11_trade Q 0 [(0, .ref (am_ad X 11 0)), (1, .int v1)] [] σ := by
  unfold f_X11_trade at hf
  refine g_iload_n (pc := 0) 1 rfl dX11_trade_0 rfl ?_
  obtain ⟨p1, hp1, hf⟩ := am_bd hf
  refine g_cS (pc := 1) (As := [.int v1]) (st := []) (st1 := [.int (am_b p1)]) mS_X11_isHour ln_X11_226 rfl (Nat.le_of_ble_eq_true rfl) (Nat.le_of_ble_eq_true rfl) (k_X11_isHour hX v1 σ hp1) dX11_trade_1 rfl rfl ?_
  refine bt_ne (pc := 4) 14 dX11_trade_4 rfl (fun c2 => ?_) (fun c2 => ?_)
  · replace hf := am_ifT c2 hf
    refine g_aload_n (pc := 14) 0 rfl dX11_trade_14 rfl ?_
    refine g_getC (pc := 15) (e := 0) (in_11 hX.1 (by omega)) fr_X11_72 dX11_trade_15 rfl ?_
    refine g_aload_n (pc := 18) 0 rfl dX11_trade_18 rfl ?_
    refine g_getC (pc := 19) (e := 0) (in_11 hX.1 (by omega)) fr_X11_36 dX11_trade_19 rfl ?_
    refine g_iconst (pc := 22) (v := 0) dX11_trade_22 (by decide) ?_
    obtain ⟨j3, hj3, hf⟩ := am_bd hf
    have gj3 := am_ix_lt hj3
    obtain ⟨a4, ha4, hf⟩ := am_bd hf
    obtain ⟨ha4, ga4⟩ := am_rr_in ha4
    refine g_aM (pc := 23) (in_1205 hX.1 (by omega)) ak_1205 hj3 ha4 dX11_trade_23 ?_
    refine g_aload_n (pc := 24) 0 rfl dX11_trade_24 rfl ?_
    refine g_getC (pc := 25) (e := 0) (in_11 hX.1 (by omega)) fr_X11_36 dX11_trade_25 rfl ?_
    refine g_iconst (pc := 28) (v := 1) dX11_trade_28 (by decide) ?_
    obtain ⟨j5, hj5, hf⟩ := am_bd hf
    have gj5 := am_ix_lt hj5
    obtain ⟨a6, ha6, hf⟩ := am_bd hf
    obtain ⟨ha6, ga6⟩ := am_rr_in ha6
    refine g_aM (pc := 29) (in_1205 hX.1 (by omega)) ak_1205 hj5 ha6 dX11_trade_29 ?_
    refine g_iload_n (pc := 30) 1 rfl dX11_trade_30 rfl ?_
    obtain ⟨p7, hp7, hf⟩ := am_bd hf
    refine g_cV (pc := 31) (As := [.ref (am_ad X 3 a4), .ref (am_ad X 3 a6), .int v1]) (st := []) (st1 := []) (in_6 hX.1 (by omega)) kk_6 mV_X6_findTrade ln_X11_458 rfl (Nat.le_of_ble_eq_true rfl) (Nat.le_of_ble_eq_true rfl) (k_X6_findTrade hX a4 a6 v1 (by omega) (by omega) σ hp7) dX11_trade_31 rfl rfl ?_
    refine g_aload_n (pc := 34) 0 rfl dX11_trade_34 rfl ?_
    refine g_iconst (pc := 35) (v := 0) dX11_trade_35 (by decide) ?_
    obtain ⟨s8, hs8, hf⟩ := am_bd hf
    refine g_setI (pc := 36) (in_11 hX.1 (by omega)) fr_X11_9 dX11_trade_36 (Option.some.inj hs8) ?_
    refine g_aload_n (pc := 39) 0 rfl dX11_trade_39 rfl ?_
    refine g_getC (pc := 40) (e := 0) (in_11 hX.1 (by omega)) fr_X11_72 dX11_trade_40 rfl ?_
    refine g_getJ (pc := 43) (in_6 hX.1 (by omega)) fr_X11_462 dX11_trade_43 ?_
    have ho := Option.some.inj hf
    subst ho
    exact g_lreturn (pc := 46) (st := []) rfl dX11_trade_46 hk
  replace hf := am_ifF c2 hf
  refine g_aload_n (pc := 7) 0 rfl dX11_trade_7 rfl ?_
  refine g_iconst (pc := 8) (v := 5) dX11_trade_8 (by decide) ?_
  obtain ⟨p9, hp9, hf⟩ := am_bd hf
  refine g_cV (pc := 9) (As := [.int 5]) (st := []) (st1 := [.int p9.1]) (in_11 hX.1 (by omega)) kk_11 mV_X11_none ln_X11_124 rfl (Nat.le_of_ble_eq_true rfl) (Nat.le_of_ble_eq_true rfl) (k_X11_none hX 5 σ hp9) dX11_trade_9 rfl rfl ?_
  refine g_i2l (pc := 12) dX11_trade_12 ?_
  have ho := Option.some.inj hf
  subst ho
  exact g_lreturn (pc := 13) (st := []) rfl dX11_trade_13 hk
theorem k_X11_trade {X : am_X} (hX : am_wC X) (v1 : Int32) (σ : am_H) {o : Int64 × am_H} (hf : f_X11_trade v1 σ = some o) : am_C X gm_X11_trade [.ref (am_ad X 11 0), .int v1] σ (am_is (some (.long o.1)) o.2) :=
  am_ofG rfl (Nat.le_of_ble_eq_true rfl) rfl (q_X11_trade hX v1 σ hf ⟨rfl, rfl⟩)
theorem dX11_traded_0 : decode cX11_traded 0 = .ok (.iload_n 1, 1) := by decide +kernel
theorem dX11_traded_1 : decode cX11_traded 1 = .ok (.iconst 0, 1) := by decide +kernel
theorem dX11_traded_2 : decode cX11_traded 2 = .ok (.iconst 3, 1) := by decide +kernel
theorem dX11_traded_3 : decode cX11_traded 3 = .ok (.invokestatic 222, 3) := by decide +kernel
theorem dX11_traded_6 : decode cX11_traded 6 = .ok (.ifCond .ne 9, 3) := by decide +kernel
theorem dX11_traded_9 : decode cX11_traded 9 = .ok (.aload_n 0, 1) := by decide +kernel
theorem dX11_traded_10 : decode cX11_traded 10 = .ok (.iconst 5, 1) := by decide +kernel
theorem dX11_traded_11 : decode cX11_traded 11 = .ok (.invokevirtual 124, 3) := by decide +kernel
theorem dX11_traded_14 : decode cX11_traded 14 = .ok (.ireturn, 1) := by decide +kernel
theorem dX11_traded_15 : decode cX11_traded 15 = .ok (.aload_n 0, 1) := by decide +kernel
theorem dX11_traded_16 : decode cX11_traded 16 = .ok (.getfield 72, 3) := by decide +kernel
theorem dX11_traded_19 : decode cX11_traded 19 = .ok (.getfield 464, 3) := by decide +kernel
theorem dX11_traded_22 : decode cX11_traded 22 = .ok (.ifCond .eq 19, 3) := by decide +kernel
theorem dX11_traded_25 : decode cX11_traded 25 = .ok (.aload_n 0, 1) := by decide +kernel
theorem dX11_traded_26 : decode cX11_traded 26 = .ok (.aload_n 0, 1) := by decide +kernel
theorem dX11_traded_27 : decode cX11_traded 27 = .ok (.getfield 72, 3) := by decide +kernel
theorem dX11_traded_30 : decode cX11_traded 30 = .ok (.getfield 467, 3) := by decide +kernel
theorem dX11_traded_33 : decode cX11_traded 33 = .ok (.iload_n 1, 1) := by decide +kernel
theorem dX11_traded_34 : decode cX11_traded 34 = .ok (.iaload, 1) := by decide +kernel
theorem dX11_traded_35 : decode cX11_traded 35 = .ok (.invokevirtual 176, 3) := by decide +kernel
theorem dX11_traded_38 : decode cX11_traded 38 = .ok (.goto 9, 3) := by decide +kernel
theorem dX11_traded_41 : decode cX11_traded 41 = .ok (.aload_n 0, 1) := by decide +kernel
theorem dX11_traded_42 : decode cX11_traded 42 = .ok (.bipush 8, 2) := by decide +kernel
theorem dX11_traded_44 : decode cX11_traded 44 = .ok (.invokevirtual 124, 3) := by decide +kernel
theorem dX11_traded_47 : decode cX11_traded 47 = .ok (.ireturn, 1) := by decide +kernel
noncomputable def f_X11_traded (v1 : Int32) (σ : am_H) : Option (Int32 × am_H) :=
  (f_X11_isWithin v1 0 3 σ).bind fun p1 =>
  if p1 = true then
   (if (σ.1 6 0 3) = 0 then
    ((f_X11_none 8 σ).bind fun p4 =>
    some (p4.1, p4.2))
   else
   (am_ix 4 v1).bind fun j5 =>
   (f_X11_answer (σ.1 704 0 j5) σ).bind fun p6 =>
   some (p6.1, p6.2))
  else
  (f_X11_none 5 σ).bind fun p7 =>
  some (p7.1, p7.2)
set_option maxRecDepth 100000 in
set_option maxHeartbeats 4000000 in
theorem q_X11_traded {X : am_X} (hX : am_wC X) {Q : Option Value → am_H → Prop} (v1 : Int32) (σ : am_H) {o : Int32 × am_H} (hf : f_X11_traded v1 σ = some o) (hk : Q (some (.int o.1)) o.2) : am_G X gm_X11_traded Q 0 [(0, .ref (am_ad X 11 0)), (1, .int v1)] [] σ := by
  unfold f_X11_traded at hf
  refine g_iload_n (pc := 0) 1 rfl dX11_traded_0 rfl ?_
  refine g_iconst (pc := 1) (v := 0) dX11_traded_1 (by decide) ?_
  refine g_iconst (pc := 2) (v := 3) dX11_traded_2 (by decide) ?_
  obtain ⟨p1, hp1, hf⟩ := am_bd hf
  refine g_cS (pc := 3) (As := [.int v1, .int 0, .int 3]) (st := []) (st1 := [.int (am_b p1)]) mS_X11_isWithin ln_X11_222 rfl (Nat.le_of_ble_eq_true rfl) (Nat.le_of_ble_eq_true rfl) (k_X11_isWithin hX v1 0 3 σ hp1) dX11_traded_3 rfl rfl ?_
  refine bt_ne (pc := 6) 15 dX11_traded_6 rfl (fun c2 => ?_) (fun c2 => ?_)
  · replace hf := am_ifT c2 hf
    refine g_aload_n (pc := 15) 0 rfl dX11_traded_15 rfl ?_
    refine g_getC (pc := 16) (e := 0) (in_11 hX.1 (by omega)) fr_X11_72 dX11_traded_16 rfl ?_
    refine g_getZ (pc := 19) (in_6 hX.1 (by omega)) fr_X11_464 dX11_traded_19 ?_
    refine bz_eq (pc := 22) 41 dX11_traded_22 rfl (fun c3 => ?_) (fun c3 => ?_)
    · replace hf := am_ifT c3 hf
      refine g_aload_n (pc := 41) 0 rfl dX11_traded_41 rfl ?_
      refine g_bipush (pc := 42) (v := 8) dX11_traded_42 (by decide) ?_
      obtain ⟨p4, hp4, hf⟩ := am_bd hf
      refine g_cV (pc := 44) (As := [.int 8]) (st := []) (st1 := [.int p4.1]) (in_11 hX.1 (by omega)) kk_11 mV_X11_none ln_X11_124 rfl (Nat.le_of_ble_eq_true rfl) (Nat.le_of_ble_eq_true rfl) (k_X11_none hX 8 σ hp4) dX11_traded_44 rfl rfl ?_
      have ho := Option.some.inj hf
      subst ho
      exact g_ireturn (pc := 47) (st := []) rfl dX11_traded_47 hk
    replace hf := am_ifF c3 hf
    refine g_aload_n (pc := 25) 0 rfl dX11_traded_25 rfl ?_
    refine g_aload_n (pc := 26) 0 rfl dX11_traded_26 rfl ?_
    refine g_getC (pc := 27) (e := 0) (in_11 hX.1 (by omega)) fr_X11_72 dX11_traded_27 rfl ?_
    refine g_getC (pc := 30) (e := 0) (in_6 hX.1 (by omega)) fr_X11_467 dX11_traded_30 rfl ?_
    refine g_iload_n (pc := 33) 1 rfl dX11_traded_33 rfl ?_
    obtain ⟨j5, hj5, hf⟩ := am_bd hf
    have gj5 := am_ix_lt hj5
    refine g_aI (pc := 34) (in_704 hX.1 (by omega)) ak_704 hj5 dX11_traded_34 ?_
    obtain ⟨p6, hp6, hf⟩ := am_bd hf
    refine g_cV (pc := 35) (As := [.int (σ.1 704 0 j5)]) (st := []) (st1 := [.int p6.1]) (in_11 hX.1 (by omega)) kk_11 mV_X11_answer ln_X11_176 rfl (Nat.le_of_ble_eq_true rfl) (Nat.le_of_ble_eq_true rfl) (k_X11_answer hX (σ.1 704 0 j5) σ hp6) dX11_traded_35 rfl rfl ?_
    refine g_goto (pc := 38) 47 dX11_traded_38 rfl ?_
    have ho := Option.some.inj hf
    subst ho
    exact g_ireturn (pc := 47) (st := []) rfl dX11_traded_47 hk
  replace hf := am_ifF c2 hf
  refine g_aload_n (pc := 9) 0 rfl dX11_traded_9 rfl ?_
  refine g_iconst (pc := 10) (v := 5) dX11_traded_10 (by decide) ?_
  obtain ⟨p7, hp7, hf⟩ := am_bd hf
  refine g_cV (pc := 11) (As := [.int 5]) (st := []) (st1 := [.int p7.1]) (in_11 hX.1 (by omega)) kk_11 mV_X11_none ln_X11_124 rfl (Nat.le_of_ble_eq_true rfl) (Nat.le_of_ble_eq_true rfl) (k_X11_none hX 5 σ hp7) dX11_traded_11 rfl rfl ?_
  have ho := Option.some.inj hf
  subst ho
  exact g_ireturn (pc := 14) (st := []) rfl dX11_traded_14 hk
theorem k_X11_traded {X : am_X} (hX : am_wC X) (v1 : Int32) (σ : am_H) {o : Int32 × am_H} (hf : f_X11_traded v1 σ = some o) : am_C X gm_X11_traded [.ref (am_ad X 11 0), .int v1] σ (am_is (some (.int o.1)) o.2) :=
  am_ofG rfl (Nat.le_of_ble_eq_true rfl) rfl (q_X11_traded hX v1 σ hf ⟨rfl, rfl⟩)
theorem dX11_orders_0 : decode cX11_orders 0 = .ok (.iload_n 1, 1) := by decide +kernel
theorem dX11_orders_1 : decode cX11_orders 1 = .ok (.ifCond .lt 21, 3) := by decide +kernel
theorem dX11_orders_4 : decode cX11_orders 4 = .ok (.iload_n 1, 1) := by decide +kernel
theorem dX11_orders_5 : decode cX11_orders 5 = .ok (.aload_n 0, 1) := by decide +kernel
theorem dX11_orders_6 : decode cX11_orders 6 = .ok (.getfield 23, 3) := by decide +kernel
theorem dX11_orders_9 : decode cX11_orders 9 = .ok (.getfield 152, 3) := by decide +kernel
theorem dX11_orders_12 : decode cX11_orders 12 = .ok (.if_icmp .gt 10, 3) := by decide +kernel
theorem dX11_orders_15 : decode cX11_orders 15 = .ok (.iload_n 1, 1) := by decide +kernel
theorem dX11_orders_16 : decode cX11_orders 16 = .ok (.sipush 300, 3) := by decide +kernel
theorem dX11_orders_19 : decode cX11_orders 19 = .ok (.if_icmp .le 9, 3) := by decide +kernel
theorem dX11_orders_22 : decode cX11_orders 22 = .ok (.aload_n 0, 1) := by decide +kernel
theorem dX11_orders_23 : decode cX11_orders 23 = .ok (.iconst 5, 1) := by decide +kernel
theorem dX11_orders_24 : decode cX11_orders 24 = .ok (.invokevirtual 124, 3) := by decide +kernel
theorem dX11_orders_27 : decode cX11_orders 27 = .ok (.ireturn, 1) := by decide +kernel
theorem dX11_orders_28 : decode cX11_orders 28 = .ok (.aload_n 0, 1) := by decide +kernel
theorem dX11_orders_29 : decode cX11_orders 29 = .ok (.getfield 23, 3) := by decide +kernel
theorem dX11_orders_32 : decode cX11_orders 32 = .ok (.iload_n 1, 1) := by decide +kernel
theorem dX11_orders_33 : decode cX11_orders 33 = .ok (.invokevirtual 163, 3) := by decide +kernel
theorem dX11_orders_36 : decode cX11_orders 36 = .ok (.aload_n 0, 1) := by decide +kernel
theorem dX11_orders_37 : decode cX11_orders 37 = .ok (.getfield 52, 3) := by decide +kernel
theorem dX11_orders_40 : decode cX11_orders 40 = .ok (.aload_n 0, 1) := by decide +kernel
theorem dX11_orders_41 : decode cX11_orders 41 = .ok (.getfield 23, 3) := by decide +kernel
theorem dX11_orders_44 : decode cX11_orders 44 = .ok (.invokevirtual 470, 3) := by decide +kernel
theorem dX11_orders_47 : decode cX11_orders 47 = .ok (.istore_n 2, 1) := by decide +kernel
theorem dX11_orders_48 : decode cX11_orders 48 = .ok (.aload_n 0, 1) := by decide +kernel
theorem dX11_orders_49 : decode cX11_orders 49 = .ok (.getfield 23, 3) := by decide +kernel
theorem dX11_orders_52 : decode cX11_orders 52 = .ok (.invokevirtual 170, 3) := by decide +kernel
theorem dX11_orders_55 : decode cX11_orders 55 = .ok (.iload_n 2, 1) := by decide +kernel
theorem dX11_orders_56 : decode cX11_orders 56 = .ok (.ifCond .ne 10, 3) := by decide +kernel
theorem dX11_orders_59 : decode cX11_orders 59 = .ok (.aload_n 0, 1) := by decide +kernel
theorem dX11_orders_60 : decode cX11_orders 60 = .ok (.bipush 10, 2) := by decide +kernel
theorem dX11_orders_62 : decode cX11_orders 62 = .ok (.invokevirtual 124, 3) := by decide +kernel
theorem dX11_orders_65 : decode cX11_orders 65 = .ok (.ireturn, 1) := by decide +kernel
theorem dX11_orders_66 : decode cX11_orders 66 = .ok (.aload_n 0, 1) := by decide +kernel
theorem dX11_orders_67 : decode cX11_orders 67 = .ok (.getfield 48, 3) := by decide +kernel
theorem dX11_orders_70 : decode cX11_orders 70 = .ok (.astore_n 3, 1) := by decide +kernel
theorem dX11_orders_71 : decode cX11_orders 71 = .ok (.aload_n 0, 1) := by decide +kernel
theorem dX11_orders_72 : decode cX11_orders 72 = .ok (.aload_n 0, 1) := by decide +kernel
theorem dX11_orders_73 : decode cX11_orders 73 = .ok (.getfield 52, 3) := by decide +kernel
theorem dX11_orders_76 : decode cX11_orders 76 = .ok (.putfield 48, 3) := by decide +kernel
theorem dX11_orders_79 : decode cX11_orders 79 = .ok (.aload_n 0, 1) := by decide +kernel
theorem dX11_orders_80 : decode cX11_orders 80 = .ok (.aload_n 3, 1) := by decide +kernel
theorem dX11_orders_81 : decode cX11_orders 81 = .ok (.putfield 52, 3) := by decide +kernel
theorem dX11_orders_84 : decode cX11_orders 84 = .ok (.aload_n 0, 1) := by decide +kernel
theorem dX11_orders_85 : decode cX11_orders 85 = .ok (.aload_n 0, 1) := by decide +kernel
theorem dX11_orders_86 : decode cX11_orders 86 = .ok (.getfield 48, 3) := by decide +kernel
theorem dX11_orders_89 : decode cX11_orders 89 = .ok (.getfield 471, 3) := by decide +kernel
theorem dX11_orders_92 : decode cX11_orders 92 = .ok (.invokevirtual 176, 3) := by decide +kernel
theorem dX11_orders_95 : decode cX11_orders 95 = .ok (.ireturn, 1) := by decide +kernel
noncomputable def f_X11_orders_22 (σ : am_H) : Option (Int32 × am_H) :=
  (f_X11_none 5 σ).bind fun p1 =>
  some (p1.1, p1.2)
set_option maxRecDepth 100000 in
set_option maxHeartbeats 4000000 in
theorem q_X11_orders_22 {X : am_X} (hX : am_wC X) {Q : Option Value → am_H → Prop} (σ : am_H) {o : Int32 × am_H} (hf : f_X11_orders_22 σ = some o) (hk : Q (some (.int o.1)) o.2) : am_G X gm_X11_orders Q 22 [(0, .ref (am_ad X 11 0))] [] σ := by
  unfold f_X11_orders_22 at hf
  refine g_aload_n (pc := 22) 0 rfl dX11_orders_22 rfl ?_
  refine g_iconst (pc := 23) (v := 5) dX11_orders_23 (by decide) ?_
  obtain ⟨p1, hp1, hf⟩ := am_bd hf
  refine g_cV (pc := 24) (As := [.int 5]) (st := []) (st1 := [.int p1.1]) (in_11 hX.1 (by omega)) kk_11 mV_X11_none ln_X11_124 rfl (Nat.le_of_ble_eq_true rfl) (Nat.le_of_ble_eq_true rfl) (k_X11_none hX 5 σ hp1) dX11_orders_24 rfl rfl ?_
  have ho := Option.some.inj hf
  subst ho
  exact g_ireturn (pc := 27) (st := []) rfl dX11_orders_27 hk
noncomputable def f_X11_orders (v1 : Int32) (σ : am_H) : Option (Int32 × am_H) :=
  if v1 < 0 then
   (f_X11_orders_22 σ)
  else
  if (σ.1 5 0 1) < v1 then
   (f_X11_orders_22 σ)
  else
  if 300 < v1 then
   (f_X11_orders_22 σ)
  else
  (f_X5_begin v1 σ).bind fun p4 =>
  (am_rr 2 (p4.2.2 11 0 8)).bind fun a5 =>
  (f_X4_readFrom a5 p4).bind fun p6 =>
  (f_X5_empty p6.2).bind fun p7 =>
  if p6.1 = true then
   ((am_rr 2 (p7.2.2 11 0 7)).bind fun a9 =>
   (am_rr 2 (p7.2.2 11 0 8)).bind fun a10 =>
   (some (am_wR p7 11 0 7 (some a10))).bind fun s11 =>
   (some (am_wR s11 11 0 8 (some a9))).bind fun s12 =>
   (am_rr 2 (s12.2.2 11 0 7)).bind fun a13 =>
   (f_X11_answer (s12.1 4 a13 5) s12).bind fun p14 =>
   some (p14.1, p14.2))
  else
  (f_X11_none 10 p7).bind fun p15 =>
  some (p15.1, p15.2)
set_option maxRecDepth 100000 in
set_option maxHeartbeats 4000000 in
theorem q_X11_orders {X : am_X} (hX : am_wC X) {Q : Option Value → am_H → Prop} (v1 : Int32) (σ : am_H) {o : Int32 × am_H} (hf : f_X11_orders v1 σ = some o) (hk : Q (some (.int o.1)) o.2) : am_G X gm_X11_orders Q 0 [(0, .ref (am_ad X 11 0)), (1, .int v1)] [] σ := by
  unfold f_X11_orders at hf
  refine g_iload_n (pc := 0) 1 rfl dX11_orders_0 rfl ?_
  refine bz_lt (pc := 1) 22 dX11_orders_1 rfl (fun c1 => ?_) (fun c1 => ?_)
  · replace hf := am_ifT c1 hf
    exact am_sub [0] rfl (q_X11_orders_22 hX σ hf hk)
  replace hf := am_ifF c1 hf
  refine g_iload_n (pc := 4) 1 rfl dX11_orders_4 rfl ?_
  refine g_aload_n (pc := 5) 0 rfl dX11_orders_5 rfl ?_
  refine g_getC (pc := 6) (e := 0) (in_11 hX.1 (by omega)) fr_X11_23 dX11_orders_6 rfl ?_
  refine g_getI (pc := 9) (in_5 hX.1 (by omega)) fr_X11_152 dX11_orders_9 ?_
  refine bi_gt (pc := 12) 22 dX11_orders_12 rfl (fun c2 => ?_) (fun c2 => ?_)
  · replace hf := am_ifT c2 hf
    exact am_sub [0] rfl (q_X11_orders_22 hX σ hf hk)
  replace hf := am_ifF c2 hf
  refine g_iload_n (pc := 15) 1 rfl dX11_orders_15 rfl ?_
  refine g_sipush (pc := 16) (v := 300) dX11_orders_16 (by decide) ?_
  refine bi_le (pc := 19) 28 dX11_orders_19 rfl (fun c3 => ?_) (fun c3 => ?_)
  · replace hf := am_ifT c3 hf
    exact am_sub [0] rfl (q_X11_orders_22 hX σ hf hk)
  replace hf := am_ifF c3 hf
  refine g_aload_n (pc := 28) 0 rfl dX11_orders_28 rfl ?_
  refine g_getC (pc := 29) (e := 0) (in_11 hX.1 (by omega)) fr_X11_23 dX11_orders_29 rfl ?_
  refine g_iload_n (pc := 32) 1 rfl dX11_orders_32 rfl ?_
  obtain ⟨p4, hp4, hf⟩ := am_bd hf
  refine g_cV (pc := 33) (As := [.int v1]) (st := []) (st1 := []) (in_5 hX.1 (by omega)) kk_5 mV_X5_begin ln_X11_163 rfl (Nat.le_of_ble_eq_true rfl) (Nat.le_of_ble_eq_true rfl) (k_X5_begin hX v1 σ hp4) dX11_orders_33 rfl rfl ?_
  refine g_aload_n (pc := 36) 0 rfl dX11_orders_36 rfl ?_
  obtain ⟨a5, ha5, hf⟩ := am_bd hf
  obtain ⟨ha5, ga5⟩ := am_rr_in ha5
  refine g_getM (pc := 37) (in_11 hX.1 (by omega)) fr_X11_52 ha5 dX11_orders_37 ?_
  refine g_aload_n (pc := 40) 0 rfl dX11_orders_40 rfl ?_
  refine g_getC (pc := 41) (e := 0) (in_11 hX.1 (by omega)) fr_X11_23 dX11_orders_41 rfl ?_
  obtain ⟨p6, hp6, hf⟩ := am_bd hf
  refine g_cV (pc := 44) (As := [.ref (am_ad X 5 0)]) (st := []) (st1 := [.int (am_b p6.1)]) (in_4 hX.1 (by omega)) kk_4 mV_X4_readFrom ln_X11_470 rfl (Nat.le_of_ble_eq_true rfl) (Nat.le_of_ble_eq_true rfl) (k_X4_readFrom hX a5 (by omega) p4 hp6) dX11_orders_44 rfl rfl ?_
  refine g_istore_n (pc := 47) [(2, .int (am_b p6.1)), (0, .ref (am_ad X 11 0)), (1, .int v1)] dX11_orders_47 rfl (Nat.le_of_ble_eq_true rfl) rfl ?_
  refine g_aload_n (pc := 48) 1 rfl dX11_orders_48 rfl ?_
  refine g_getC (pc := 49) (e := 0) (in_11 hX.1 (by omega)) fr_X11_23 dX11_orders_49 rfl ?_
  obtain ⟨p7, hp7, hf⟩ := am_bd hf
  refine g_cV (pc := 52) (As := []) (st := []) (st1 := []) (in_5 hX.1 (by omega)) kk_5 mV_X5_empty ln_X11_170 rfl (Nat.le_of_ble_eq_true rfl) (Nat.le_of_ble_eq_true rfl) (k_X5_empty hX p6.2 hp7) dX11_orders_52 rfl rfl ?_
  refine g_iload_n (pc := 55) 0 rfl dX11_orders_55 rfl ?_
  refine bt_ne (pc := 56) 66 dX11_orders_56 rfl (fun c8 => ?_) (fun c8 => ?_)
  · replace hf := am_ifT c8 hf
    refine g_aload_n (pc := 66) 1 rfl dX11_orders_66 rfl ?_
    obtain ⟨a9, ha9, hf⟩ := am_bd hf
    obtain ⟨ha9, ga9⟩ := am_rr_in ha9
    refine g_getM (pc := 67) (in_11 hX.1 (by omega)) fr_X11_48 ha9 dX11_orders_67 ?_
    refine g_astore_n (pc := 70) [(3, .ref (am_ad X 4 a9)), (2, .int (am_b p6.1)), (0, .ref (am_ad X 11 0)), (1, .int v1)] dX11_orders_70 rfl (Nat.le_of_ble_eq_true rfl) rfl ?_
    refine g_aload_n (pc := 71) 2 rfl dX11_orders_71 rfl ?_
    refine g_aload_n (pc := 72) 2 rfl dX11_orders_72 rfl ?_
    obtain ⟨a10, ha10, hf⟩ := am_bd hf
    obtain ⟨ha10, ga10⟩ := am_rr_in ha10
    refine g_getM (pc := 73) (in_11 hX.1 (by omega)) fr_X11_52 ha10 dX11_orders_73 ?_
    obtain ⟨s11, hs11, hf⟩ := am_bd hf
    refine g_setM (pc := 76) (in_11 hX.1 (by omega)) fr_X11_48 dX11_orders_76 (Option.some.inj hs11) ?_
    refine g_aload_n (pc := 79) 2 rfl dX11_orders_79 rfl ?_
    refine g_aload_n (pc := 80) 0 rfl dX11_orders_80 rfl ?_
    obtain ⟨s12, hs12, hf⟩ := am_bd hf
    refine g_setM (pc := 81) (in_11 hX.1 (by omega)) fr_X11_52 dX11_orders_81 (Option.some.inj hs12) ?_
    refine g_aload_n (pc := 84) 2 rfl dX11_orders_84 rfl ?_
    refine g_aload_n (pc := 85) 2 rfl dX11_orders_85 rfl ?_
    obtain ⟨a13, ha13, hf⟩ := am_bd hf
    obtain ⟨ha13, ga13⟩ := am_rr_in ha13
    refine g_getM (pc := 86) (in_11 hX.1 (by omega)) fr_X11_48 ha13 dX11_orders_86 ?_
    refine g_getI (pc := 89) (in_4 hX.1 (by omega)) fr_X11_471 dX11_orders_89 ?_
    obtain ⟨p14, hp14, hf⟩ := am_bd hf
    refine g_cV (pc := 92) (As := [.int (s12.1 4 a13 5)]) (st := []) (st1 := [.int p14.1]) (in_11 hX.1 (by omega)) kk_11 mV_X11_answer ln_X11_176 rfl (Nat.le_of_ble_eq_true rfl) (Nat.le_of_ble_eq_true rfl) (k_X11_answer hX (s12.1 4 a13 5) s12 hp14) dX11_orders_92 rfl rfl ?_
    have ho := Option.some.inj hf
    subst ho
    exact g_ireturn (pc := 95) (st := []) rfl dX11_orders_95 hk
  replace hf := am_ifF c8 hf
  refine g_aload_n (pc := 59) 1 rfl dX11_orders_59 rfl ?_
  refine g_bipush (pc := 60) (v := 10) dX11_orders_60 (by decide) ?_
  obtain ⟨p15, hp15, hf⟩ := am_bd hf
  refine g_cV (pc := 62) (As := [.int 10]) (st := []) (st1 := [.int p15.1]) (in_11 hX.1 (by omega)) kk_11 mV_X11_none ln_X11_124 rfl (Nat.le_of_ble_eq_true rfl) (Nat.le_of_ble_eq_true rfl) (k_X11_none hX 10 p7 hp15) dX11_orders_62 rfl rfl ?_
  have ho := Option.some.inj hf
  subst ho
  exact g_ireturn (pc := 65) (st := []) rfl dX11_orders_65 hk
theorem k_X11_orders {X : am_X} (hX : am_wC X) (v1 : Int32) (σ : am_H) {o : Int32 × am_H} (hf : f_X11_orders v1 σ = some o) : am_C X gm_X11_orders [.ref (am_ad X 11 0), .int v1] σ (am_is (some (.int o.1)) o.2) :=
  am_ofG rfl (Nat.le_of_ble_eq_true rfl) rfl (q_X11_orders hX v1 σ hf ⟨rfl, rfl⟩)
theorem dX11_obey_0 : decode cX11_obey 0 = .ok (.aload_n 0, 1) := by decide +kernel
theorem dX11_obey_1 : decode cX11_obey 1 = .ok (.iload_n 1, 1) := by decide +kernel
theorem dX11_obey_2 : decode cX11_obey 2 = .ok (.invokevirtual 159, 3) := by decide +kernel
theorem dX11_obey_5 : decode cX11_obey 5 = .ok (.astore_n 3, 1) := by decide +kernel
theorem dX11_obey_6 : decode cX11_obey 6 = .ok (.aload_n 3, 1) := by decide +kernel
theorem dX11_obey_7 : decode cX11_obey 7 = .ok (.ifnonnull 9, 3) := by decide +kernel
theorem dX11_obey_10 : decode cX11_obey 10 = .ok (.aload_n 0, 1) := by decide +kernel
theorem dX11_obey_11 : decode cX11_obey 11 = .ok (.iconst 2, 1) := by decide +kernel
theorem dX11_obey_12 : decode cX11_obey 12 = .ok (.invokevirtual 124, 3) := by decide +kernel
theorem dX11_obey_15 : decode cX11_obey 15 = .ok (.ireturn, 1) := by decide +kernel
theorem dX11_obey_16 : decode cX11_obey 16 = .ok (.iload_n 2, 1) := by decide +kernel
theorem dX11_obey_17 : decode cX11_obey 17 = .ok (.invokestatic 226, 3) := by decide +kernel
theorem dX11_obey_20 : decode cX11_obey 20 = .ok (.ifCond .ne 9, 3) := by decide +kernel
theorem dX11_obey_23 : decode cX11_obey 23 = .ok (.aload_n 0, 1) := by decide +kernel
theorem dX11_obey_24 : decode cX11_obey 24 = .ok (.iconst 5, 1) := by decide +kernel
theorem dX11_obey_25 : decode cX11_obey 25 = .ok (.invokevirtual 124, 3) := by decide +kernel
theorem dX11_obey_28 : decode cX11_obey 28 = .ok (.ireturn, 1) := by decide +kernel
theorem dX11_obey_29 : decode cX11_obey 29 = .ok (.aload_n 0, 1) := by decide +kernel
theorem dX11_obey_30 : decode cX11_obey 30 = .ok (.getfield 58, 3) := by decide +kernel
theorem dX11_obey_33 : decode cX11_obey 33 = .ok (.aload_n 0, 1) := by decide +kernel
theorem dX11_obey_34 : decode cX11_obey 34 = .ok (.getfield 48, 3) := by decide +kernel
theorem dX11_obey_37 : decode cX11_obey 37 = .ok (.aload_n 3, 1) := by decide +kernel
theorem dX11_obey_38 : decode cX11_obey 38 = .ok (.iload_n 2, 1) := by decide +kernel
theorem dX11_obey_39 : decode cX11_obey 39 = .ok (.invokevirtual 474, 3) := by decide +kernel
theorem dX11_obey_42 : decode cX11_obey 42 = .ok (.aload_n 0, 1) := by decide +kernel
theorem dX11_obey_43 : decode cX11_obey 43 = .ok (.aload_n 0, 1) := by decide +kernel
theorem dX11_obey_44 : decode cX11_obey 44 = .ok (.getfield 58, 3) := by decide +kernel
theorem dX11_obey_47 : decode cX11_obey 47 = .ok (.getfield 478, 3) := by decide +kernel
theorem dX11_obey_50 : decode cX11_obey 50 = .ok (.invokevirtual 176, 3) := by decide +kernel
theorem dX11_obey_53 : decode cX11_obey 53 = .ok (.ireturn, 1) := by decide +kernel
noncomputable def f_X11_obey (v1 : Int32) (v2 : Int32) (σ : am_H) : Option (Int32 × am_H) :=
  (f_X11_machineOf v1 σ).bind fun p1 =>
  am_nn 3 p1
   ((f_X11_none 2 σ).bind fun p3 =>
   some (p3.1, p3.2))
   (fun a2 =>
   (f_X11_isHour v2 σ).bind fun p4 =>
   if p4 = true then
    ((am_rr 2 (σ.2.2 11 0 7)).bind fun a6 =>
    (f_X9_goThrough a6 a2 v2 σ).bind fun p7 =>
    (f_X11_answer (p7.1 9 0 6) p7).bind fun p8 =>
    some (p8.1, p8.2))
   else
   (f_X11_none 5 σ).bind fun p9 =>
   some (p9.1, p9.2))
set_option maxRecDepth 100000 in
set_option maxHeartbeats 4000000 in
theorem q_X11_obey {X : am_X} (hX : am_wC X) {Q : Option Value → am_H → Prop} (v1 : Int32) (v2 : Int32) (σ : am_H) {o : Int32 × am_H} (hf : f_X11_obey v1 v2 σ = some o) (hk : Q (some (.int o.1)) o.2) : am_G X gm_X11_obey Q 0 [(0, .ref (am_ad X 11 0)), (1, .int v1), (2, .int v2)] [] σ := by
  unfold f_X11_obey at hf
  refine g_aload_n (pc := 0) 0 rfl dX11_obey_0 rfl ?_
  refine g_iload_n (pc := 1) 1 rfl dX11_obey_1 rfl ?_
  obtain ⟨p1, hp1, hf⟩ := am_bd hf
  have hq := am_nn_c hf
  clear hf
  rcases hq with ⟨ep1, hf⟩ | ⟨a2, ep1, ga2, hf⟩
  · subst ep1
    refine g_cV (pc := 2) (As := [.int v1]) (st := []) (st1 := [.null]) (in_11 hX.1 (by omega)) kk_11 mV_X11_machineOf ln_X11_159 rfl (Nat.le_of_ble_eq_true rfl) (Nat.le_of_ble_eq_true rfl) (k_X11_machineOf hX v1 σ hp1) dX11_obey_2 rfl rfl ?_
    refine g_astoreN_n (pc := 5) [(3, .null), (0, .ref (am_ad X 11 0)), (1, .int v1), (2, .int v2)] dX11_obey_5 rfl (Nat.le_of_ble_eq_true rfl) rfl ?_
    refine g_aloadN_n (pc := 6) 0 rfl dX11_obey_6 rfl ?_
    refine g_ifnonnullN (pc := 7) dX11_obey_7 ?_
    refine g_aload_n (pc := 10) 1 rfl dX11_obey_10 rfl ?_
    refine g_iconst (pc := 11) (v := 2) dX11_obey_11 (by decide) ?_
    obtain ⟨p3, hp3, hf⟩ := am_bd hf
    refine g_cV (pc := 12) (As := [.int 2]) (st := []) (st1 := [.int p3.1]) (in_11 hX.1 (by omega)) kk_11 mV_X11_none ln_X11_124 rfl (Nat.le_of_ble_eq_true rfl) (Nat.le_of_ble_eq_true rfl) (k_X11_none hX 2 σ hp3) dX11_obey_12 rfl rfl ?_
    have ho := Option.some.inj hf
    subst ho
    exact g_ireturn (pc := 15) (st := []) rfl dX11_obey_15 hk
  · subst ep1
    refine g_cV (pc := 2) (As := [.int v1]) (st := []) (st1 := [.ref (am_ad X 3 a2)]) (in_11 hX.1 (by omega)) kk_11 mV_X11_machineOf ln_X11_159 rfl (Nat.le_of_ble_eq_true rfl) (Nat.le_of_ble_eq_true rfl) (k_X11_machineOf hX v1 σ hp1) dX11_obey_2 rfl rfl ?_
    refine g_astore_n (pc := 5) [(3, .ref (am_ad X 3 a2)), (0, .ref (am_ad X 11 0)), (1, .int v1), (2, .int v2)] dX11_obey_5 rfl (Nat.le_of_ble_eq_true rfl) rfl ?_
    refine g_aload_n (pc := 6) 0 rfl dX11_obey_6 rfl ?_
    refine g_ifnonnull (pc := 7) 16 dX11_obey_7 rfl ?_
    refine g_iload_n (pc := 16) 3 rfl dX11_obey_16 rfl ?_
    obtain ⟨p4, hp4, hf⟩ := am_bd hf
    refine g_cS (pc := 17) (As := [.int v2]) (st := []) (st1 := [.int (am_b p4)]) mS_X11_isHour ln_X11_226 rfl (Nat.le_of_ble_eq_true rfl) (Nat.le_of_ble_eq_true rfl) (k_X11_isHour hX v2 σ hp4) dX11_obey_17 rfl rfl ?_
    refine bt_ne (pc := 20) 29 dX11_obey_20 rfl (fun c5 => ?_) (fun c5 => ?_)
    · replace hf := am_ifT c5 hf
      refine g_aload_n (pc := 29) 1 rfl dX11_obey_29 rfl ?_
      refine g_getC (pc := 30) (e := 0) (in_11 hX.1 (by omega)) fr_X11_58 dX11_obey_30 rfl ?_
      refine g_aload_n (pc := 33) 1 rfl dX11_obey_33 rfl ?_
      obtain ⟨a6, ha6, hf⟩ := am_bd hf
      obtain ⟨ha6, ga6⟩ := am_rr_in ha6
      refine g_getM (pc := 34) (in_11 hX.1 (by omega)) fr_X11_48 ha6 dX11_obey_34 ?_
      refine g_aload_n (pc := 37) 0 rfl dX11_obey_37 rfl ?_
      refine g_iload_n (pc := 38) 3 rfl dX11_obey_38 rfl ?_
      obtain ⟨p7, hp7, hf⟩ := am_bd hf
      refine g_cV (pc := 39) (As := [.ref (am_ad X 4 a6), .ref (am_ad X 3 a2), .int v2]) (st := []) (st1 := []) (in_9 hX.1 (by omega)) kk_9 mV_X9_goThrough ln_X11_474 rfl (Nat.le_of_ble_eq_true rfl) (Nat.le_of_ble_eq_true rfl) (k_X9_goThrough hX a6 a2 v2 (by omega) (by omega) σ hp7) dX11_obey_39 rfl rfl ?_
      refine g_aload_n (pc := 42) 1 rfl dX11_obey_42 rfl ?_
      refine g_aload_n (pc := 43) 1 rfl dX11_obey_43 rfl ?_
      refine g_getC (pc := 44) (e := 0) (in_11 hX.1 (by omega)) fr_X11_58 dX11_obey_44 rfl ?_
      refine g_getI (pc := 47) (in_9 hX.1 (by omega)) fr_X11_478 dX11_obey_47 ?_
      obtain ⟨p8, hp8, hf⟩ := am_bd hf
      refine g_cV (pc := 50) (As := [.int (p7.1 9 0 6)]) (st := []) (st1 := [.int p8.1]) (in_11 hX.1 (by omega)) kk_11 mV_X11_answer ln_X11_176 rfl (Nat.le_of_ble_eq_true rfl) (Nat.le_of_ble_eq_true rfl) (k_X11_answer hX (p7.1 9 0 6) p7 hp8) dX11_obey_50 rfl rfl ?_
      have ho := Option.some.inj hf
      subst ho
      exact g_ireturn (pc := 53) (st := []) rfl dX11_obey_53 hk
    replace hf := am_ifF c5 hf
    refine g_aload_n (pc := 23) 1 rfl dX11_obey_23 rfl ?_
    refine g_iconst (pc := 24) (v := 5) dX11_obey_24 (by decide) ?_
    obtain ⟨p9, hp9, hf⟩ := am_bd hf
    refine g_cV (pc := 25) (As := [.int 5]) (st := []) (st1 := [.int p9.1]) (in_11 hX.1 (by omega)) kk_11 mV_X11_none ln_X11_124 rfl (Nat.le_of_ble_eq_true rfl) (Nat.le_of_ble_eq_true rfl) (k_X11_none hX 5 σ hp9) dX11_obey_25 rfl rfl ?_
    have ho := Option.some.inj hf
    subst ho
    exact g_ireturn (pc := 28) (st := []) rfl dX11_obey_28 hk
theorem k_X11_obey {X : am_X} (hX : am_wC X) (v1 : Int32) (v2 : Int32) (σ : am_H) {o : Int32 × am_H} (hf : f_X11_obey v1 v2 σ = some o) : am_C X gm_X11_obey [.ref (am_ad X 11 0), .int v1, .int v2] σ (am_is (some (.int o.1)) o.2) :=
  am_ofG rfl (Nat.le_of_ble_eq_true rfl) rfl (q_X11_obey hX v1 v2 σ hf ⟨rfl, rfl⟩)
theorem dX11_obeyed_0 : decode cX11_obeyed 0 = .ok (.iload_n 1, 1) := by decide +kernel
theorem dX11_obeyed_1 : decode cX11_obeyed 1 = .ok (.iconst 0, 1) := by decide +kernel
theorem dX11_obeyed_2 : decode cX11_obeyed 2 = .ok (.iconst 3, 1) := by decide +kernel
theorem dX11_obeyed_3 : decode cX11_obeyed 3 = .ok (.invokestatic 222, 3) := by decide +kernel
theorem dX11_obeyed_6 : decode cX11_obeyed 6 = .ok (.ifCond .ne 10, 3) := by decide +kernel
theorem dX11_obeyed_9 : decode cX11_obeyed 9 = .ok (.aload_n 0, 1) := by decide +kernel
theorem dX11_obeyed_10 : decode cX11_obeyed 10 = .ok (.iconst 5, 1) := by decide +kernel
theorem dX11_obeyed_11 : decode cX11_obeyed 11 = .ok (.invokevirtual 124, 3) := by decide +kernel
theorem dX11_obeyed_14 : decode cX11_obeyed 14 = .ok (.i2l, 1) := by decide +kernel
theorem dX11_obeyed_15 : decode cX11_obeyed 15 = .ok (.lreturn, 1) := by decide +kernel
theorem dX11_obeyed_16 : decode cX11_obeyed 16 = .ok (.aload_n 0, 1) := by decide +kernel
theorem dX11_obeyed_17 : decode cX11_obeyed 17 = .ok (.getfield 58, 3) := by decide +kernel
theorem dX11_obeyed_20 : decode cX11_obeyed 20 = .ok (.getfield 481, 3) := by decide +kernel
theorem dX11_obeyed_23 : decode cX11_obeyed 23 = .ok (.ifCond .ne 11, 3) := by decide +kernel
theorem dX11_obeyed_26 : decode cX11_obeyed 26 = .ok (.aload_n 0, 1) := by decide +kernel
theorem dX11_obeyed_27 : decode cX11_obeyed 27 = .ok (.bipush 8, 2) := by decide +kernel
theorem dX11_obeyed_29 : decode cX11_obeyed 29 = .ok (.invokevirtual 124, 3) := by decide +kernel
theorem dX11_obeyed_32 : decode cX11_obeyed 32 = .ok (.i2l, 1) := by decide +kernel
theorem dX11_obeyed_33 : decode cX11_obeyed 33 = .ok (.lreturn, 1) := by decide +kernel
theorem dX11_obeyed_34 : decode cX11_obeyed 34 = .ok (.aload_n 0, 1) := by decide +kernel
theorem dX11_obeyed_35 : decode cX11_obeyed 35 = .ok (.iconst 0, 1) := by decide +kernel
theorem dX11_obeyed_36 : decode cX11_obeyed 36 = .ok (.putfield 9, 3) := by decide +kernel
theorem dX11_obeyed_39 : decode cX11_obeyed 39 = .ok (.iload_n 1, 1) := by decide +kernel
theorem dX11_obeyed_40 : decode cX11_obeyed 40 = .ok (.tableswitch 54 0 2 #[28, 37, 45], 28) := by decide +kernel
theorem dX11_obeyed_68 : decode cX11_obeyed 68 = .ok (.aload_n 0, 1) := by decide +kernel
theorem dX11_obeyed_69 : decode cX11_obeyed 69 = .ok (.getfield 58, 3) := by decide +kernel
theorem dX11_obeyed_72 : decode cX11_obeyed 72 = .ok (.getfield 484, 3) := by decide +kernel
theorem dX11_obeyed_75 : decode cX11_obeyed 75 = .ok (.i2l, 1) := by decide +kernel
theorem dX11_obeyed_76 : decode cX11_obeyed 76 = .ok (.lreturn, 1) := by decide +kernel
theorem dX11_obeyed_77 : decode cX11_obeyed 77 = .ok (.aload_n 0, 1) := by decide +kernel
theorem dX11_obeyed_78 : decode cX11_obeyed 78 = .ok (.getfield 58, 3) := by decide +kernel
theorem dX11_obeyed_81 : decode cX11_obeyed 81 = .ok (.getfield 485, 3) := by decide +kernel
theorem dX11_obeyed_84 : decode cX11_obeyed 84 = .ok (.lreturn, 1) := by decide +kernel
theorem dX11_obeyed_85 : decode cX11_obeyed 85 = .ok (.aload_n 0, 1) := by decide +kernel
theorem dX11_obeyed_86 : decode cX11_obeyed 86 = .ok (.getfield 58, 3) := by decide +kernel
theorem dX11_obeyed_89 : decode cX11_obeyed 89 = .ok (.getfield 488, 3) := by decide +kernel
theorem dX11_obeyed_92 : decode cX11_obeyed 92 = .ok (.i2l, 1) := by decide +kernel
theorem dX11_obeyed_93 : decode cX11_obeyed 93 = .ok (.lreturn, 1) := by decide +kernel
theorem dX11_obeyed_94 : decode cX11_obeyed 94 = .ok (.aload_n 0, 1) := by decide +kernel
theorem dX11_obeyed_95 : decode cX11_obeyed 95 = .ok (.getfield 58, 3) := by decide +kernel
theorem dX11_obeyed_98 : decode cX11_obeyed 98 = .ok (.getfield 491, 3) := by decide +kernel
theorem dX11_obeyed_101 : decode cX11_obeyed 101 = .ok (.ifCond .eq 7, 3) := by decide +kernel
theorem dX11_obeyed_104 : decode cX11_obeyed 104 = .ok (.lconst 1, 1) := by decide +kernel
theorem dX11_obeyed_105 : decode cX11_obeyed 105 = .ok (.goto 4, 3) := by decide +kernel
theorem dX11_obeyed_108 : decode cX11_obeyed 108 = .ok (.lconst 0, 1) := by decide +kernel
theorem dX11_obeyed_109 : decode cX11_obeyed 109 = .ok (.lreturn, 1) := by decide +kernel
noncomputable def f_X11_obeyed (v1 : Int32) (σ : am_H) : Option (Int64 × am_H) :=
  (f_X11_isWithin v1 0 3 σ).bind fun p1 =>
  if p1 = true then
   (if (σ.1 9 0 5) = 0 then
    ((f_X11_none 8 σ).bind fun p4 =>
    some ((Int32.toInt64 p4.1), p4.2))
   else
   (some (am_wI σ 11 0 0 0)).bind fun s5 =>
   if v1 = 0 then
    (some ((Int32.toInt64 (s5.1 9 0 7)), s5))
   else
   if v1 = 1 then
    (some ((s5.2.1 9 0 8), s5))
   else
   if v1 = 2 then
    (some ((Int32.toInt64 (s5.1 9 0 9)), s5))
   else
   if (s5.1 9 0 11) = 0 then
    (some (0, s5))
   else
   some (1, s5))
  else
  (f_X11_none 5 σ).bind fun p10 =>
  some ((Int32.toInt64 p10.1), p10.2)
set_option maxRecDepth 100000 in
set_option maxHeartbeats 4000000 in
theorem q_X11_obeyed {X : am_X} (hX : am_wC X) {Q : Option Value → am_H → Prop} (v1 : Int32) (σ : am_H) {o : Int64 × am_H} (hf : f_X11_obeyed v1 σ = some o) (hk : Q (some (.long o.1)) o.2) : am_G X gm_X11_obeyed Q 0 [(0, .ref (am_ad X 11 0)), (1, .int v1)] [] σ := by
  unfold f_X11_obeyed at hf
  refine g_iload_n (pc := 0) 1 rfl dX11_obeyed_0 rfl ?_
  refine g_iconst (pc := 1) (v := 0) dX11_obeyed_1 (by decide) ?_
  refine g_iconst (pc := 2) (v := 3) dX11_obeyed_2 (by decide) ?_
  obtain ⟨p1, hp1, hf⟩ := am_bd hf
  refine g_cS (pc := 3) (As := [.int v1, .int 0, .int 3]) (st := []) (st1 := [.int (am_b p1)]) mS_X11_isWithin ln_X11_222 rfl (Nat.le_of_ble_eq_true rfl) (Nat.le_of_ble_eq_true rfl) (k_X11_isWithin hX v1 0 3 σ hp1) dX11_obeyed_3 rfl rfl ?_
  refine bt_ne (pc := 6) 16 dX11_obeyed_6 rfl (fun c2 => ?_) (fun c2 => ?_)
  · replace hf := am_ifT c2 hf
    refine g_aload_n (pc := 16) 0 rfl dX11_obeyed_16 rfl ?_
    refine g_getC (pc := 17) (e := 0) (in_11 hX.1 (by omega)) fr_X11_58 dX11_obeyed_17 rfl ?_
    refine g_getZ (pc := 20) (in_9 hX.1 (by omega)) fr_X11_481 dX11_obeyed_20 ?_
    refine bz_ne (pc := 23) 34 dX11_obeyed_23 rfl (fun c3 => ?_) (fun c3 => ?_)
    · replace hf := am_ifT c3 hf
      refine g_aload_n (pc := 26) 0 rfl dX11_obeyed_26 rfl ?_
      refine g_bipush (pc := 27) (v := 8) dX11_obeyed_27 (by decide) ?_
      obtain ⟨p4, hp4, hf⟩ := am_bd hf
      refine g_cV (pc := 29) (As := [.int 8]) (st := []) (st1 := [.int p4.1]) (in_11 hX.1 (by omega)) kk_11 mV_X11_none ln_X11_124 rfl (Nat.le_of_ble_eq_true rfl) (Nat.le_of_ble_eq_true rfl) (k_X11_none hX 8 σ hp4) dX11_obeyed_29 rfl rfl ?_
      refine g_i2l (pc := 32) dX11_obeyed_32 ?_
      have ho := Option.some.inj hf
      subst ho
      exact g_lreturn (pc := 33) (st := []) rfl dX11_obeyed_33 hk
    replace hf := am_ifF c3 hf
    refine g_aload_n (pc := 34) 0 rfl dX11_obeyed_34 rfl ?_
    refine g_iconst (pc := 35) (v := 0) dX11_obeyed_35 (by decide) ?_
    obtain ⟨s5, hs5, hf⟩ := am_bd hf
    refine g_setI (pc := 36) (in_11 hX.1 (by omega)) fr_X11_9 dX11_obeyed_36 (Option.some.inj hs5) ?_
    refine g_iload_n (pc := 39) 1 rfl dX11_obeyed_39 rfl ?_
    by_cases c6 : v1 = 0
    · replace hf := am_ifT c6 hf
      refine g_swE (pc := 40) 68 c6 dX11_obeyed_40 (by decide) (by decide) rfl rfl ?_
      refine g_aload_n (pc := 68) 0 rfl dX11_obeyed_68 rfl ?_
      refine g_getC (pc := 69) (e := 0) (in_11 hX.1 (by omega)) fr_X11_58 dX11_obeyed_69 rfl ?_
      refine g_getI (pc := 72) (in_9 hX.1 (by omega)) fr_X11_484 dX11_obeyed_72 ?_
      refine g_i2l (pc := 75) dX11_obeyed_75 ?_
      have ho := Option.some.inj hf
      subst ho
      exact g_lreturn (pc := 76) (st := []) rfl dX11_obeyed_76 hk
    replace hf := am_ifF c6 hf
    by_cases c7 : v1 = 1
    · replace hf := am_ifT c7 hf
      refine g_swE (pc := 40) 77 c7 dX11_obeyed_40 (by decide) (by decide) rfl rfl ?_
      refine g_aload_n (pc := 77) 0 rfl dX11_obeyed_77 rfl ?_
      refine g_getC (pc := 78) (e := 0) (in_11 hX.1 (by omega)) fr_X11_58 dX11_obeyed_78 rfl ?_
      refine g_getJ (pc := 81) (in_9 hX.1 (by omega)) fr_X11_485 dX11_obeyed_81 ?_
      have ho := Option.some.inj hf
      subst ho
      exact g_lreturn (pc := 84) (st := []) rfl dX11_obeyed_84 hk
    replace hf := am_ifF c7 hf
    by_cases c8 : v1 = 2
    · replace hf := am_ifT c8 hf
      refine g_swE (pc := 40) 85 c8 dX11_obeyed_40 (by decide) (by decide) rfl rfl ?_
      refine g_aload_n (pc := 85) 0 rfl dX11_obeyed_85 rfl ?_
      refine g_getC (pc := 86) (e := 0) (in_11 hX.1 (by omega)) fr_X11_58 dX11_obeyed_86 rfl ?_
      refine g_getI (pc := 89) (in_9 hX.1 (by omega)) fr_X11_488 dX11_obeyed_89 ?_
      refine g_i2l (pc := 92) dX11_obeyed_92 ?_
      have ho := Option.some.inj hf
      subst ho
      exact g_lreturn (pc := 93) (st := []) rfl dX11_obeyed_93 hk
    replace hf := am_ifF c8 hf
    refine g_tabO (pc := 40) 94 dX11_obeyed_40 (am_sw_out 3 (by decide) ?_) rfl ?_
    · intro k hk
      rcases (by omega : k = 0 ∨ k = 1 ∨ k = 2) with rfl | rfl | rfl
      · exact c6
      · exact c7
      · exact c8
    refine g_aload_n (pc := 94) 0 rfl dX11_obeyed_94 rfl ?_
    refine g_getC (pc := 95) (e := 0) (in_11 hX.1 (by omega)) fr_X11_58 dX11_obeyed_95 rfl ?_
    refine g_getZ (pc := 98) (in_9 hX.1 (by omega)) fr_X11_491 dX11_obeyed_98 ?_
    refine bz_eq (pc := 101) 108 dX11_obeyed_101 rfl (fun c9 => ?_) (fun c9 => ?_)
    · replace hf := am_ifT c9 hf
      refine g_lconst (pc := 108) (v := 0) dX11_obeyed_108 (by decide) ?_
      have ho := Option.some.inj hf
      subst ho
      exact g_lreturn (pc := 109) (st := []) rfl dX11_obeyed_109 hk
    replace hf := am_ifF c9 hf
    refine g_lconst (pc := 104) (v := 1) dX11_obeyed_104 (by decide) ?_
    refine g_goto (pc := 105) 109 dX11_obeyed_105 rfl ?_
    have ho := Option.some.inj hf
    subst ho
    exact g_lreturn (pc := 109) (st := []) rfl dX11_obeyed_109 hk
  replace hf := am_ifF c2 hf
  refine g_aload_n (pc := 9) 0 rfl dX11_obeyed_9 rfl ?_
  refine g_iconst (pc := 10) (v := 5) dX11_obeyed_10 (by decide) ?_
  obtain ⟨p10, hp10, hf⟩ := am_bd hf
  refine g_cV (pc := 11) (As := [.int 5]) (st := []) (st1 := [.int p10.1]) (in_11 hX.1 (by omega)) kk_11 mV_X11_none ln_X11_124 rfl (Nat.le_of_ble_eq_true rfl) (Nat.le_of_ble_eq_true rfl) (k_X11_none hX 5 σ hp10) dX11_obeyed_11 rfl rfl ?_
  refine g_i2l (pc := 14) dX11_obeyed_14 ?_
  have ho := Option.some.inj hf
  subst ho
  exact g_lreturn (pc := 15) (st := []) rfl dX11_obeyed_15 hk
theorem k_X11_obeyed {X : am_X} (hX : am_wC X) (v1 : Int32) (σ : am_H) {o : Int64 × am_H} (hf : f_X11_obeyed v1 σ = some o) : am_C X gm_X11_obeyed [.ref (am_ad X 11 0), .int v1] σ (am_is (some (.long o.1)) o.2) :=
  am_ofG rfl (Nat.le_of_ble_eq_true rfl) rfl (q_X11_obeyed hX v1 σ hf ⟨rfl, rfl⟩)
theorem dX11_marked_0 : decode cX11_marked 0 = .ok (.iload_n 1, 1) := by decide +kernel
theorem dX11_marked_1 : decode cX11_marked 1 = .ok (.ifCond .lt 14, 3) := by decide +kernel
theorem dX11_marked_4 : decode cX11_marked 4 = .ok (.iload_n 1, 1) := by decide +kernel
theorem dX11_marked_5 : decode cX11_marked 5 = .ok (.aload_n 0, 1) := by decide +kernel
theorem dX11_marked_6 : decode cX11_marked 6 = .ok (.getfield 58, 3) := by decide +kernel
theorem dX11_marked_9 : decode cX11_marked 9 = .ok (.getfield 488, 3) := by decide +kernel
theorem dX11_marked_12 : decode cX11_marked 12 = .ok (.if_icmp .lt 10, 3) := by decide +kernel
theorem dX11_marked_15 : decode cX11_marked 15 = .ok (.aload_n 0, 1) := by decide +kernel
theorem dX11_marked_16 : decode cX11_marked 16 = .ok (.bipush 8, 2) := by decide +kernel
theorem dX11_marked_18 : decode cX11_marked 18 = .ok (.invokevirtual 124, 3) := by decide +kernel
theorem dX11_marked_21 : decode cX11_marked 21 = .ok (.ireturn, 1) := by decide +kernel
theorem dX11_marked_22 : decode cX11_marked 22 = .ok (.aload_n 0, 1) := by decide +kernel
theorem dX11_marked_23 : decode cX11_marked 23 = .ok (.aload_n 0, 1) := by decide +kernel
theorem dX11_marked_24 : decode cX11_marked 24 = .ok (.getfield 58, 3) := by decide +kernel
theorem dX11_marked_27 : decode cX11_marked 27 = .ok (.getfield 494, 3) := by decide +kernel
theorem dX11_marked_30 : decode cX11_marked 30 = .ok (.iload_n 1, 1) := by decide +kernel
theorem dX11_marked_31 : decode cX11_marked 31 = .ok (.iaload, 1) := by decide +kernel
theorem dX11_marked_32 : decode cX11_marked 32 = .ok (.invokevirtual 176, 3) := by decide +kernel
theorem dX11_marked_35 : decode cX11_marked 35 = .ok (.ireturn, 1) := by decide +kernel
noncomputable def f_X11_marked_15 (σ : am_H) : Option (Int32 × am_H) :=
  (f_X11_none 8 σ).bind fun p1 =>
  some (p1.1, p1.2)
set_option maxRecDepth 100000 in
set_option maxHeartbeats 4000000 in
theorem q_X11_marked_15 {X : am_X} (hX : am_wC X) {Q : Option Value → am_H → Prop} (σ : am_H) {o : Int32 × am_H} (hf : f_X11_marked_15 σ = some o) (hk : Q (some (.int o.1)) o.2) : am_G X gm_X11_marked Q 15 [(0, .ref (am_ad X 11 0))] [] σ := by
  unfold f_X11_marked_15 at hf
  refine g_aload_n (pc := 15) 0 rfl dX11_marked_15 rfl ?_
  refine g_bipush (pc := 16) (v := 8) dX11_marked_16 (by decide) ?_
  obtain ⟨p1, hp1, hf⟩ := am_bd hf
  refine g_cV (pc := 18) (As := [.int 8]) (st := []) (st1 := [.int p1.1]) (in_11 hX.1 (by omega)) kk_11 mV_X11_none ln_X11_124 rfl (Nat.le_of_ble_eq_true rfl) (Nat.le_of_ble_eq_true rfl) (k_X11_none hX 8 σ hp1) dX11_marked_18 rfl rfl ?_
  have ho := Option.some.inj hf
  subst ho
  exact g_ireturn (pc := 21) (st := []) rfl dX11_marked_21 hk
noncomputable def f_X11_marked (v1 : Int32) (σ : am_H) : Option (Int32 × am_H) :=
  if v1 < 0 then
   (f_X11_marked_15 σ)
  else
  if v1 < (σ.1 9 0 9) then
   ((am_ix 30 v1).bind fun j3 =>
   (f_X11_answer (σ.1 1010 0 j3) σ).bind fun p4 =>
   some (p4.1, p4.2))
  else
  f_X11_marked_15 σ
set_option maxRecDepth 100000 in
set_option maxHeartbeats 4000000 in
theorem q_X11_marked {X : am_X} (hX : am_wC X) {Q : Option Value → am_H → Prop} (v1 : Int32) (σ : am_H) {o : Int32 × am_H} (hf : f_X11_marked v1 σ = some o) (hk : Q (some (.int o.1)) o.2) : am_G X gm_X11_marked Q 0 [(0, .ref (am_ad X 11 0)), (1, .int v1)] [] σ := by
  unfold f_X11_marked at hf
  refine g_iload_n (pc := 0) 1 rfl dX11_marked_0 rfl ?_
  refine bz_lt (pc := 1) 15 dX11_marked_1 rfl (fun c1 => ?_) (fun c1 => ?_)
  · replace hf := am_ifT c1 hf
    exact am_sub [0] rfl (q_X11_marked_15 hX σ hf hk)
  replace hf := am_ifF c1 hf
  refine g_iload_n (pc := 4) 1 rfl dX11_marked_4 rfl ?_
  refine g_aload_n (pc := 5) 0 rfl dX11_marked_5 rfl ?_
  refine g_getC (pc := 6) (e := 0) (in_11 hX.1 (by omega)) fr_X11_58 dX11_marked_6 rfl ?_
  refine g_getI (pc := 9) (in_9 hX.1 (by omega)) fr_X11_488 dX11_marked_9 ?_
  refine bi_lt (pc := 12) 22 dX11_marked_12 rfl (fun c2 => ?_) (fun c2 => ?_)
  · replace hf := am_ifT c2 hf
    refine g_aload_n (pc := 22) 0 rfl dX11_marked_22 rfl ?_
    refine g_aload_n (pc := 23) 0 rfl dX11_marked_23 rfl ?_
    refine g_getC (pc := 24) (e := 0) (in_11 hX.1 (by omega)) fr_X11_58 dX11_marked_24 rfl ?_
    refine g_getC (pc := 27) (e := 0) (in_9 hX.1 (by omega)) fr_X11_494 dX11_marked_27 rfl ?_
    refine g_iload_n (pc := 30) 1 rfl dX11_marked_30 rfl ?_
    obtain ⟨j3, hj3, hf⟩ := am_bd hf
    have gj3 := am_ix_lt hj3
    refine g_aI (pc := 31) (in_1010 hX.1 (by omega)) ak_1010 hj3 dX11_marked_31 ?_
    obtain ⟨p4, hp4, hf⟩ := am_bd hf
    refine g_cV (pc := 32) (As := [.int (σ.1 1010 0 j3)]) (st := []) (st1 := [.int p4.1]) (in_11 hX.1 (by omega)) kk_11 mV_X11_answer ln_X11_176 rfl (Nat.le_of_ble_eq_true rfl) (Nat.le_of_ble_eq_true rfl) (k_X11_answer hX (σ.1 1010 0 j3) σ hp4) dX11_marked_32 rfl rfl ?_
    have ho := Option.some.inj hf
    subst ho
    exact g_ireturn (pc := 35) (st := []) rfl dX11_marked_35 hk
  replace hf := am_ifF c2 hf
  exact am_sub [0] rfl (q_X11_marked_15 hX σ hf hk)
theorem k_X11_marked {X : am_X} (hX : am_wC X) (v1 : Int32) (σ : am_H) {o : Int32 × am_H} (hf : f_X11_marked v1 σ = some o) : am_C X gm_X11_marked [.ref (am_ad X 11 0), .int v1] σ (am_is (some (.int o.1)) o.2) :=
  am_ofG rfl (Nat.le_of_ble_eq_true rfl) rfl (q_X11_marked hX v1 σ hf ⟨rfl, rfl⟩)
